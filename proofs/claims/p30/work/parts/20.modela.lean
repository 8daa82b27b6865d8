set_option maxRecDepth 100000 in
set_option maxHeartbeats 800000 in
theorem s_X5_isIn {l : Launch} {I : Nat → Nat → Int32} {J : Nat → Nat → Int64} {V : Nat → Nat → Option Nat} {N : Nat → Nat} {L : List Nat} {K : aj_K} {x a b : Int32} (hK : K (.inl (some (.int (bI (pIn x a b))))) I J V N L) : aj_M l yX5_isIn (aj_wc yX5_isIn cX5_isIn 3 (some .boolean)) (aj_rm 0 0 0) [] [.int x, .int a, .int b] I J V N L K := by
  refine aj_intro (tbl := t_X5_isIn) (lv0 := [some (.int x), some (.int a), some (.int b)]) (by decide) T_X5_isIn aj_f0 (Nat.le_of_ble_eq_true rfl) rfl ?_
  intro G hl C Z NX hnm hGL hGF
  have C : aj_C G cX5_isIn t_X5_isIn RX5 (aj_rm 0 0 0) 3 := C
  refine y_iload0 (q := 1) C 0 rfl rfl ?_
  refine y_iload1 (q := 2) C 1 rfl rfl ?_
  refine x_icmp_lt (q := 5) (t := 14) C 2 rfl (by decide) rfl (fun c1 => ?_) (fun c1 => ?_)
  · skip
    refine x_iconst (q := 15) C 8 (n := (0)) (v := (0)) rfl rfl rfl ?_
    exact x_ireturn C Z 9 rfl rfl rfl (aj_lf hK (by clear hK C Z; simp_all [pIn, bI_0, bI_1, ← Int32.not_le]))
  · skip
    refine y_iload0 (q := 6) C 3 rfl rfl ?_
    refine y_iload2 (q := 7) C 4 rfl rfl ?_
    refine x_icmp_gt (q := 10) (t := 14) C 5 rfl (by decide) rfl (fun c2 => ?_) (fun c2 => ?_)
    · skip
      refine x_iconst (q := 15) C 8 (n := (0)) (v := (0)) rfl rfl rfl ?_
      exact x_ireturn C Z 9 rfl rfl rfl (aj_lf hK (by clear hK C Z; simp_all [pIn, bI_0, bI_1, ← Int32.not_le]))
    · skip
      refine x_iconst (q := 11) C 6 (n := (1)) (v := (1)) rfl rfl rfl ?_
      refine x_goto (t := 15) C 7 rfl (by decide) ?_
      exact x_ireturn C Z 9 rfl rfl rfl (aj_lf hK (by clear hK C Z; simp_all [pIn, bI_0, bI_1, ← Int32.not_le]))
set_option maxRecDepth 100000 in
set_option maxHeartbeats 800000 in
theorem s_X5_isNoCell {l : Launch} {I : Nat → Nat → Int32} {J : Nat → Nat → Int64} {V : Nat → Nat → Option Nat} {N : Nat → Nat} {L : List Nat} {K : aj_K} {x : Int32} (hK : K (.inl (some (.int (bI (!pIn x 0 7))))) I J V N L) : aj_M l yX5_isNoCell (aj_wc yX5_isNoCell cX5_isNoCell 1 (some .boolean)) (aj_rm 1 0 0) [] [.int x] I J V N L K := by
  refine aj_intro (tbl := t_X5_isNoCell) (lv0 := [some (.int x)]) (by decide) T_X5_isNoCell aj_f0 (Nat.le_of_ble_eq_true rfl) rfl ?_
  intro G hl C Z NX hnm hGL hGF
  have C : aj_C G cX5_isNoCell t_X5_isNoCell RX5 (aj_rm 1 0 0) 1 := C
  refine y_iload0 (q := 1) C 0 rfl rfl ?_
  refine x_iconst (q := 2) C 1 (n := (0)) (v := (0)) rfl rfl rfl ?_
  refine x_bipush (q := 4) C 2 (n := (7)) (v := (7)) rfl rfl rfl ?_
  refine y_cS3 (q := 7) C 3 rfl rfl ml_RX5_40 cd_X5_isIn sv_X5_isIn (by decide) (by decide) (Nat.le_of_ble_eq_true rfl) (s_X5_isIn ?_)
  show aj_X G 7 _ _ _ _ _ _ _ _ _
  refine x_if_neB (q := 10) (t := 14) C 4 rfl (by decide) rfl (fun c1 => ?_) (fun c1 => ?_)
  · skip
    refine x_iconst (q := 15) C 7 (n := (0)) (v := (0)) rfl rfl rfl ?_
    exact x_ireturn C Z 8 rfl rfl rfl (aj_lf hK (by clear hK C Z; simp_all [bI_0, bI_1]))
  · skip
    refine x_iconst (q := 11) C 5 (n := (1)) (v := (1)) rfl rfl rfl ?_
    refine x_goto (t := 15) C 6 rfl (by decide) ?_
    exact x_ireturn C Z 8 rfl rfl rfl (aj_lf hK (by clear hK C Z; simp_all [bI_0, bI_1]))
set_option maxRecDepth 100000 in
set_option maxHeartbeats 800000 in
theorem s_X5_isNoAt {l : Launch} {I : Nat → Nat → Int32} {J : Nat → Nat → Int64} {V : Nat → Nat → Option Nat} {N : Nat → Nat} {L : List Nat} {K : aj_K} {x y : Int32} (hK : K (.inl (some (.int (bI (!(pIn x (-64) 63 && pIn y (-64) 63)))))) I J V N L) : aj_M l yX5_isNoAt (aj_wc yX5_isNoAt cX5_isNoAt 2 (some .boolean)) (aj_rm 1 0 0) [] [.int x, .int y] I J V N L K := by
  refine aj_intro (tbl := t_X5_isNoAt) (lv0 := [some (.int x), some (.int y)]) (by decide) T_X5_isNoAt aj_f0 (Nat.le_of_ble_eq_true rfl) rfl ?_
  intro G hl C Z NX hnm hGL hGF
  have C : aj_C G cX5_isNoAt t_X5_isNoAt RX5 (aj_rm 1 0 0) 2 := C
  refine y_iload0 (q := 1) C 0 rfl rfl ?_
  refine x_bipush (q := 3) C 1 (n := (-64)) (v := (-64)) rfl rfl rfl ?_
  refine x_bipush (q := 5) C 2 (n := (63)) (v := (63)) rfl rfl rfl ?_
  refine y_cS3 (q := 8) C 3 rfl rfl ml_RX5_40 cd_X5_isIn sv_X5_isIn (by decide) (by decide) (Nat.le_of_ble_eq_true rfl) (s_X5_isIn ?_)
  show aj_X G 8 _ _ _ _ _ _ _ _ _
  refine x_if_eqB (q := 11) (t := 22) C 4 rfl (by decide) rfl (fun c1 => ?_) (fun c1 => ?_)
  · skip
    refine x_iconst (q := 23) C 10 (n := (1)) (v := (1)) rfl rfl rfl ?_
    refine x_goto (t := 27) C 11 rfl (by decide) ?_
    exact x_ireturn C Z 13 rfl rfl rfl (aj_lf hK (by clear hK C Z; simp_all [bI_0, bI_1]))
  · skip
    refine y_iload1 (q := 12) C 5 rfl rfl ?_
    refine x_bipush (q := 14) C 6 (n := (-64)) (v := (-64)) rfl rfl rfl ?_
    refine x_bipush (q := 16) C 7 (n := (63)) (v := (63)) rfl rfl rfl ?_
    refine y_cS3 (q := 19) C 8 rfl rfl ml_RX5_40 cd_X5_isIn sv_X5_isIn (by decide) (by decide) (Nat.le_of_ble_eq_true rfl) (s_X5_isIn ?_)
    show aj_X G 19 _ _ _ _ _ _ _ _ _
    refine x_if_neB (q := 22) (t := 26) C 9 rfl (by decide) rfl (fun c2 => ?_) (fun c2 => ?_)
    · skip
      refine x_iconst (q := 27) C 12 (n := (0)) (v := (0)) rfl rfl rfl ?_
      exact x_ireturn C Z 13 rfl rfl rfl (aj_lf hK (by clear hK C Z; simp_all [bI_0, bI_1]))
    · skip
      refine x_iconst (q := 23) C 10 (n := (1)) (v := (1)) rfl rfl rfl ?_
      refine x_goto (t := 27) C 11 rfl (by decide) ?_
      exact x_ireturn C Z 13 rfl rfl rfl (aj_lf hK (by clear hK C Z; simp_all [bI_0, bI_1]))
set_option maxRecDepth 100000 in
set_option maxHeartbeats 800000 in
theorem s_X5_isNoPlace {l : Launch} {I : Nat → Nat → Int32} {J : Nat → Nat → Int64} {V : Nat → Nat → Option Nat} {N : Nat → Nat} {L : List Nat} {K : aj_K} {x : Int32} (hB : bV V N L) (hK : K (.inl (some (.int (bI (!pIn x 0 (I 22 7 - 1)))))) I J V N L) : aj_M l yX5_isNoPlace (aj_wc yX5_isNoPlace cX5_isNoPlace 2 (some .boolean)) (aj_rm 1 0 0) [] [.ref 22, .int x] I J V N L K := by
  refine aj_intro (tbl := t_X5_isNoPlace) (lv0 := [some (.ref 22), some (.int x)]) (by decide) T_X5_isNoPlace aj_f0 (Nat.le_of_ble_eq_true rfl) rfl ?_
  intro G hl C Z NX hnm hGL hGF
  have C : aj_C G cX5_isNoPlace t_X5_isNoPlace RX5 (aj_rm 1 0 0) 2 := C
  refine y_iload1 (q := 1) C 0 rfl rfl ?_
  refine x_iconst (q := 2) C 1 (n := (0)) (v := (0)) rfl rfl rfl ?_
  refine y_aload0 (q := 3) C 2 rfl rfl ?_
  refine x_getI (q := 6) C 3 rfl rfl fl_RX5_44 (fun _ _ => rfl) (by first | assumption | rfl | decide | exact bL hB _ (by decide)) (by first | assumption | rfl | decide | exact bL hB _ (by decide)) ?_
  refine x_iconst (q := 7) C 4 (n := (1)) (v := (1)) rfl rfl rfl ?_
  refine x_isub (q := 8) C 5 rfl rfl ?_
  refine y_cS3 (q := 11) C 6 rfl rfl ml_RX5_40 cd_X5_isIn sv_X5_isIn (by decide) (by decide) (Nat.le_of_ble_eq_true rfl) (s_X5_isIn ?_)
  show aj_X G 11 _ _ _ _ _ _ _ _ _
  refine x_if_neB (q := 14) (t := 18) C 7 rfl (by decide) rfl (fun c1 => ?_) (fun c1 => ?_)
  · skip
    refine x_iconst (q := 19) C 10 (n := (0)) (v := (0)) rfl rfl rfl ?_
    exact x_ireturn C Z 11 rfl rfl rfl (aj_lf hK (by clear hK C Z; simp_all [bI_0, bI_1]))
  · skip
    refine x_iconst (q := 15) C 8 (n := (1)) (v := (1)) rfl rfl rfl ?_
    refine x_goto (t := 19) C 9 rfl (by decide) ?_
    exact x_ireturn C Z 11 rfl rfl rfl (aj_lf hK (by clear hK C Z; simp_all [bI_0, bI_1]))
set_option maxRecDepth 100000 in
set_option maxHeartbeats 800000 in
theorem s_X5_one {l : Launch} {I : Nat → Nat → Int32} {J : Nat → Nat → Int64} {V : Nat → Nat → Option Nat} {N : Nat → Nat} {L : List Nat} {K : aj_K} {x : Int32} (hK : K (.inl (some (.int (pOne x)))) I J V N L) : aj_M l yX5_one (aj_wc yX5_one cX5_one 1 (some .int)) (aj_rm 0 0 0) [] [.int x] I J V N L K := by
  refine aj_intro (tbl := t_X5_one) (lv0 := [some (.int x)]) (by decide) T_X5_one aj_f0 (Nat.le_of_ble_eq_true rfl) rfl ?_
  intro G hl C Z NX hnm hGL hGF
  have C : aj_C G cX5_one t_X5_one RX5 (aj_rm 0 0 0) 1 := C
  refine y_iload0 (q := 1) C 0 rfl rfl ?_
  refine x_if_eq (q := 4) (t := 8) C 1 rfl (by decide) rfl (fun c1 => ?_) (fun c1 => ?_)
  · skip
    refine x_iconst (q := 9) C 4 (n := (0)) (v := (0)) rfl rfl rfl ?_
    exact x_ireturn C Z 5 rfl rfl rfl (aj_lf hK (by clear hK C Z; simp_all [pOne]))
  · skip
    refine x_iconst (q := 5) C 2 (n := (1)) (v := (1)) rfl rfl rfl ?_
    refine x_goto (t := 9) C 3 rfl (by decide) ?_
    exact x_ireturn C Z 5 rfl rfl rfl (aj_lf hK (by clear hK C Z; simp_all [pOne]))
set_option maxRecDepth 100000 in
set_option maxHeartbeats 800000 in
theorem s_X5_cross {l : Launch} {I : Nat → Nat → Int32} {J : Nat → Nat → Int64} {V : Nat → Nat → Option Nat} {N : Nat → Nat} {L : List Nat} {K : aj_K} {a b c d : Int32} (hK : K (.inl (some (.int (mCr a b c d)))) I J V N L) : aj_M l yX5_cross (aj_wc yX5_cross cX5_cross 4 (some .int)) (aj_rm 0 0 0) [] [.int a, .int b, .int c, .int d] I J V N L K := by
  refine aj_intro (tbl := t_X5_cross) (lv0 := [some (.int a), some (.int b), some (.int c), some (.int d)]) (by decide) T_X5_cross aj_f0 (Nat.le_of_ble_eq_true rfl) rfl ?_
  intro G hl C Z NX hnm hGL hGF
  have C : aj_C G cX5_cross t_X5_cross RX5 (aj_rm 0 0 0) 4 := C
  refine y_iload0 (q := 1) C 0 rfl rfl ?_
  refine y_iload3 (q := 2) C 1 rfl rfl ?_
  refine x_imul (q := 3) C 2 rfl rfl ?_
  refine y_iload1 (q := 4) C 3 rfl rfl ?_
  refine y_iload2 (q := 5) C 4 rfl rfl ?_
  refine x_imul (q := 6) C 5 rfl rfl ?_
  refine x_isub (q := 7) C 6 rfl rfl ?_
  exact x_ireturn C Z 7 rfl rfl rfl (hK)
set_option maxRecDepth 100000 in
set_option maxHeartbeats 800000 in
theorem s_X5_dot {l : Launch} {I : Nat → Nat → Int32} {J : Nat → Nat → Int64} {V : Nat → Nat → Option Nat} {N : Nat → Nat} {L : List Nat} {K : aj_K} {a b c d : Int32} (hK : K (.inl (some (.int (mDt a b c d)))) I J V N L) : aj_M l yX5_dot (aj_wc yX5_dot cX5_dot 4 (some .int)) (aj_rm 0 0 0) [] [.int a, .int b, .int c, .int d] I J V N L K := by
  refine aj_intro (tbl := t_X5_dot) (lv0 := [some (.int a), some (.int b), some (.int c), some (.int d)]) (by decide) T_X5_dot aj_f0 (Nat.le_of_ble_eq_true rfl) rfl ?_
  intro G hl C Z NX hnm hGL hGF
  have C : aj_C G cX5_dot t_X5_dot RX5 (aj_rm 0 0 0) 4 := C
  refine y_iload0 (q := 1) C 0 rfl rfl ?_
  refine y_iload2 (q := 2) C 1 rfl rfl ?_
  refine x_imul (q := 3) C 2 rfl rfl ?_
  refine y_iload1 (q := 4) C 3 rfl rfl ?_
  refine y_iload3 (q := 5) C 4 rfl rfl ?_
  refine x_imul (q := 6) C 5 rfl rfl ?_
  refine x_iadd (q := 7) C 6 rfl rfl ?_
  exact x_ireturn C Z 7 rfl rfl rfl (hK)
set_option maxRecDepth 100000 in
set_option maxHeartbeats 800000 in
theorem s_X5_sign {l : Launch} {I : Nat → Nat → Int32} {J : Nat → Nat → Int64} {V : Nat → Nat → Option Nat} {N : Nat → Nat} {L : List Nat} {K : aj_K} {x s : Int32} (hK : K (.inl (some (.int (mSgn x s)))) I J V N L) : aj_M l yX5_sign (aj_wc yX5_sign cX5_sign 2 (some .int)) (aj_rm 1 0 0) [] [.int x, .int s] I J V N L K := by
  refine aj_intro (tbl := t_X5_sign) (lv0 := [some (.int x), some (.int s)]) (by decide) T_X5_sign aj_f0 (Nat.le_of_ble_eq_true rfl) rfl ?_
  intro G hl C Z NX hnm hGL hGF
  have C : aj_C G cX5_sign t_X5_sign RX5 (aj_rm 1 0 0) 2 := C
  refine y_iload0 (q := 1) C 0 rfl rfl ?_
  refine x_if_ne (q := 4) (t := 8) C 1 rfl (by decide) rfl (fun c1 => ?_) (fun c1 => ?_)
  · skip
    refine y_iload0 (q := 9) C 4 rfl rfl ?_
    refine x_if_ge (q := 12) (t := 16) C 5 rfl (by decide) rfl (fun c2 => ?_) (fun c2 => ?_)
    · skip
      refine x_iconst (q := 17) C 8 (n := (0)) (v := (0)) rfl rfl rfl ?_
      refine y_cS1 (q := 20) C 9 rfl rfl ml_RX5_47 cd_X5_one sv_X5_one (by decide) (by decide) (Nat.le_of_ble_eq_true rfl) (s_X5_one ?_)
      show aj_X G 20 _ _ _ _ _ _ _ _ _
      exact x_ireturn C Z 10 rfl rfl rfl (aj_lf hK (by clear hK C Z; simp_all [mSgn, pOne, ← Int32.not_le]))
    · skip
      refine x_iconst (q := 13) C 6 (n := (1)) (v := (1)) rfl rfl rfl ?_
      refine x_goto (t := 17) C 7 rfl (by decide) ?_
      refine y_cS1 (q := 20) C 9 rfl rfl ml_RX5_47 cd_X5_one sv_X5_one (by decide) (by decide) (Nat.le_of_ble_eq_true rfl) (s_X5_one ?_)
      show aj_X G 20 _ _ _ _ _ _ _ _ _
      exact x_ireturn C Z 10 rfl rfl rfl (aj_lf hK (by clear hK C Z; simp_all [mSgn, pOne, ← Int32.not_le]))
  · skip
    refine y_iload1 (q := 5) C 2 rfl rfl ?_
    refine x_goto (t := 20) C 3 rfl (by decide) ?_
    exact x_ireturn C Z 10 rfl rfl rfl (aj_lf hK (by clear hK C Z; simp_all [mSgn, pOne, ← Int32.not_le]))
set_option maxRecDepth 100000 in
set_option maxHeartbeats 800000 in
theorem s_X5_orderOf {l : Launch} {I : Nat → Nat → Int32} {J : Nat → Nat → Int64} {V : Nat → Nat → Option Nat} {N : Nat → Nat} {L : List Nat} {K : aj_K} {a b c d e f : Int32} (hK : K (.inl (some (.int (mOrd a b c d e f)))) I J V N L) : aj_M l yX5_orderOf (aj_wc yX5_orderOf cX5_orderOf 7 (some .int)) (aj_rm 1 0 0) [] [.int a, .int b, .int c, .int d, .int e, .int f] I J V N L K := by
  refine aj_intro (tbl := t_X5_orderOf) (lv0 := [some (.int a), some (.int b), some (.int c), some (.int d), some (.int e), some (.int f), none]) (by decide) T_X5_orderOf aj_f0 (Nat.le_of_ble_eq_true rfl) rfl ?_
  intro G hl C Z NX hnm hGL hGF
  have C : aj_C G cX5_orderOf t_X5_orderOf RX5 (aj_rm 1 0 0) 7 := C
  refine y_iload2 (q := 1) C 0 rfl rfl ?_
  refine y_iload5 (q := 3) C 1 rfl rfl ?_
  refine x_icmp_eq (q := 6) (t := 11) C 2 rfl (by decide) rfl (fun c1 => ?_) (fun c1 => ?_)
  · skip
    refine y_iload0 (q := 12) C 7 rfl rfl ?_
    refine y_iload1 (q := 13) C 8 rfl rfl ?_
    refine y_iload3 (q := 14) C 9 rfl rfl ?_
    refine y_iload4 (q := 16) C 10 rfl rfl ?_
    refine y_cS4 (q := 19) C 11 rfl rfl ml_RX5_51 cd_X5_cross sv_X5_cross (by decide) (by decide) (Nat.le_of_ble_eq_true rfl) (s_X5_cross ?_)
    show aj_X G 19 _ _ _ _ _ _ _ _ _
    refine y_istore6 (q := 21) C 12 rfl rfl (Nat.le_of_ble_eq_true rfl) rfl ?_
    refine y_iload6 (q := 23) C 13 rfl rfl ?_
    refine x_if_eq (q := 26) (t := 37) C 14 rfl (by decide) rfl (fun c2 => ?_) (fun c2 => ?_)
    · skip
      refine y_iload0 (q := 38) C 21 rfl rfl ?_
      refine y_iload1 (q := 39) C 22 rfl rfl ?_
      refine y_iload3 (q := 40) C 23 rfl rfl ?_
      refine y_iload4 (q := 42) C 24 rfl rfl ?_
      refine y_cS4 (q := 45) C 25 rfl rfl ml_RX5_55 cd_X5_dot sv_X5_dot (by decide) (by decide) (Nat.le_of_ble_eq_true rfl) (s_X5_dot ?_)
      show aj_X G 45 _ _ _ _ _ _ _ _ _
      refine x_if_le (q := 48) (t := 50) C 26 rfl (by decide) rfl (fun c3 => ?_) (fun c3 => ?_)
      · skip
        refine y_iload0 (q := 51) C 29 rfl rfl ?_
        refine x_if_le (q := 54) (t := 58) C 30 rfl (by decide) rfl (fun c4 => ?_) (fun c4 => ?_)
        · skip
          refine x_iconst (q := 59) C 33 (n := (0)) (v := (0)) rfl rfl rfl ?_
          refine y_iload2 (q := 60) C 34 rfl rfl ?_
          refine x_if_ne (q := 63) (t := 67) C 35 rfl (by decide) rfl (fun c5 => ?_) (fun c5 => ?_)
          · skip
            refine x_iconst (q := 68) C 38 (n := (0)) (v := (0)) rfl rfl rfl ?_
            refine x_icmp_ne (q := 71) (t := 75) C 39 rfl (by decide) rfl (fun c6 => ?_) (fun c6 => ?_)
            · skip
              exact absurd c6 (by decide)
            · skip
              refine x_iconst (q := 72) C 40 (n := (-1)) (v := (-1)) rfl rfl rfl ?_
              refine x_goto (t := 76) C 41 rfl (by decide) ?_
              exact x_ireturn C Z 43 rfl rfl rfl (aj_lf hK (by clear hK C Z; simp_all [mOrd, ← Int32.not_le]))
          · skip
            refine x_iconst (q := 64) C 36 (n := (1)) (v := (1)) rfl rfl rfl ?_
            refine x_goto (t := 68) C 37 rfl (by decide) ?_
            refine x_icmp_ne (q := 71) (t := 75) C 39 rfl (by decide) rfl (fun c7 => ?_) (fun c7 => ?_)
            · skip
              refine x_iconst (q := 76) C 42 (n := (1)) (v := (1)) rfl rfl rfl ?_
              exact x_ireturn C Z 43 rfl rfl rfl (aj_lf hK (by clear hK C Z; simp_all [mOrd, ← Int32.not_le]))
            · skip
              exact absurd c7 (by decide)
        · skip
          refine x_iconst (q := 55) C 31 (n := (1)) (v := (1)) rfl rfl rfl ?_
          refine x_goto (t := 59) C 32 rfl (by decide) ?_
          refine y_iload2 (q := 60) C 34 rfl rfl ?_
          refine x_if_ne (q := 63) (t := 67) C 35 rfl (by decide) rfl (fun c8 => ?_) (fun c8 => ?_)
          · skip
            refine x_iconst (q := 68) C 38 (n := (0)) (v := (0)) rfl rfl rfl ?_
            refine x_icmp_ne (q := 71) (t := 75) C 39 rfl (by decide) rfl (fun c9 => ?_) (fun c9 => ?_)
            · skip
              refine x_iconst (q := 76) C 42 (n := (1)) (v := (1)) rfl rfl rfl ?_
              exact x_ireturn C Z 43 rfl rfl rfl (aj_lf hK (by clear hK C Z; simp_all [mOrd, ← Int32.not_le]))
            · skip
              exact absurd c9 (by decide)
          · skip
            refine x_iconst (q := 64) C 36 (n := (1)) (v := (1)) rfl rfl rfl ?_
            refine x_goto (t := 68) C 37 rfl (by decide) ?_
            refine x_icmp_ne (q := 71) (t := 75) C 39 rfl (by decide) rfl (fun c10 => ?_) (fun c10 => ?_)
            · skip
              exact absurd c10 (by decide)
            · skip
              refine x_iconst (q := 72) C 40 (n := (-1)) (v := (-1)) rfl rfl rfl ?_
              refine x_goto (t := 76) C 41 rfl (by decide) ?_
              exact x_ireturn C Z 43 rfl rfl rfl (aj_lf hK (by clear hK C Z; simp_all [mOrd, ← Int32.not_le]))
      · skip
        refine x_iconst (q := 49) C 27 (n := (0)) (v := (0)) rfl rfl rfl ?_
        exact x_ireturn C Z 28 rfl rfl rfl (aj_lf hK (by clear hK C Z; simp_all [mOrd, ← Int32.not_le]))
    · skip
      refine y_iload6 (q := 28) C 15 rfl rfl ?_
      refine x_if_le (q := 31) (t := 35) C 16 rfl (by decide) rfl (fun c11 => ?_) (fun c11 => ?_)
      · skip
        refine x_iconst (q := 36) C 19 (n := (1)) (v := (1)) rfl rfl rfl ?_
        exact x_ireturn C Z 20 rfl rfl rfl (aj_lf hK (by clear hK C Z; simp_all [mOrd, ← Int32.not_le]))
      · skip
        refine x_iconst (q := 32) C 17 (n := (-1)) (v := (-1)) rfl rfl rfl ?_
        refine x_goto (t := 36) C 18 rfl (by decide) ?_
        exact x_ireturn C Z 20 rfl rfl rfl (aj_lf hK (by clear hK C Z; simp_all [mOrd, ← Int32.not_le]))
  · skip
    refine y_iload5 (q := 8) C 3 rfl rfl ?_
    refine y_iload2 (q := 9) C 4 rfl rfl ?_
    refine x_isub (q := 10) C 5 rfl rfl ?_
    exact x_ireturn C Z 6 rfl rfl rfl (aj_lf hK (by clear hK C Z; simp_all [mOrd, ← Int32.not_le]))
set_option maxRecDepth 100000 in
set_option maxHeartbeats 800000 in
theorem s_X5_wayOrder {l : Launch} {I : Nat → Nat → Int32} {J : Nat → Nat → Int64} {V : Nat → Nat → Option Nat} {N : Nat → Nat} {L : List Nat} {K : aj_K} {a b c d : Int32} (hK : K (.inl (some (.int (vWO a b c d)))) I J V N L) : aj_M l yX5_wayOrder (aj_wc yX5_wayOrder cX5_wayOrder 4 (some .int)) (aj_rm 2 0 0) [] [.int a, .int b, .int c, .int d] I J V N L K := by
  refine aj_intro (tbl := t_X5_wayOrder) (lv0 := [some (.int a), some (.int b), some (.int c), some (.int d)]) (by decide) T_X5_wayOrder aj_f0 (Nat.le_of_ble_eq_true rfl) rfl ?_
  intro G hl C Z NX hnm hGL hGF
  have C : aj_C G cX5_wayOrder t_X5_wayOrder RX5 (aj_rm 2 0 0) 4 := C
  refine y_iload0 (q := 1) C 0 rfl rfl ?_
  refine y_iload1 (q := 2) C 1 rfl rfl ?_
  refine y_iload1 (q := 3) C 2 rfl rfl ?_
  refine x_if_ge (q := 6) (t := 10) C 3 rfl (by decide) rfl (fun c1 => ?_) (fun c1 => ?_)
  · skip
    refine x_iconst (q := 11) C 6 (n := (0)) (v := (0)) rfl rfl rfl ?_
    refine y_cS1 (q := 14) C 7 rfl rfl ml_RX5_47 cd_X5_one sv_X5_one (by decide) (by decide) (Nat.le_of_ble_eq_true rfl) (s_X5_one ?_)
    show aj_X G 14 _ _ _ _ _ _ _ _ _
    refine y_iload2 (q := 15) C 8 rfl rfl ?_
    refine y_iload3 (q := 16) C 9 rfl rfl ?_
    refine y_iload3 (q := 17) C 10 rfl rfl ?_
    refine x_if_ge (q := 20) (t := 24) C 11 rfl (by decide) rfl (fun c2 => ?_) (fun c2 => ?_)
    · skip
      refine x_iconst (q := 25) C 14 (n := (0)) (v := (0)) rfl rfl rfl ?_
      refine y_cS1 (q := 28) C 15 rfl rfl ml_RX5_47 cd_X5_one sv_X5_one (by decide) (by decide) (Nat.le_of_ble_eq_true rfl) (s_X5_one ?_)
      show aj_X G 28 _ _ _ _ _ _ _ _ _
      refine y_cS6 (q := 31) C 16 rfl rfl ml_RX5_58 cd_X5_orderOf sv_X5_orderOf (by decide) (by decide) (Nat.le_of_ble_eq_true rfl) (s_X5_orderOf ?_)
      show aj_X G 31 _ _ _ _ _ _ _ _ _
      exact x_ireturn C Z 17 rfl rfl rfl (aj_lf hK (by unfold vWO; rw [show decide (b < 0) = false from decide_eq_false (Int32.not_lt.mpr (by assumption)), show decide (d < 0) = false from decide_eq_false (Int32.not_lt.mpr (by assumption))]; rfl))
    · skip
      refine x_iconst (q := 21) C 12 (n := (1)) (v := (1)) rfl rfl rfl ?_
      refine x_goto (t := 25) C 13 rfl (by decide) ?_
      refine y_cS1 (q := 28) C 15 rfl rfl ml_RX5_47 cd_X5_one sv_X5_one (by decide) (by decide) (Nat.le_of_ble_eq_true rfl) (s_X5_one ?_)
      show aj_X G 28 _ _ _ _ _ _ _ _ _
      refine y_cS6 (q := 31) C 16 rfl rfl ml_RX5_58 cd_X5_orderOf sv_X5_orderOf (by decide) (by decide) (Nat.le_of_ble_eq_true rfl) (s_X5_orderOf ?_)
      show aj_X G 31 _ _ _ _ _ _ _ _ _
      exact x_ireturn C Z 17 rfl rfl rfl (aj_lf hK (by unfold vWO; rw [show decide (b < 0) = false from decide_eq_false (Int32.not_lt.mpr (by assumption)), show decide (d < 0) = true from decide_eq_true (Int32.not_le.mp (by assumption))]; rfl))
  · skip
    refine x_iconst (q := 7) C 4 (n := (1)) (v := (1)) rfl rfl rfl ?_
    refine x_goto (t := 11) C 5 rfl (by decide) ?_
    refine y_cS1 (q := 14) C 7 rfl rfl ml_RX5_47 cd_X5_one sv_X5_one (by decide) (by decide) (Nat.le_of_ble_eq_true rfl) (s_X5_one ?_)
    show aj_X G 14 _ _ _ _ _ _ _ _ _
    refine y_iload2 (q := 15) C 8 rfl rfl ?_
    refine y_iload3 (q := 16) C 9 rfl rfl ?_
    refine y_iload3 (q := 17) C 10 rfl rfl ?_
    refine x_if_ge (q := 20) (t := 24) C 11 rfl (by decide) rfl (fun c3 => ?_) (fun c3 => ?_)
    · skip
      refine x_iconst (q := 25) C 14 (n := (0)) (v := (0)) rfl rfl rfl ?_
      refine y_cS1 (q := 28) C 15 rfl rfl ml_RX5_47 cd_X5_one sv_X5_one (by decide) (by decide) (Nat.le_of_ble_eq_true rfl) (s_X5_one ?_)
      show aj_X G 28 _ _ _ _ _ _ _ _ _
      refine y_cS6 (q := 31) C 16 rfl rfl ml_RX5_58 cd_X5_orderOf sv_X5_orderOf (by decide) (by decide) (Nat.le_of_ble_eq_true rfl) (s_X5_orderOf ?_)
      show aj_X G 31 _ _ _ _ _ _ _ _ _
      exact x_ireturn C Z 17 rfl rfl rfl (aj_lf hK (by unfold vWO; rw [show decide (b < 0) = true from decide_eq_true (Int32.not_le.mp (by assumption)), show decide (d < 0) = false from decide_eq_false (Int32.not_lt.mpr (by assumption))]; rfl))
    · skip
      refine x_iconst (q := 21) C 12 (n := (1)) (v := (1)) rfl rfl rfl ?_
      refine x_goto (t := 25) C 13 rfl (by decide) ?_
      refine y_cS1 (q := 28) C 15 rfl rfl ml_RX5_47 cd_X5_one sv_X5_one (by decide) (by decide) (Nat.le_of_ble_eq_true rfl) (s_X5_one ?_)
      show aj_X G 28 _ _ _ _ _ _ _ _ _
      refine y_cS6 (q := 31) C 16 rfl rfl ml_RX5_58 cd_X5_orderOf sv_X5_orderOf (by decide) (by decide) (Nat.le_of_ble_eq_true rfl) (s_X5_orderOf ?_)
      show aj_X G 31 _ _ _ _ _ _ _ _ _
      exact x_ireturn C Z 17 rfl rfl rfl (aj_lf hK (by unfold vWO; rw [show decide (b < 0) = true from decide_eq_true (Int32.not_le.mp (by assumption)), show decide (d < 0) = true from decide_eq_true (Int32.not_le.mp (by assumption))]; rfl))
set_option maxRecDepth 100000 in
set_option maxHeartbeats 800000 in
theorem s_X5_part {l : Launch} {I : Nat → Nat → Int32} {J : Nat → Nat → Int64} {V : Nat → Nat → Option Nat} {N : Nat → Nat} {L : List Nat} {K : aj_K} {v n d : Int64} (hd : ¬ d = 0) (hK : K (.inl (some (.long (v / d * n + (v - v / d * d) * n / d)))) I J V N L) : aj_M l yX5_part (aj_wc yX5_part cX5_part 6 (some .long)) (aj_rm 0 0 0) [] [.long v, .long n, .long d] I J V N L K := by
  refine aj_intro (tbl := t_X5_part) (lv0 := [some (.long v), none, some (.long n), none, some (.long d), none]) (by decide) T_X5_part aj_f0 (Nat.le_of_ble_eq_true rfl) rfl ?_
  intro G hl C Z NX hnm hGL hGF
  have C : aj_C G cX5_part t_X5_part RX5 (aj_rm 0 0 0) 6 := C
  refine y_lload0 (q := 1) C 0 rfl rfl ?_
  refine y_lload4 (q := 3) C 1 rfl rfl ?_
  refine x_ldiv (q := 4) C 2 hd rfl rfl ?_
  refine y_lload2 (q := 5) C 3 rfl rfl ?_
  refine x_lmul (q := 6) C 4 rfl rfl ?_
  refine y_lload0 (q := 7) C 5 rfl rfl ?_
  refine y_lload4 (q := 9) C 6 rfl rfl ?_
  refine x_lrem (q := 10) C 7 hd rfl rfl ?_
  refine y_lload2 (q := 11) C 8 rfl rfl ?_
  refine x_lmul (q := 12) C 9 rfl rfl ?_
  refine y_lload4 (q := 14) C 10 rfl rfl ?_
  refine x_ldiv (q := 15) C 11 hd rfl rfl ?_
  refine x_ladd (q := 16) C 12 rfl rfl ?_
  exact x_lreturn C Z 13 rfl rfl (hK)
set_option maxRecDepth 100000 in
set_option maxHeartbeats 800000 in
theorem s_X5_arc {l : Launch} {I : Nat → Nat → Int32} {J : Nat → Nat → Int64} {V : Nat → Nat → Option Nat} {N : Nat → Nat} {L : List Nat} {K : aj_K} {h w : Nat} (hw : h ≤ w) (hw2 : w ≤ 127) (h0 : 0 < w) (hK : K (.inl (some (.long (qN (arA h w))))) I J V N L) : aj_M l yX5_arc (aj_wc yX5_arc cX5_arc 11 (some .long)) (aj_rm 1 0 0) [] [.long (qN h), .long (qN w)] I J V N L K := by
  refine aj_intro (tbl := t_X5_arc) (lv0 := [some (.long (qN h)), none, some (.long (qN w)), none, none, none, none, none, none, none, none]) (by decide) T_X5_arc aj_f0 (Nat.le_of_ble_eq_true rfl) rfl ?_
  intro G hl C Z NX hnm hGL hGF
  have C : aj_C G cX5_arc t_X5_arc RX5 (aj_rm 1 0 0) 11 := C
  refine y_lload2 (q := 1) C 0 rfl rfl ?_
  refine y_lload2 (q := 2) C 1 rfl rfl ?_
  refine x_lmul (q := 3) C 2 rfl rfl ?_
  refine y_lload0 (q := 4) C 3 rfl rfl ?_
  refine y_lload0 (q := 5) C 4 rfl rfl ?_
  refine x_lmul (q := 6) C 5 rfl rfl ?_
  refine x_ladd (q := 7) C 6 rfl rfl ?_
  rw [qN_m, qN_m, qN_a]
  refine y_lstore4 (q := 9) C 7 rfl rfl (Nat.le_of_ble_eq_true rfl) rfl ?_
  refine x_ldc2 (q := 12) C 8 kc_RX5_62 rfl rfl ?_
  rw [show (1152921504606846976 : Int64) = qN (2 ^ 60) from rfl]
  refine y_lload2 (q := 13) C 9 rfl rfl ?_
  refine y_lload0 (q := 14) C 10 rfl rfl ?_
  refine x_lmul (q := 15) C 11 rfl rfl ?_
  rw [qN_m]
  refine y_lload4 (q := 17) C 12 rfl rfl ?_
  refine y_cS3 (q := 20) C 13 rfl rfl ml_RX5_64 cd_X5_part sv_X5_part (by decide) (by decide) (Nat.le_of_ble_eq_true rfl) (s_X5_part (arc0 hw hw2 h0).2.2 ?_)
  show aj_X G 20 _ _ _ _ _ _ _ _ _
  rw [(arc0 hw hw2 h0).1]
  refine y_lstore6 (q := 22) C 14 rfl rfl (Nat.le_of_ble_eq_true rfl) rfl ?_
  refine x_lconst (q := 23) C 15 (n := 0) (v := 0) rfl rfl rfl ?_
  refine y_lstore8 (q := 25) C 16 rfl rfl (Nat.le_of_ble_eq_true rfl) rfl ?_
  refine x_iconst (q := 26) C 17 (n := (1)) (v := (1)) rfl rfl rfl ?_
  refine y_istore10 (q := 28) C 18 rfl rfl (Nat.le_of_ble_eq_true rfl) rfl ?_
  have lp28 : ∀ (m i t σ : Nat), m ≤ 60 → i = 61 - m → t < 2 ^ m → σ + arS h (w * w + h * h) m i t = arA h w → aj_X G 28 [some (.long (qN h)), none, some (.long (qN w)), none, some (.long (qN (w * w + h * h))), none, some (.long (qN t)), none, some (.long (qN σ)), none, some (.int (nI i))] [] I J V N L 0 0 := by
    intro m
    induction m with
    | zero =>
      intro i t σ hm hi ht hA0
      refine y_lload6 (q := 30) C 19 rfl rfl ?_
      refine x_lconst (q := 31) C 20 (n := 0) (v := 0) rfl rfl rfl ?_
      refine x_lcmp (q := 32) C 21 rfl rfl ?_
      refine x_if_le (q := 35) (t := 74) C 22 rfl (by decide) rfl (fun c1 => ?_) (fun c1 => ?_)
      · skip
        refine y_lload8 (q := 76) C 48 rfl rfl ?_
        exact x_lreturn C Z 49 rfl rfl (aj_lfL hK (by rw [← hA0, arT ht (by omega) (by assumption), arS_0, Nat.add_zero]))
      · skip
        exact absurd (show qN t ≤ 0 from by rw [show t = 0 by omega]; decide) (by simpa only [lg_cmp_le] using c1)
    | succ m ih =>
      intro i t σ hm hi ht hA0
      refine y_lload6 (q := 30) C 19 rfl rfl ?_
      refine x_lconst (q := 31) C 20 (n := 0) (v := 0) rfl rfl rfl ?_
      refine x_lcmp (q := 32) C 21 rfl rfl ?_
      refine x_if_le (q := 35) (t := 74) C 22 rfl (by decide) rfl (fun c2 => ?_) (fun c2 => ?_)
      · skip
        refine y_lload8 (q := 76) C 48 rfl rfl ?_
        exact x_lreturn C Z 49 rfl rfl (aj_lfL hK (by rw [← hA0, arT ht (by omega) (by assumption), arS_0, Nat.add_zero]))
      · skip
        have ht0 : t ≠ 0 := fun e => by subst e; exact absurd (show lg_cmp (qN 0) 0 ≤ 0 by rw [lg_cmp_le]; decide) (by assumption)
        have hA := arcN (h := h) (s := w * w + h * h) (i := i) (t := t) (m := m) (by omega) (by have := Nat.mul_le_mul hw hw; omega) (by have := sq_up hw2 hw2; have := sq_up (show h ≤ 127 by omega) (show h ≤ 127 by omega); omega) (by have := Nat.mul_pos h0 h0; omega) (by omega) (by omega) ht
        refine y_lload8 (q := 37) C 23 rfl rfl ?_
        refine y_lload6 (q := 39) C 24 rfl rfl ?_
        refine x_ladd (q := 40) C 25 rfl rfl ?_
        rw [qN_a]
        refine y_lstore8 (q := 42) C 26 rfl rfl (Nat.le_of_ble_eq_true rfl) rfl ?_
        refine y_lload6 (q := 44) C 27 rfl rfl ?_
        refine x_iconst (q := 45) C 28 (n := (2)) (v := (2)) rfl rfl rfl ?_
        refine y_iload10 (q := 47) C 29 rfl rfl ?_
        refine x_imul (q := 48) C 30 rfl rfl ?_
        refine x_i2l (q := 49) C 31 rfl rfl ?_
        refine y_lload0 (q := 50) C 32 rfl rfl ?_
        refine x_lmul (q := 51) C 33 rfl rfl ?_
        refine y_lload0 (q := 52) C 34 rfl rfl ?_
        refine x_lmul (q := 53) C 35 rfl rfl ?_
        refine x_iconst (q := 54) C 36 (n := (2)) (v := (2)) rfl rfl rfl ?_
        refine y_iload10 (q := 56) C 37 rfl rfl ?_
        refine x_imul (q := 57) C 38 rfl rfl ?_
        refine x_iconst (q := 58) C 39 (n := (1)) (v := (1)) rfl rfl rfl ?_
        refine x_iadd (q := 59) C 40 rfl rfl ?_
        refine x_i2l (q := 60) C 41 rfl rfl ?_
        refine y_lload4 (q := 62) C 42 rfl rfl ?_
        refine x_lmul (q := 63) C 43 rfl rfl ?_
        refine y_cS3 (q := 66) C 44 rfl rfl ml_RX5_64 cd_X5_part sv_X5_part (by decide) (by decide) (Nat.le_of_ble_eq_true rfl) (s_X5_part hA.2.2 ?_)
        rw [hA.1]
        show aj_X G 66 _ _ _ _ _ _ _ _ _
        refine y_lstore6 (q := 68) C 45 rfl rfl (Nat.le_of_ble_eq_true rfl) rfl ?_
        refine y_iinc10 (q := 71) C 46 rfl rfl (nI_1 i) (Nat.le_of_ble_eq_true rfl) rfl ?_
        refine x_goto (t := 28) C 47 rfl (by decide) ?_
        exact ih _ _ _ (by omega) (by omega) hA.2.1 (by rw [← hA0, arS_s ht0, Nat.add_assoc])
  exact lp28 60 1 _ 0 (by decide) rfl (arc0 hw hw2 h0).2.1 (Nat.zero_add _)
set_option maxRecDepth 100000 in
set_option maxHeartbeats 800000 in
theorem s_X5_gradeOf {l : Launch} {I : Nat → Nat → Int32} {J : Nat → Nat → Int64} {V : Nat → Nat → Option Nat} {N : Nat → Nat} {L : List Nat} {K : aj_K} {a : Int64} {b c : Int32} (hK : K (.inl (some (.int (grR a b c)))) I J V N L) : aj_M l yX5_gradeOf (aj_wc yX5_gradeOf cX5_gradeOf 4 (some .int)) (aj_rm 0 0 0) [] [.long a, .int b, .int c] I J V N L K := by
  refine aj_intro (tbl := t_X5_gradeOf) (lv0 := [some (.long a), none, some (.int b), some (.int c)]) (by decide) T_X5_gradeOf aj_f0 (Nat.le_of_ble_eq_true rfl) rfl ?_
  intro G hl C Z NX hnm hGL hGF
  have C : aj_C G cX5_gradeOf t_X5_gradeOf RX5 (aj_rm 0 0 0) 4 := C
  refine y_iload2 (q := 1) C 0 rfl rfl ?_
  refine x_iconst (q := 2) C 1 (n := (1)) (v := (1)) rfl rfl rfl ?_
  refine x_icmp_ne (q := 5) (t := 10) C 2 rfl (by decide) rfl (fun c1 => ?_) (fun c1 => ?_)
  · skip
    refine y_lload0 (q := 11) C 6 rfl rfl ?_
    refine x_bipush (q := 13) C 7 (n := (60)) (v := (60)) rfl rfl rfl ?_
    refine y_iload3 (q := 14) C 8 rfl rfl ?_
    refine x_isub (q := 15) C 9 rfl rfl ?_
    refine x_lshr (q := 16) C 10 rfl rfl ?_
    refine x_l2i (q := 17) C 11 rfl rfl ?_
    exact x_ireturn C Z 12 rfl rfl rfl (aj_lf hK (by unfold grR; rw [if_neg (by assumption)]))
  · skip
    refine y_lload0 (q := 6) C 3 rfl rfl ?_
    refine x_lneg (q := 7) C 4 rfl rfl ?_
    refine x_goto (t := 11) C 5 rfl (by decide) ?_
    refine x_bipush (q := 13) C 7 (n := (60)) (v := (60)) rfl rfl rfl ?_
    refine y_iload3 (q := 14) C 8 rfl rfl ?_
    refine x_isub (q := 15) C 9 rfl rfl ?_
    refine x_lshr (q := 16) C 10 rfl rfl ?_
    refine x_l2i (q := 17) C 11 rfl rfl ?_
    exact x_ireturn C Z 12 rfl rfl rfl (aj_lf hK (by unfold grR; rw [if_pos (by assumption)]))
set_option maxRecDepth 100000 in
set_option maxHeartbeats 800000 in
theorem s_X5_lookOf {l : Launch} {I : Nat → Nat → Int32} {J : Nat → Nat → Int64} {V : Nat → Nat → Option Nat} {N : Nat → Nat} {L : List Nat} {K : aj_K} {x u s : Int32} (hK : K (.inl (some (.int (mLk x u s)))) I J V N L) : aj_M l yX5_lookOf (aj_wc yX5_lookOf cX5_lookOf 3 (some .int)) (aj_rm 0 0 0) [] [.int x, .int u, .int s] I J V N L K := by
  refine aj_intro (tbl := t_X5_lookOf) (lv0 := [some (.int x), some (.int u), some (.int s)]) (by decide) T_X5_lookOf aj_f0 (Nat.le_of_ble_eq_true rfl) rfl ?_
  intro G hl C Z NX hnm hGL hGF
  have C : aj_C G cX5_lookOf t_X5_lookOf RX5 (aj_rm 0 0 0) 3 := C
  refine y_iload0 (q := 1) C 0 rfl rfl ?_
  refine x_if_ne (q := 4) (t := 16) C 1 rfl (by decide) rfl (fun c1 => ?_) (fun c1 => ?_)
  · skip
    refine y_iload0 (q := 17) C 10 rfl rfl ?_
    exact x_ireturn C Z 11 rfl rfl rfl (aj_lf hK (by clear hK C Z; simp_all [mLk]))
  · skip
    refine y_iload1 (q := 5) C 2 rfl rfl ?_
    refine x_if_ne (q := 8) (t := 16) C 3 rfl (by decide) rfl (fun c2 => ?_) (fun c2 => ?_)
    · skip
      refine y_iload0 (q := 17) C 10 rfl rfl ?_
      exact x_ireturn C Z 11 rfl rfl rfl (aj_lf hK (by clear hK C Z; simp_all [mLk]))
    · skip
      refine x_iconst (q := 9) C 4 (n := (1)) (v := (1)) rfl rfl rfl ?_
      refine x_iconst (q := 10) C 5 (n := (2)) (v := (2)) rfl rfl rfl ?_
      refine y_iload2 (q := 11) C 6 rfl rfl ?_
      refine x_imul (q := 12) C 7 rfl rfl ?_
      refine x_isub (q := 13) C 8 rfl rfl ?_
      refine x_goto (t := 17) C 9 rfl (by decide) ?_
      exact x_ireturn C Z 11 rfl rfl rfl (aj_lf hK (by clear hK C Z; simp_all [mLk]))
set_option maxRecDepth 100000 in
set_option maxHeartbeats 800000 in
theorem s_X5_look {l : Launch} {I : Nat → Nat → Int32} {J : Nat → Nat → Int64} {V : Nat → Nat → Option Nat} {N : Nat → Nat} {L : List Nat} {K : aj_K} {j : Nat} (hj : j < 8) (hB : bV V N L) (hK : K (.inl (some (.int (mL I j)))) I J V N L) : aj_M l yX5_look (aj_wc yX5_look cX5_look 2 (some .int)) (aj_rm 1 0 0) [] [.ref 22, .int (nI j)] I J V N L K := by
  refine aj_intro (tbl := t_X5_look) (lv0 := [some (.ref 22), some (.int (nI j))]) (by decide) T_X5_look aj_f0 (Nat.le_of_ble_eq_true rfl) rfl ?_
  intro G hl C Z NX hnm hGL hGF
  have C : aj_C G cX5_look t_X5_look RX5 (aj_rm 1 0 0) 2 := C
  refine y_aload0 (q := 1) C 0 rfl rfl ?_
  refine x_getR (q := 4) C 1 rfl rfl fl_RX5_9 (bv_6_1 hB) (fun _ _ => rfl) (by first | assumption | rfl | decide | exact bL hB _ (by decide)) (by first | assumption | rfl | decide | exact bL hB _ (by decide)) ?_
  refine y_iload1 (q := 5) C 2 rfl rfl ?_
  refine x_iald (q := 6) C 3 rfl rfl (by first | assumption | rfl | decide | exact bL hB _ (by decide)) (by first | assumption | rfl | decide | exact bL hB _ (by decide)) (by (first | rw [bn24 hB] | rw [bn40 hB] | rw [bn56 hB] | rw [bn72 hB] | rw [bn27 hB] | rw [bn43 hB] | rw [bn25 hB] | rw [bn41 hB] | rw [bn88 hB] | rw [bn104 hB] | rw [bn120 hB] | rw [bn136 hB] | rw [bn152 hB] | rw [bn168 hB]); first | assumption | exact vp_in_nI (by omega) (by decide)) ?_
  rw [nI_clamp (by omega)]
  refine y_aload0 (q := 7) C 4 rfl rfl ?_
  refine x_getR (q := 10) C 5 rfl rfl fl_RX5_13 (bv_6_2 hB) (fun _ _ => rfl) (by first | assumption | rfl | decide | exact bL hB _ (by decide)) (by first | assumption | rfl | decide | exact bL hB _ (by decide)) ?_
  refine y_iload1 (q := 11) C 6 rfl rfl ?_
  refine x_iald (q := 12) C 7 rfl rfl (by first | assumption | rfl | decide | exact bL hB _ (by decide)) (by first | assumption | rfl | decide | exact bL hB _ (by decide)) (by (first | rw [bn24 hB] | rw [bn40 hB] | rw [bn56 hB] | rw [bn72 hB] | rw [bn27 hB] | rw [bn43 hB] | rw [bn25 hB] | rw [bn41 hB] | rw [bn88 hB] | rw [bn104 hB] | rw [bn120 hB] | rw [bn136 hB] | rw [bn152 hB] | rw [bn168 hB]); first | assumption | exact vp_in_nI (by omega) (by decide)) ?_
  rw [nI_clamp (by omega)]
  refine y_aload0 (q := 13) C 8 rfl rfl ?_
  refine x_getR (q := 16) C 9 rfl rfl fl_RX5_16 (bv_6_3 hB) (fun _ _ => rfl) (by first | assumption | rfl | decide | exact bL hB _ (by decide)) (by first | assumption | rfl | decide | exact bL hB _ (by decide)) ?_
  refine y_iload1 (q := 17) C 10 rfl rfl ?_
  refine x_iald (q := 18) C 11 rfl rfl (by first | assumption | rfl | decide | exact bL hB _ (by decide)) (by first | assumption | rfl | decide | exact bL hB _ (by decide)) (by (first | rw [bn24 hB] | rw [bn40 hB] | rw [bn56 hB] | rw [bn72 hB] | rw [bn27 hB] | rw [bn43 hB] | rw [bn25 hB] | rw [bn41 hB] | rw [bn88 hB] | rw [bn104 hB] | rw [bn120 hB] | rw [bn136 hB] | rw [bn152 hB] | rw [bn168 hB]); first | assumption | exact vp_in_nI (by omega) (by decide)) ?_
  rw [nI_clamp (by omega)]
  refine x_iconst (q := 19) C 12 (n := (1)) (v := (1)) rfl rfl rfl ?_
  refine x_iand (q := 20) C 13 rfl rfl ?_
  refine y_cS3 (q := 23) C 14 rfl rfl ml_RX5_88 cd_X5_lookOf sv_X5_lookOf (by decide) (by decide) (Nat.le_of_ble_eq_true rfl) (s_X5_lookOf ?_)
  show aj_X G 23 _ _ _ _ _ _ _ _ _
  exact x_ireturn C Z 15 rfl rfl rfl (hK)
set_option maxRecDepth 100000 in
set_option maxHeartbeats 800000 in
theorem s_X5_upSignOf {l : Launch} {I : Nat → Nat → Int32} {J : Nat → Nat → Int64} {V : Nat → Nat → Option Nat} {N : Nat → Nat} {L : List Nat} {K : aj_K} {j : Nat} (hj : j < 8) (hB : bV V N L) (hK : K (.inl (some (.int (mU I j)))) I J V N L) : aj_M l yX5_upSignOf (aj_wc yX5_upSignOf cX5_upSignOf 2 (some .int)) (aj_rm 0 0 0) [] [.ref 22, .int (nI j)] I J V N L K := by
  refine aj_intro (tbl := t_X5_upSignOf) (lv0 := [some (.ref 22), some (.int (nI j))]) (by decide) T_X5_upSignOf aj_f0 (Nat.le_of_ble_eq_true rfl) rfl ?_
  intro G hl C Z NX hnm hGL hGF
  have C : aj_C G cX5_upSignOf t_X5_upSignOf RX5 (aj_rm 0 0 0) 2 := C
  refine y_aload0 (q := 1) C 0 rfl rfl ?_
  refine x_getR (q := 4) C 1 rfl rfl fl_RX5_16 (bv_6_3 hB) (fun _ _ => rfl) (by first | assumption | rfl | decide | exact bL hB _ (by decide)) (by first | assumption | rfl | decide | exact bL hB _ (by decide)) ?_
  refine y_iload1 (q := 5) C 2 rfl rfl ?_
  refine x_iald (q := 6) C 3 rfl rfl (by first | assumption | rfl | decide | exact bL hB _ (by decide)) (by first | assumption | rfl | decide | exact bL hB _ (by decide)) (by (first | rw [bn24 hB] | rw [bn40 hB] | rw [bn56 hB] | rw [bn72 hB] | rw [bn27 hB] | rw [bn43 hB] | rw [bn25 hB] | rw [bn41 hB] | rw [bn88 hB] | rw [bn104 hB] | rw [bn120 hB] | rw [bn136 hB] | rw [bn152 hB] | rw [bn168 hB]); first | assumption | exact vp_in_nI (by omega) (by decide)) ?_
  rw [nI_clamp (by omega)]
  refine x_iconst (q := 7) C 4 (n := (1)) (v := (1)) rfl rfl rfl ?_
  refine x_ishr (q := 8) C 5 rfl rfl ?_
  exact x_ireturn C Z 6 rfl rfl rfl (hK)
set_option maxRecDepth 100000 in
set_option maxHeartbeats 800000 in
theorem s_X5_isNull {l : Launch} {I : Nat → Nat → Int32} {J : Nat → Nat → Int64} {V : Nat → Nat → Option Nat} {N : Nat → Nat} {L : List Nat} {K : aj_K} {j : Nat} (hj : j < 8) (hB : bV V N L) (hK : K (.inl (some (.int (bI (tNull (I 88 j, I 104 j, I 120 j)))))) I J V N L) : aj_M l yX5_isNull (aj_wc yX5_isNull cX5_isNull 2 (some .boolean)) (aj_rm 0 0 0) [] [.ref 22, .int (nI j)] I J V N L K := by
  refine aj_intro (tbl := t_X5_isNull) (lv0 := [some (.ref 22), some (.int (nI j))]) (by decide) T_X5_isNull aj_f0 (Nat.le_of_ble_eq_true rfl) rfl ?_
  intro G hl C Z NX hnm hGL hGF
  have C : aj_C G cX5_isNull t_X5_isNull RX5 (aj_rm 0 0 0) 2 := C
  refine y_aload0 (q := 1) C 0 rfl rfl ?_
  refine x_getR (q := 4) C 1 rfl rfl fl_RX5_9 (bv_6_1 hB) (fun _ _ => rfl) (by first | assumption | rfl | decide | exact bL hB _ (by decide)) (by first | assumption | rfl | decide | exact bL hB _ (by decide)) ?_
  refine y_iload1 (q := 5) C 2 rfl rfl ?_
  refine x_iald (q := 6) C 3 rfl rfl (by first | assumption | rfl | decide | exact bL hB _ (by decide)) (by first | assumption | rfl | decide | exact bL hB _ (by decide)) (by (first | rw [bn24 hB] | rw [bn40 hB] | rw [bn56 hB] | rw [bn72 hB] | rw [bn27 hB] | rw [bn43 hB] | rw [bn25 hB] | rw [bn41 hB] | rw [bn88 hB] | rw [bn104 hB] | rw [bn120 hB] | rw [bn136 hB] | rw [bn152 hB] | rw [bn168 hB]); first | assumption | exact vp_in_nI (by omega) (by decide)) ?_
  rw [nI_clamp (by omega)]
  refine x_if_ne (q := 9) (t := 22) C 4 rfl (by decide) rfl (fun c1 => ?_) (fun c1 => ?_)
  · skip
    refine x_iconst (q := 23) C 12 (n := (0)) (v := (0)) rfl rfl rfl ?_
    exact x_ireturn C Z 13 rfl rfl rfl (aj_lf hK (by clear hK C Z; simp_all [tNull, bI_0, bI_1]))
  · skip
    refine y_aload0 (q := 10) C 5 rfl rfl ?_
    refine x_getR (q := 13) C 6 rfl rfl fl_RX5_13 (bv_6_2 hB) (fun _ _ => rfl) (by first | assumption | rfl | decide | exact bL hB _ (by decide)) (by first | assumption | rfl | decide | exact bL hB _ (by decide)) ?_
    refine y_iload1 (q := 14) C 7 rfl rfl ?_
    refine x_iald (q := 15) C 8 rfl rfl (by first | assumption | rfl | decide | exact bL hB _ (by decide)) (by first | assumption | rfl | decide | exact bL hB _ (by decide)) (by (first | rw [bn24 hB] | rw [bn40 hB] | rw [bn56 hB] | rw [bn72 hB] | rw [bn27 hB] | rw [bn43 hB] | rw [bn25 hB] | rw [bn41 hB] | rw [bn88 hB] | rw [bn104 hB] | rw [bn120 hB] | rw [bn136 hB] | rw [bn152 hB] | rw [bn168 hB]); first | assumption | exact vp_in_nI (by omega) (by decide)) ?_
    rw [nI_clamp (by omega)]
    refine x_if_ne (q := 18) (t := 22) C 9 rfl (by decide) rfl (fun c2 => ?_) (fun c2 => ?_)
    · skip
      refine x_iconst (q := 23) C 12 (n := (0)) (v := (0)) rfl rfl rfl ?_
      exact x_ireturn C Z 13 rfl rfl rfl (aj_lf hK (by clear hK C Z; simp_all [tNull, bI_0, bI_1]))
    · skip
      refine x_iconst (q := 19) C 10 (n := (1)) (v := (1)) rfl rfl rfl ?_
      refine x_goto (t := 23) C 11 rfl (by decide) ?_
      exact x_ireturn C Z 13 rfl rfl rfl (aj_lf hK (by clear hK C Z; simp_all [tNull, bI_0, bI_1]))
set_option maxRecDepth 100000 in
set_option maxHeartbeats 800000 in
theorem s_X5_isZero {l : Launch} {I : Nat → Nat → Int32} {J : Nat → Nat → Int64} {V : Nat → Nat → Option Nat} {N : Nat → Nat} {L : List Nat} {K : aj_K} {j : Nat} (hj : j < 8) (hB : bV V N L) (hK : K (.inl (some (.int (bI (zzA (I 88 j, I 104 j, I 120 j)))))) I J V N L) : aj_M l yX5_isZero (aj_wc yX5_isZero cX5_isZero 2 (some .boolean)) (aj_rm 2 0 0) [] [.ref 22, .int (nI j)] I J V N L K := by
  refine aj_intro (tbl := t_X5_isZero) (lv0 := [some (.ref 22), some (.int (nI j))]) (by decide) T_X5_isZero aj_f0 (Nat.le_of_ble_eq_true rfl) rfl ?_
  intro G hl C Z NX hnm hGL hGF
  have C : aj_C G cX5_isZero t_X5_isZero RX5 (aj_rm 2 0 0) 2 := C
  refine y_aload0 (q := 1) C 0 rfl rfl ?_
  refine x_getR (q := 4) C 1 rfl rfl fl_RX5_13 (bv_6_2 hB) (fun _ _ => rfl) (by first | assumption | rfl | decide | exact bL hB _ (by decide)) (by first | assumption | rfl | decide | exact bL hB _ (by decide)) ?_
  refine y_iload1 (q := 5) C 2 rfl rfl ?_
  refine x_iald (q := 6) C 3 rfl rfl (by first | assumption | rfl | decide | exact bL hB _ (by decide)) (by first | assumption | rfl | decide | exact bL hB _ (by decide)) (by (first | rw [bn24 hB] | rw [bn40 hB] | rw [bn56 hB] | rw [bn72 hB] | rw [bn27 hB] | rw [bn43 hB] | rw [bn25 hB] | rw [bn41 hB] | rw [bn88 hB] | rw [bn104 hB] | rw [bn120 hB] | rw [bn136 hB] | rw [bn152 hB] | rw [bn168 hB]); first | assumption | exact vp_in_nI (by omega) (by decide)) ?_
  rw [nI_clamp (by omega)]
  refine x_if_ne (q := 9) (t := 21) C 4 rfl (by decide) rfl (fun c1 => ?_) (fun c1 => ?_)
  · skip
    refine x_iconst (q := 22) C 11 (n := (0)) (v := (0)) rfl rfl rfl ?_
    exact x_ireturn C Z 12 rfl rfl rfl (aj_lf hK (by show bI (decide (I 104 j = 0) && decide (0 < mL I j)) = _; rw [decide_eq_false (show ¬ I 104 j = 0 by assumption)]; rfl))
  · skip
    refine y_aload0 (q := 10) C 5 rfl rfl ?_
    refine y_iload1 (q := 11) C 6 rfl rfl ?_
    refine y_cV1 (q := 14) C 7 rfl rfl ml_RX5_94 cd_X5_look cv_X5_look ⟨by decide, rfl⟩ (by first | assumption | rfl | decide | exact bL hB _ (by decide)) (by decide) (by decide) (Nat.le_of_ble_eq_true rfl) (s_X5_look (by first | assumption | rfl | decide | exact bL hB _ (by decide)) (by first | assumption | rfl | decide | exact bL hB _ (by decide)) ?_)
    show aj_X G 14 _ _ _ _ _ _ _ _ _
    refine x_if_le (q := 17) (t := 21) C 8 rfl (by decide) rfl (fun c2 => ?_) (fun c2 => ?_)
    · skip
      refine x_iconst (q := 22) C 11 (n := (0)) (v := (0)) rfl rfl rfl ?_
      exact x_ireturn C Z 12 rfl rfl rfl (aj_lf hK (by show bI (decide (I 104 j = 0) && decide (0 < mL I j)) = _; rw [decide_eq_false (Int32.not_lt.mpr (show mL I j ≤ 0 by assumption)), Bool.and_false]; rfl))
    · skip
      refine x_iconst (q := 18) C 9 (n := (1)) (v := (1)) rfl rfl rfl ?_
      refine x_goto (t := 22) C 10 rfl (by decide) ?_
      exact x_ireturn C Z 12 rfl rfl rfl (aj_lf hK (by show bI (decide (I 104 j = 0) && decide (0 < mL I j)) = _; rw [decide_eq_true (show I 104 j = 0 by assumption), decide_eq_true (Int32.not_le.mp (show ¬ mL I j ≤ 0 by assumption))]; rfl))
set_option maxRecDepth 100000 in
set_option maxHeartbeats 800000 in
theorem s_X5_orderAt {l : Launch} {I : Nat → Nat → Int32} {J : Nat → Nat → Int64} {V : Nat → Nat → Option Nat} {N : Nat → Nat} {L : List Nat} {K : aj_K} {j k : Nat} (hj : j < 8) (hk : k < 8) (hB : bV V N L) (hK : K (.inl (some (.int (mOA I j k)))) I J V N L) : aj_M l yX5_orderAt (aj_wc yX5_orderAt cX5_orderAt 3 (some .int)) (aj_rm 2 0 0) [] [.ref 22, .int (nI j), .int (nI k)] I J V N L K := by
  refine aj_intro (tbl := t_X5_orderAt) (lv0 := [some (.ref 22), some (.int (nI j)), some (.int (nI k))]) (by decide) T_X5_orderAt aj_f0 (Nat.le_of_ble_eq_true rfl) rfl ?_
  intro G hl C Z NX hnm hGL hGF
  have C : aj_C G cX5_orderAt t_X5_orderAt RX5 (aj_rm 2 0 0) 3 := C
  refine y_aload0 (q := 1) C 0 rfl rfl ?_
  refine y_iload1 (q := 2) C 1 rfl rfl ?_
  refine y_cV1 (q := 5) C 2 rfl rfl ml_RX5_94 cd_X5_look cv_X5_look ⟨by decide, rfl⟩ (by first | assumption | rfl | decide | exact bL hB _ (by decide)) (by decide) (by decide) (Nat.le_of_ble_eq_true rfl) (s_X5_look (by first | assumption | rfl | decide | exact bL hB _ (by decide)) (by first | assumption | rfl | decide | exact bL hB _ (by decide)) ?_)
  show aj_X G 5 _ _ _ _ _ _ _ _ _
  refine y_aload0 (q := 6) C 3 rfl rfl ?_
  refine x_getR (q := 9) C 4 rfl rfl fl_RX5_13 (bv_6_2 hB) (fun _ _ => rfl) (by first | assumption | rfl | decide | exact bL hB _ (by decide)) (by first | assumption | rfl | decide | exact bL hB _ (by decide)) ?_
  refine y_iload1 (q := 10) C 5 rfl rfl ?_
  refine x_iald (q := 11) C 6 rfl rfl (by first | assumption | rfl | decide | exact bL hB _ (by decide)) (by first | assumption | rfl | decide | exact bL hB _ (by decide)) (by (first | rw [bn24 hB] | rw [bn40 hB] | rw [bn56 hB] | rw [bn72 hB] | rw [bn27 hB] | rw [bn43 hB] | rw [bn25 hB] | rw [bn41 hB] | rw [bn88 hB] | rw [bn104 hB] | rw [bn120 hB] | rw [bn136 hB] | rw [bn152 hB] | rw [bn168 hB]); first | assumption | exact vp_in_nI (by omega) (by decide)) ?_
  rw [nI_clamp (by omega)]
  refine y_aload0 (q := 12) C 7 rfl rfl ?_
  refine y_iload1 (q := 13) C 8 rfl rfl ?_
  refine y_cV1 (q := 16) C 9 rfl rfl ml_RX5_97 cd_X5_upSignOf cv_X5_upSignOf ⟨by decide, rfl⟩ (by first | assumption | rfl | decide | exact bL hB _ (by decide)) (by decide) (by decide) (Nat.le_of_ble_eq_true rfl) (s_X5_upSignOf (by first | assumption | rfl | decide | exact bL hB _ (by decide)) (by first | assumption | rfl | decide | exact bL hB _ (by decide)) ?_)
  show aj_X G 16 _ _ _ _ _ _ _ _ _
  refine y_aload0 (q := 17) C 10 rfl rfl ?_
  refine y_iload2 (q := 18) C 11 rfl rfl ?_
  refine y_cV1 (q := 21) C 12 rfl rfl ml_RX5_94 cd_X5_look cv_X5_look ⟨by decide, rfl⟩ (by first | assumption | rfl | decide | exact bL hB _ (by decide)) (by decide) (by decide) (Nat.le_of_ble_eq_true rfl) (s_X5_look (by first | assumption | rfl | decide | exact bL hB _ (by decide)) (by first | assumption | rfl | decide | exact bL hB _ (by decide)) ?_)
  show aj_X G 21 _ _ _ _ _ _ _ _ _
  refine y_aload0 (q := 22) C 13 rfl rfl ?_
  refine x_getR (q := 25) C 14 rfl rfl fl_RX5_13 (bv_6_2 hB) (fun _ _ => rfl) (by first | assumption | rfl | decide | exact bL hB _ (by decide)) (by first | assumption | rfl | decide | exact bL hB _ (by decide)) ?_
  refine y_iload2 (q := 26) C 15 rfl rfl ?_
  refine x_iald (q := 27) C 16 rfl rfl (by first | assumption | rfl | decide | exact bL hB _ (by decide)) (by first | assumption | rfl | decide | exact bL hB _ (by decide)) (by (first | rw [bn24 hB] | rw [bn40 hB] | rw [bn56 hB] | rw [bn72 hB] | rw [bn27 hB] | rw [bn43 hB] | rw [bn25 hB] | rw [bn41 hB] | rw [bn88 hB] | rw [bn104 hB] | rw [bn120 hB] | rw [bn136 hB] | rw [bn152 hB] | rw [bn168 hB]); first | assumption | exact vp_in_nI (by omega) (by decide)) ?_
  rw [nI_clamp (by omega)]
  refine y_aload0 (q := 28) C 17 rfl rfl ?_
  refine y_iload2 (q := 29) C 18 rfl rfl ?_
  refine y_cV1 (q := 32) C 19 rfl rfl ml_RX5_97 cd_X5_upSignOf cv_X5_upSignOf ⟨by decide, rfl⟩ (by first | assumption | rfl | decide | exact bL hB _ (by decide)) (by decide) (by decide) (Nat.le_of_ble_eq_true rfl) (s_X5_upSignOf (by first | assumption | rfl | decide | exact bL hB _ (by decide)) (by first | assumption | rfl | decide | exact bL hB _ (by decide)) ?_)
  show aj_X G 32 _ _ _ _ _ _ _ _ _
  refine y_cS6 (q := 35) C 20 rfl rfl ml_RX5_58 cd_X5_orderOf sv_X5_orderOf (by decide) (by decide) (Nat.le_of_ble_eq_true rfl) (s_X5_orderOf ?_)
  show aj_X G 35 _ _ _ _ _ _ _ _ _
  exact x_ireturn C Z 21 rfl rfl rfl (hK)
set_option maxRecDepth 100000 in
set_option maxHeartbeats 800000 in
theorem s_X5_refuse {l : Launch} {I : Nat → Nat → Int32} {J : Nat → Nat → Int64} {V : Nat → Nat → Option Nat} {N : Nat → Nat} {L : List Nat} {K : aj_K} {b : Bool} {w : Int32} (hw : 0 < w) (hT : I 22 0 = 0) (hB : bV V N L) (hK : K (.inl (some (.int (bI b)))) (tH I b w) J V N L) : aj_M l yX5_refuse (aj_wc yX5_refuse cX5_refuse 3 (some .boolean)) (aj_rm 0 0 0) [] [.ref 22, .int (bI b), .int w] I J V N L K := by
  refine aj_intro (tbl := t_X5_refuse) (lv0 := [some (.ref 22), some (.int (bI b)), some (.int w)]) (by decide) T_X5_refuse aj_f0 (Nat.le_of_ble_eq_true rfl) rfl ?_
  intro G hl C Z NX hnm hGL hGF
  have C : aj_C G cX5_refuse t_X5_refuse RX5 (aj_rm 0 0 0) 3 := C
  refine y_iload1 (q := 1) C 0 rfl rfl ?_
  refine x_if_eqB (q := 4) (t := 16) C 1 rfl (by decide) rfl (fun c1 => ?_) (fun c1 => ?_)
  · skip
    refine y_aload0 (q := 17) C 8 rfl rfl ?_
    refine x_getI (q := 20) C 9 rfl rfl fl_RX5_32 (fun _ _ => rfl) (by first | assumption | rfl | decide | exact bL hB _ (by decide)) (by first | assumption | rfl | decide | exact bL hB _ (by decide)) ?_
    refine x_if_le (q := 23) (t := 27) C 10 rfl (by decide) rfl (fun c2 => ?_) (fun c2 => ?_)
    · skip
      refine x_iconst (q := 28) C 13 (n := (0)) (v := (0)) rfl rfl rfl ?_
      exact x_ireturn C Z 14 rfl rfl rfl (by rw [c1] at hK; exact hK)
    · skip
      exact absurd c2 (by rw [hT]; decide)
  · skip
    refine y_aload0 (q := 5) C 2 rfl rfl ?_
    refine x_getI (q := 8) C 3 rfl rfl fl_RX5_32 (fun _ _ => rfl) (by first | assumption | rfl | decide | exact bL hB _ (by decide)) (by first | assumption | rfl | decide | exact bL hB _ (by decide)) ?_
    refine x_if_ne (q := 11) (t := 16) C 4 rfl (by decide) rfl (fun c3 => ?_) (fun c3 => ?_)
    · skip
      exact absurd hT c3
    · skip
      refine y_aload0 (q := 12) C 5 rfl rfl ?_
      refine y_iload2 (q := 13) C 6 rfl rfl ?_
      refine x_putI (q := 16) C 7 rfl rfl fl_RX5_32 rfl rfl (by first | assumption | rfl | decide | exact bL hB _ (by decide)) (by first | assumption | rfl | decide | exact bL hB _ (by decide)) ?_
      refine y_aload0 (q := 17) C 8 rfl rfl ?_
      refine x_getI (q := 20) C 9 rfl rfl fl_RX5_32 (fun _ _ => rfl) (by first | assumption | rfl | decide | exact bL hB _ (by decide)) (by first | assumption | rfl | decide | exact bL hB _ (by decide)) ?_
      refine x_if_le (q := 23) (t := 27) C 10 rfl (by decide) rfl (fun c4 => ?_) (fun c4 => ?_)
      · skip
        exact absurd hw (Int32.not_lt.mpr (by rw [aj_u_s] at c4; exact c4))
      · skip
        refine x_iconst (q := 24) C 11 (n := (1)) (v := (1)) rfl rfl rfl ?_
        refine x_goto (t := 28) C 12 rfl (by decide) ?_
        exact x_ireturn C Z 14 rfl rfl rfl (by rw [c1] at hK; exact hK)
set_option maxRecDepth 100000 in
set_option maxHeartbeats 800000 in
theorem s_X5_start {l : Launch} {I : Nat → Nat → Int32} {J : Nat → Nat → Int64} {V : Nat → Nat → Option Nat} {N : Nat → Nat} {L : List Nat} {K : aj_K} {b : Bool} {w : Int32} (hw : 0 < w) (hB : bV V N L) (hK : K (.inl (some (.int (bI b)))) (tH (aj_u I 22 0 0) b w) J V N L) : aj_M l yX5_start (aj_wc yX5_start cX5_start 3 (some .boolean)) (aj_rm 1 0 0) [] [.ref 22, .int (bI b), .int w] I J V N L K := by
  refine aj_intro (tbl := t_X5_start) (lv0 := [some (.ref 22), some (.int (bI b)), some (.int w)]) (by decide) T_X5_start aj_f0 (Nat.le_of_ble_eq_true rfl) rfl ?_
  intro G hl C Z NX hnm hGL hGF
  have C : aj_C G cX5_start t_X5_start RX5 (aj_rm 1 0 0) 3 := C
  refine y_aload0 (q := 1) C 0 rfl rfl ?_
  refine x_iconst (q := 2) C 1 (n := (0)) (v := (0)) rfl rfl rfl ?_
  refine x_putI (q := 5) C 2 rfl rfl fl_RX5_32 rfl rfl (by first | assumption | rfl | decide | exact bL hB _ (by decide)) (by first | assumption | rfl | decide | exact bL hB _ (by decide)) ?_
  refine y_aload0 (q := 6) C 3 rfl rfl ?_
  refine y_iload1 (q := 7) C 4 rfl rfl ?_
  refine y_iload2 (q := 8) C 5 rfl rfl ?_
  refine y_cV2 (q := 11) C 6 rfl rfl ml_RX5_36 cd_X5_refuse cv_X5_refuse ⟨by decide, rfl⟩ (by first | assumption | rfl | decide | exact bL hB _ (by decide)) (by decide) (by decide) (Nat.le_of_ble_eq_true rfl) (s_X5_refuse hw (aj_u_s _ _ _ _) hB ?_)
  show aj_X G 11 _ _ _ _ _ _ _ _ _
  exact x_ireturn C Z 7 rfl rfl (by first | rfl | exact bI_nar _) (hK)
set_option maxRecDepth 100000 in
set_option maxHeartbeats 800000 in
theorem s_J6_signum_0f7a4 {l : Launch} {I : Nat → Nat → Int32} {J : Nat → Nat → Int64} {V : Nat → Nat → Option Nat} {N : Nat → Nat} {L : List Nat} {K : aj_K} {x : Int32} (hK : K (.inl (some (.int (mSn x)))) I J V N L) : aj_M l yJ6_signum_0f7a4 (aj_wc yJ6_signum_0f7a4 cJ6_signum_0f7a4 1 (some .int)) (aj_rm 0 0 0) [] [.int x] I J V N L K := by
  refine aj_intro (tbl := t_J6_signum_0f7a4) (lv0 := [some (.int x)]) (by decide) T_J6_signum_0f7a4 aj_f0 (Nat.le_of_ble_eq_true rfl) rfl ?_
  intro G hl C Z NX hnm hGL hGF
  have C : aj_C G cJ6_signum_0f7a4 t_J6_signum_0f7a4 RJ6 (aj_rm 0 0 0) 1 := C
  refine y_iload0 (q := 1) C 0 rfl rfl ?_
  refine x_bipush (q := 3) C 1 (n := (31)) (v := (31)) rfl rfl rfl ?_
  refine x_ishr (q := 4) C 2 rfl rfl ?_
  refine y_iload0 (q := 5) C 3 rfl rfl ?_
  refine x_ineg (q := 6) C 4 rfl rfl ?_
  refine x_bipush (q := 8) C 5 (n := (31)) (v := (31)) rfl rfl rfl ?_
  refine x_iushr (q := 9) C 6 rfl rfl ?_
  refine x_ior (q := 10) C 7 rfl rfl ?_
  exact x_ireturn C Z 8 rfl rfl rfl (hK)
set_option maxRecDepth 100000 in
set_option maxHeartbeats 800000 in
theorem s_J6_bitCount_0f7a4 {l : Launch} {I : Nat → Nat → Int32} {J : Nat → Nat → Int64} {V : Nat → Nat → Option Nat} {N : Nat → Nat} {L : List Nat} {K : aj_K} {x : Int32} (hK : K (.inl (some (.int (mBC x)))) I J V N L) : aj_M l yJ6_bitCount_0f7a4 (aj_wc yJ6_bitCount_0f7a4 cJ6_bitCount_0f7a4 1 (some .int)) (aj_rm 0 0 0) [] [.int x] I J V N L K := by
  refine aj_intro (tbl := t_J6_bitCount_0f7a4) (lv0 := [some (.int x)]) (by decide) T_J6_bitCount_0f7a4 aj_f0 (Nat.le_of_ble_eq_true rfl) rfl ?_
  intro G hl C Z NX hnm hGL hGF
  have C : aj_C G cJ6_bitCount_0f7a4 t_J6_bitCount_0f7a4 RJ6 (aj_rm 0 0 0) 1 := C
  refine y_iload0 (q := 1) C 0 rfl rfl ?_
  refine y_iload0 (q := 2) C 1 rfl rfl ?_
  refine x_iconst (q := 3) C 2 (n := (1)) (v := (1)) rfl rfl rfl ?_
  refine x_iushr (q := 4) C 3 rfl rfl ?_
  refine x_ldcw (q := 7) C 4 kc_RJ6_265 rfl rfl ?_
  refine x_iand (q := 8) C 5 rfl rfl ?_
  refine x_isub (q := 9) C 6 rfl rfl ?_
  refine y_istore0 (q := 10) C 7 rfl rfl (Nat.le_of_ble_eq_true rfl) ?_
  refine y_iload0 (q := 11) C 8 rfl rfl ?_
  refine x_ldcw (q := 14) C 9 kc_RJ6_266 rfl rfl ?_
  refine x_iand (q := 15) C 10 rfl rfl ?_
  refine y_iload0 (q := 16) C 11 rfl rfl ?_
  refine x_iconst (q := 17) C 12 (n := (2)) (v := (2)) rfl rfl rfl ?_
  refine x_iushr (q := 18) C 13 rfl rfl ?_
  refine x_ldcw (q := 21) C 14 kc_RJ6_266 rfl rfl ?_
  refine x_iand (q := 22) C 15 rfl rfl ?_
  refine x_iadd (q := 23) C 16 rfl rfl ?_
  refine y_istore0 (q := 24) C 17 rfl rfl (Nat.le_of_ble_eq_true rfl) ?_
  refine y_iload0 (q := 25) C 18 rfl rfl ?_
  refine y_iload0 (q := 26) C 19 rfl rfl ?_
  refine x_iconst (q := 27) C 20 (n := (4)) (v := (4)) rfl rfl rfl ?_
  refine x_iushr (q := 28) C 21 rfl rfl ?_
  refine x_iadd (q := 29) C 22 rfl rfl ?_
  refine x_ldcw (q := 32) C 23 kc_RJ6_267 rfl rfl ?_
  refine x_iand (q := 33) C 24 rfl rfl ?_
  refine y_istore0 (q := 34) C 25 rfl rfl (Nat.le_of_ble_eq_true rfl) ?_
  refine y_iload0 (q := 35) C 26 rfl rfl ?_
  refine y_iload0 (q := 36) C 27 rfl rfl ?_
  refine x_bipush (q := 38) C 28 (n := (8)) (v := (8)) rfl rfl rfl ?_
  refine x_iushr (q := 39) C 29 rfl rfl ?_
  refine x_iadd (q := 40) C 30 rfl rfl ?_
  refine y_istore0 (q := 41) C 31 rfl rfl (Nat.le_of_ble_eq_true rfl) ?_
  refine y_iload0 (q := 42) C 32 rfl rfl ?_
  refine y_iload0 (q := 43) C 33 rfl rfl ?_
  refine x_bipush (q := 45) C 34 (n := (16)) (v := (16)) rfl rfl rfl ?_
  refine x_iushr (q := 46) C 35 rfl rfl ?_
  refine x_iadd (q := 47) C 36 rfl rfl ?_
  refine y_istore0 (q := 48) C 37 rfl rfl (Nat.le_of_ble_eq_true rfl) ?_
  refine y_iload0 (q := 49) C 38 rfl rfl ?_
  refine x_bipush (q := 51) C 39 (n := (63)) (v := (63)) rfl rfl rfl ?_
  refine x_iand (q := 52) C 40 rfl rfl ?_
  exact x_ireturn C Z 41 rfl rfl rfl (hK)
set_option maxRecDepth 100000 in
set_option maxHeartbeats 800000 in
theorem s_X5_slant {l : Launch} {I : Nat → Nat → Int32} {J : Nat → Nat → Int64} {V : Nat → Nat → Option Nat} {N : Nat → Nat} {L : List Nat} {K : aj_K} {u : Int32} {b : Nat} (hu : pIn u (-127) 127 = true) (hb : 0 < b) (hb2 : b ≤ 127) (hK : K (.inl (some (.long (slR u b)))) I J V N L) : aj_M l yX5_slant (aj_wc yX5_slant cX5_slant 6 (some .long)) (aj_rm 2 0 0) [] [.int u, .int (nI b)] I J V N L K := by
  refine aj_intro (tbl := t_X5_slant) (lv0 := [some (.int u), some (.int (nI b)), none, none, none, none]) (by decide) T_X5_slant aj_f0 (Nat.le_of_ble_eq_true rfl) rfl ?_
  intro G hl C Z NX hnm hGL hGF
  have C : aj_C G cX5_slant t_X5_slant RX5 (aj_rm 2 0 0) 6 := C
  refine y_iload0 (q := 1) C 0 rfl rfl ?_
  refine x_abs (q := 4) C 1 rfl rfl ml_RX5_68 ob_abs ⟨by decide, Nat.le_of_ble_eq_true rfl⟩ ?_
  obtain ⟨e, ha, -⟩ := nI_aN hu
  rw [e]
  refine x_i2l (q := 5) C 2 rfl rfl ?_
  rw [qN_n (by omega)]
  refine y_lstore2 (q := 6) C 3 rfl rfl (Nat.le_of_ble_eq_true rfl) rfl ?_
  refine y_iload1 (q := 7) C 4 rfl rfl ?_
  refine x_i2l (q := 8) C 5 rfl rfl ?_
  rw [qN_n (by omega)]
  refine y_lload2 (q := 9) C 6 rfl rfl ?_
  refine x_lcmp (q := 10) C 7 rfl rfl ?_
  refine x_if_gt (q := 13) (t := 22) C 8 rfl (by decide) rfl (fun c1 => ?_) (fun c1 => ?_)
  · skip
    refine x_ldc2 (q := 25) C 14 kc_RX5_78 rfl rfl ?_
    refine y_lload2 (q := 26) C 15 rfl rfl ?_
    refine y_iload1 (q := 27) C 16 rfl rfl ?_
    refine x_i2l (q := 28) C 17 rfl rfl ?_
    rw [qN_n (by omega)]
    refine y_cS2 (q := 31) C 18 rfl rfl ml_RX5_74 cd_X5_arc sv_X5_arc (by decide) (by decide) (Nat.le_of_ble_eq_true rfl) (s_X5_arc (by rw [lg_cmp_gt, qN_lt (by omega) (by omega)] at c1; omega) hb2 hb ?_)
    show aj_X G 31 _ _ _ _ _ _ _ _ _
    refine x_lsub (q := 32) C 19 rfl rfl ?_
    refine y_lstore4 (q := 34) C 20 rfl rfl (Nat.le_of_ble_eq_true rfl) rfl ?_
    refine y_iload0 (q := 35) C 21 rfl rfl ?_
    refine x_if_ge (q := 38) (t := 47) C 22 rfl (by decide) rfl (fun c2 => ?_) (fun c2 => ?_)
    · skip
      refine y_lload4 (q := 49) C 27 rfl rfl ?_
      exact x_lreturn C Z 28 rfl rfl (aj_lfL hK (by unfold slR slM; rw [if_neg (Int32.not_lt.mpr (by assumption)), if_neg (show ¬ b ≤ aN u by rw [lg_cmp_gt, qN_lt (by omega) (by omega)] at c1; omega)]))
    · skip
      refine x_ldc2 (q := 41) C 23 kc_RX5_80 rfl rfl ?_
      refine y_lload4 (q := 43) C 24 rfl rfl ?_
      refine x_lsub (q := 44) C 25 rfl rfl ?_
      refine x_goto (t := 49) C 26 rfl (by decide) ?_
      exact x_lreturn C Z 28 rfl rfl (aj_lfL hK (by unfold slR slM; rw [if_pos (Int32.not_le.mp (by assumption)), if_neg (show ¬ b ≤ aN u by rw [lg_cmp_gt, qN_lt (by omega) (by omega)] at c1; omega)]))
  · skip
    refine y_iload1 (q := 14) C 9 rfl rfl ?_
    refine x_i2l (q := 15) C 10 rfl rfl ?_
    rw [qN_n (by omega)]
    refine y_lload2 (q := 16) C 11 rfl rfl ?_
    refine y_cS2 (q := 19) C 12 rfl rfl ml_RX5_74 cd_X5_arc sv_X5_arc (by decide) (by decide) (Nat.le_of_ble_eq_true rfl) (s_X5_arc (by rw [lg_cmp_gt, qN_lt (by omega) (by omega)] at c1; omega) ha (by rw [lg_cmp_gt, qN_lt (by omega) (by omega)] at c1; omega) ?_)
    show aj_X G 19 _ _ _ _ _ _ _ _ _
    refine x_goto (t := 32) C 13 rfl (by decide) ?_
    refine y_lstore4 (q := 34) C 20 rfl rfl (Nat.le_of_ble_eq_true rfl) rfl ?_
    refine y_iload0 (q := 35) C 21 rfl rfl ?_
    refine x_if_ge (q := 38) (t := 47) C 22 rfl (by decide) rfl (fun c3 => ?_) (fun c3 => ?_)
    · skip
      refine y_lload4 (q := 49) C 27 rfl rfl ?_
      exact x_lreturn C Z 28 rfl rfl (aj_lfL hK (by unfold slR slM; rw [if_neg (Int32.not_lt.mpr (by assumption)), if_pos (show b ≤ aN u by rw [lg_cmp_gt, qN_lt (by omega) (by omega)] at c1; omega)]))
    · skip
      refine x_ldc2 (q := 41) C 23 kc_RX5_80 rfl rfl ?_
      refine y_lload4 (q := 43) C 24 rfl rfl ?_
      refine x_lsub (q := 44) C 25 rfl rfl ?_
      refine x_goto (t := 49) C 26 rfl (by decide) ?_
      exact x_lreturn C Z 28 rfl rfl (aj_lfL hK (by unfold slR slM; rw [if_pos (Int32.not_le.mp (by assumption)), if_pos (show b ≤ aN u by rw [lg_cmp_gt, qN_lt (by omega) (by omega)] at c1; omega)]))
set_option maxRecDepth 100000 in
set_option maxHeartbeats 800000 in
theorem s_X5_sizeOf {l : Launch} {I : Nat → Nat → Int32} {J : Nat → Nat → Int64} {V : Nat → Nat → Option Nat} {N : Nat → Nat} {L : List Nat} {K : aj_K} {u x s : Int32} (hu : pIn u (-127) 127 = true) (hx : pIn x (-127) 127 = true) (hK : K (.inl (some (.long (szR u x s)))) I J V N L) : aj_M l yX5_sizeOf (aj_wc yX5_sizeOf cX5_sizeOf 3 (some .long)) (aj_rm 3 0 0) [] [.int u, .int x, .int s] I J V N L K := by
  refine aj_intro (tbl := t_X5_sizeOf) (lv0 := [some (.int u), some (.int x), some (.int s)]) (by decide) T_X5_sizeOf aj_f0 (Nat.le_of_ble_eq_true rfl) rfl ?_
  intro G hl C Z NX hnm hGL hGF
  have C : aj_C G cX5_sizeOf t_X5_sizeOf RX5 (aj_rm 3 0 0) 3 := C
  refine y_iload1 (q := 1) C 0 rfl rfl ?_
  refine x_if_eq (q := 4) (t := 23) C 1 rfl (by decide) rfl (fun c1 => ?_) (fun c1 => ?_)
  · skip
    refine y_iload0 (q := 24) C 11 rfl rfl ?_
    refine y_iload1 (q := 25) C 12 rfl rfl ?_
    refine y_iload2 (q := 26) C 13 rfl rfl ?_
    refine y_cS3 (q := 29) C 14 rfl rfl ml_RX5_88 cd_X5_lookOf sv_X5_lookOf (by decide) (by decide) (Nat.le_of_ble_eq_true rfl) (s_X5_lookOf ?_)
    show aj_X G 29 _ _ _ _ _ _ _ _ _
    refine x_if_le (q := 32) (t := 36) C 15 rfl (by decide) rfl (fun c2 => ?_) (fun c2 => ?_)
    · skip
      refine x_ldc2 (q := 39) C 18 kc_RX5_92 rfl rfl ?_
      exact x_lreturn C Z 19 rfl rfl (aj_lfL hK (by unfold szR; rw [if_pos (show x = 0 by assumption), if_neg (Int32.not_lt.mpr (by assumption))]))
    · skip
      refine x_lconst (q := 33) C 16 (n := 0) (v := 0) rfl rfl rfl ?_
      refine x_goto (t := 39) C 17 rfl (by decide) ?_
      exact x_lreturn C Z 19 rfl rfl (aj_lfL hK (by unfold szR; rw [if_pos (show x = 0 by assumption), if_pos (Int32.not_le.mp (by assumption))]))
  · skip
    refine y_iload0 (q := 5) C 2 rfl rfl ?_
    refine x_if_ne (q := 8) (t := 14) C 3 rfl (by decide) rfl (fun c3 => ?_) (fun c3 => ?_)
    · skip
      refine y_iload0 (q := 15) C 6 rfl rfl ?_
      refine y_iload1 (q := 16) C 7 rfl rfl ?_
      refine x_abs (q := 19) C 8 rfl rfl ml_RX5_68 ob_abs ⟨by decide, Nat.le_of_ble_eq_true rfl⟩ ?_
      obtain ⟨e, hb, hb1⟩ := nI_aN hx
      rw [e]
      have hb0 : 0 < aN x := hb1 c1
      refine y_cS2 (q := 22) C 9 rfl rfl ml_RX5_84 cd_X5_slant sv_X5_slant (by decide) (by decide) (Nat.le_of_ble_eq_true rfl) (s_X5_slant hu hb0 hb ?_)
      show aj_X G 22 _ _ _ _ _ _ _ _ _
      exact x_lreturn C Z 10 rfl rfl (aj_lfL hK (by unfold szR; rw [if_neg (show ¬ x = 0 by assumption), if_neg (show ¬ u = 0 by assumption)]))
    · skip
      refine x_ldc2 (q := 11) C 4 kc_RX5_82 rfl rfl ?_
      refine x_goto (t := 22) C 5 rfl (by decide) ?_
      exact x_lreturn C Z 10 rfl rfl (aj_lfL hK (by unfold szR; rw [if_neg (show ¬ x = 0 by assumption), if_pos (show u = 0 by assumption)]))
set_option maxRecDepth 100000 in
set_option maxHeartbeats 800000 in
theorem s_X5_isLike {l : Launch} {I : Nat → Nat → Int32} {J : Nat → Nat → Int64} {V : Nat → Nat → Option Nat} {N : Nat → Nat} {L : List Nat} {K : aj_K} {j k : Nat} (hj : j < 8) (hk : k < 8) (hB : bV V N L) (hK : K (.inl (some (.int (bI (lkA (I 88 j, I 104 j, I 120 j) (I 88 k, I 104 k, I 120 k)))))) I J V N L) : aj_M l yX5_isLike (aj_wc yX5_isLike cX5_isLike 3 (some .boolean)) (aj_rm 3 0 0) [] [.ref 22, .int (nI j), .int (nI k)] I J V N L K := by
  refine aj_intro (tbl := t_X5_isLike) (lv0 := [some (.ref 22), some (.int (nI j)), some (.int (nI k))]) (by decide) T_X5_isLike aj_f0 (Nat.le_of_ble_eq_true rfl) rfl ?_
  intro G hl C Z NX hnm hGL hGF
  have C : aj_C G cX5_isLike t_X5_isLike RX5 (aj_rm 3 0 0) 3 := C
  refine y_aload0 (q := 1) C 0 rfl rfl ?_
  refine y_iload1 (q := 2) C 1 rfl rfl ?_
  refine y_cV1 (q := 5) C 2 rfl rfl ml_RX5_100 cd_X5_isZero cv_X5_isZero ⟨by decide, rfl⟩ (by first | assumption | rfl | decide | exact bL hB _ (by decide)) (by decide) (by decide) (Nat.le_of_ble_eq_true rfl) (s_X5_isZero (by first | assumption | rfl | decide | exact bL hB _ (by decide)) (by first | assumption | rfl | decide | exact bL hB _ (by decide)) ?_)
  show aj_X G 5 _ _ _ _ _ _ _ _ _
  refine x_if_eqB (q := 8) (t := 16) C 3 rfl (by decide) rfl (fun c1 => ?_) (fun c1 => ?_)
  · skip
    refine y_aload0 (q := 17) C 8 rfl rfl ?_
    refine y_iload1 (q := 18) C 9 rfl rfl ?_
    refine y_iload2 (q := 19) C 10 rfl rfl ?_
    refine y_cV2 (q := 22) C 11 rfl rfl ml_RX5_104 cd_X5_orderAt cv_X5_orderAt ⟨by decide, rfl⟩ (by first | assumption | rfl | decide | exact bL hB _ (by decide)) (by decide) (by decide) (Nat.le_of_ble_eq_true rfl) (s_X5_orderAt (by first | assumption | rfl | decide | exact bL hB _ (by decide)) (by first | assumption | rfl | decide | exact bL hB _ (by decide)) (by first | assumption | rfl | decide | exact bL hB _ (by decide)) ?_)
    show aj_X G 22 _ _ _ _ _ _ _ _ _
    refine x_if_ne (q := 25) (t := 29) C 12 rfl (by decide) rfl (fun c2 => ?_) (fun c2 => ?_)
    · skip
      refine x_iconst (q := 30) C 15 (n := (0)) (v := (0)) rfl rfl rfl ?_
      exact x_ireturn C Z 16 rfl rfl rfl (aj_lf hK (by show bI ((zzA (I 88 j, I 104 j, I 120 j) && zzA (I 88 k, I 104 k, I 120 k)) || decide (mOA I j k = 0)) = _; rw [show zzA (I 88 j, I 104 j, I 120 j) = false by assumption, Bool.false_and, decide_eq_false (show ¬ mOA I j k = 0 by assumption)]; rfl))
    · skip
      refine x_iconst (q := 26) C 13 (n := (1)) (v := (1)) rfl rfl rfl ?_
      refine x_goto (t := 30) C 14 rfl (by decide) ?_
      exact x_ireturn C Z 16 rfl rfl rfl (aj_lf hK (by show bI ((zzA (I 88 j, I 104 j, I 120 j) && zzA (I 88 k, I 104 k, I 120 k)) || decide (mOA I j k = 0)) = _; rw [decide_eq_true (show mOA I j k = 0 by assumption), Bool.or_true]; rfl))
  · skip
    refine y_aload0 (q := 9) C 4 rfl rfl ?_
    refine y_iload2 (q := 10) C 5 rfl rfl ?_
    refine y_cV1 (q := 13) C 6 rfl rfl ml_RX5_100 cd_X5_isZero cv_X5_isZero ⟨by decide, rfl⟩ (by first | assumption | rfl | decide | exact bL hB _ (by decide)) (by decide) (by decide) (Nat.le_of_ble_eq_true rfl) (s_X5_isZero (by first | assumption | rfl | decide | exact bL hB _ (by decide)) (by first | assumption | rfl | decide | exact bL hB _ (by decide)) ?_)
    show aj_X G 13 _ _ _ _ _ _ _ _ _
    refine x_if_neB (q := 16) (t := 25) C 7 rfl (by decide) rfl (fun c3 => ?_) (fun c3 => ?_)
    · skip
      refine x_iconst (q := 26) C 13 (n := (1)) (v := (1)) rfl rfl rfl ?_
      refine x_goto (t := 30) C 14 rfl (by decide) ?_
      exact x_ireturn C Z 16 rfl rfl rfl (aj_lf hK (by show bI ((zzA (I 88 j, I 104 j, I 120 j) && zzA (I 88 k, I 104 k, I 120 k)) || decide (mOA I j k = 0)) = _; rw [show zzA (I 88 j, I 104 j, I 120 j) = true by assumption, show zzA (I 88 k, I 104 k, I 120 k) = true by assumption]; rfl))
    · skip
      refine y_aload0 (q := 17) C 8 rfl rfl ?_
      refine y_iload1 (q := 18) C 9 rfl rfl ?_
      refine y_iload2 (q := 19) C 10 rfl rfl ?_
      refine y_cV2 (q := 22) C 11 rfl rfl ml_RX5_104 cd_X5_orderAt cv_X5_orderAt ⟨by decide, rfl⟩ (by first | assumption | rfl | decide | exact bL hB _ (by decide)) (by decide) (by decide) (Nat.le_of_ble_eq_true rfl) (s_X5_orderAt (by first | assumption | rfl | decide | exact bL hB _ (by decide)) (by first | assumption | rfl | decide | exact bL hB _ (by decide)) (by first | assumption | rfl | decide | exact bL hB _ (by decide)) ?_)
      show aj_X G 22 _ _ _ _ _ _ _ _ _
      refine x_if_ne (q := 25) (t := 29) C 12 rfl (by decide) rfl (fun c4 => ?_) (fun c4 => ?_)
      · skip
        refine x_iconst (q := 30) C 15 (n := (0)) (v := (0)) rfl rfl rfl ?_
        exact x_ireturn C Z 16 rfl rfl rfl (aj_lf hK (by show bI ((zzA (I 88 j, I 104 j, I 120 j) && zzA (I 88 k, I 104 k, I 120 k)) || decide (mOA I j k = 0)) = _; rw [show zzA (I 88 k, I 104 k, I 120 k) = false by assumption, Bool.and_false, decide_eq_false (show ¬ mOA I j k = 0 by assumption)]; rfl))
      · skip
        refine x_iconst (q := 26) C 13 (n := (1)) (v := (1)) rfl rfl rfl ?_
        refine x_goto (t := 30) C 14 rfl (by decide) ?_
        exact x_ireturn C Z 16 rfl rfl rfl (aj_lf hK (by show bI ((zzA (I 88 j, I 104 j, I 120 j) && zzA (I 88 k, I 104 k, I 120 k)) || decide (mOA I j k = 0)) = _; rw [decide_eq_true (show mOA I j k = 0 by assumption), Bool.or_true]; rfl))
set_option maxRecDepth 100000 in
set_option maxHeartbeats 800000 in
theorem s_X5_sideAt {l : Launch} {I : Nat → Nat → Int32} {J : Nat → Nat → Int64} {V : Nat → Nat → Option Nat} {N : Nat → Nat} {L : List Nat} {K : aj_K} {j k : Nat} (hj : j < 8) (hk : k < 8) (hB : bV V N L) (hK : K (.inl (some (.int (sdA (I 88 j, I 104 j, I 120 j) (I 88 k, I 104 k, I 120 k))))) I J V N L) : aj_M l yX5_sideAt (aj_wc yX5_sideAt cX5_sideAt 3 (some .int)) (aj_rm 1 0 0) [] [.ref 22, .int (nI j), .int (nI k)] I J V N L K := by
  refine aj_intro (tbl := t_X5_sideAt) (lv0 := [some (.ref 22), some (.int (nI j)), some (.int (nI k))]) (by decide) T_X5_sideAt aj_f0 (Nat.le_of_ble_eq_true rfl) rfl ?_
  intro G hl C Z NX hnm hGL hGF
  have C : aj_C G cX5_sideAt t_X5_sideAt RX5 (aj_rm 1 0 0) 3 := C
  refine y_aload0 (q := 1) C 0 rfl rfl ?_
  refine y_iload1 (q := 2) C 1 rfl rfl ?_
  refine y_cV1 (q := 5) C 2 rfl rfl ml_RX5_108 cd_X5_isNull cv_X5_isNull ⟨by decide, rfl⟩ (by first | assumption | rfl | decide | exact bL hB _ (by decide)) (by decide) (by decide) (Nat.le_of_ble_eq_true rfl) (s_X5_isNull (by first | assumption | rfl | decide | exact bL hB _ (by decide)) (by first | assumption | rfl | decide | exact bL hB _ (by decide)) ?_)
  show aj_X G 5 _ _ _ _ _ _ _ _ _
  refine x_if_neB (q := 8) (t := 16) C 3 rfl (by decide) rfl (fun c1 => ?_) (fun c1 => ?_)
  · skip
    refine x_bipush (q := 18) C 8 (n := (-9)) (v := (-9)) rfl rfl rfl ?_
    refine x_goto (t := 51) C 9 rfl (by decide) ?_
    exact x_ireturn C Z 28 rfl rfl rfl (aj_lf hK (by unfold sdA; rw [if_pos (by assumption)]))
  · skip
    refine y_aload0 (q := 9) C 4 rfl rfl ?_
    refine y_iload2 (q := 10) C 5 rfl rfl ?_
    refine y_cV1 (q := 13) C 6 rfl rfl ml_RX5_108 cd_X5_isNull cv_X5_isNull ⟨by decide, rfl⟩ (by first | assumption | rfl | decide | exact bL hB _ (by decide)) (by decide) (by decide) (Nat.le_of_ble_eq_true rfl) (s_X5_isNull (by first | assumption | rfl | decide | exact bL hB _ (by decide)) (by first | assumption | rfl | decide | exact bL hB _ (by decide)) ?_)
    show aj_X G 13 _ _ _ _ _ _ _ _ _
    refine x_if_eqB (q := 16) (t := 21) C 7 rfl (by decide) rfl (fun c2 => ?_) (fun c2 => ?_)
    · skip
      refine y_aload0 (q := 22) C 10 rfl rfl ?_
      refine x_getR (q := 25) C 11 rfl rfl fl_RX5_9 (bv_6_1 hB) (fun _ _ => rfl) (by first | assumption | rfl | decide | exact bL hB _ (by decide)) (by first | assumption | rfl | decide | exact bL hB _ (by decide)) ?_
      refine y_iload1 (q := 26) C 12 rfl rfl ?_
      refine x_iald (q := 27) C 13 rfl rfl (by first | assumption | rfl | decide | exact bL hB _ (by decide)) (by first | assumption | rfl | decide | exact bL hB _ (by decide)) (by (first | rw [bn24 hB] | rw [bn40 hB] | rw [bn56 hB] | rw [bn72 hB] | rw [bn27 hB] | rw [bn43 hB] | rw [bn25 hB] | rw [bn41 hB] | rw [bn88 hB] | rw [bn104 hB] | rw [bn120 hB] | rw [bn136 hB] | rw [bn152 hB] | rw [bn168 hB]); first | assumption | exact vp_in_nI (by omega) (by decide)) ?_
      rw [nI_clamp (by omega)]
      refine y_aload0 (q := 28) C 14 rfl rfl ?_
      refine x_getR (q := 31) C 15 rfl rfl fl_RX5_13 (bv_6_2 hB) (fun _ _ => rfl) (by first | assumption | rfl | decide | exact bL hB _ (by decide)) (by first | assumption | rfl | decide | exact bL hB _ (by decide)) ?_
      refine y_iload1 (q := 32) C 16 rfl rfl ?_
      refine x_iald (q := 33) C 17 rfl rfl (by first | assumption | rfl | decide | exact bL hB _ (by decide)) (by first | assumption | rfl | decide | exact bL hB _ (by decide)) (by (first | rw [bn24 hB] | rw [bn40 hB] | rw [bn56 hB] | rw [bn72 hB] | rw [bn27 hB] | rw [bn43 hB] | rw [bn25 hB] | rw [bn41 hB] | rw [bn88 hB] | rw [bn104 hB] | rw [bn120 hB] | rw [bn136 hB] | rw [bn152 hB] | rw [bn168 hB]); first | assumption | exact vp_in_nI (by omega) (by decide)) ?_
      rw [nI_clamp (by omega)]
      refine y_aload0 (q := 34) C 18 rfl rfl ?_
      refine x_getR (q := 37) C 19 rfl rfl fl_RX5_9 (bv_6_1 hB) (fun _ _ => rfl) (by first | assumption | rfl | decide | exact bL hB _ (by decide)) (by first | assumption | rfl | decide | exact bL hB _ (by decide)) ?_
      refine y_iload2 (q := 38) C 20 rfl rfl ?_
      refine x_iald (q := 39) C 21 rfl rfl (by first | assumption | rfl | decide | exact bL hB _ (by decide)) (by first | assumption | rfl | decide | exact bL hB _ (by decide)) (by (first | rw [bn24 hB] | rw [bn40 hB] | rw [bn56 hB] | rw [bn72 hB] | rw [bn27 hB] | rw [bn43 hB] | rw [bn25 hB] | rw [bn41 hB] | rw [bn88 hB] | rw [bn104 hB] | rw [bn120 hB] | rw [bn136 hB] | rw [bn152 hB] | rw [bn168 hB]); first | assumption | exact vp_in_nI (by omega) (by decide)) ?_
      rw [nI_clamp (by omega)]
      refine y_aload0 (q := 40) C 22 rfl rfl ?_
      refine x_getR (q := 43) C 23 rfl rfl fl_RX5_13 (bv_6_2 hB) (fun _ _ => rfl) (by first | assumption | rfl | decide | exact bL hB _ (by decide)) (by first | assumption | rfl | decide | exact bL hB _ (by decide)) ?_
      refine y_iload2 (q := 44) C 24 rfl rfl ?_
      refine x_iald (q := 45) C 25 rfl rfl (by first | assumption | rfl | decide | exact bL hB _ (by decide)) (by first | assumption | rfl | decide | exact bL hB _ (by decide)) (by (first | rw [bn24 hB] | rw [bn40 hB] | rw [bn56 hB] | rw [bn72 hB] | rw [bn27 hB] | rw [bn43 hB] | rw [bn25 hB] | rw [bn41 hB] | rw [bn88 hB] | rw [bn104 hB] | rw [bn120 hB] | rw [bn136 hB] | rw [bn152 hB] | rw [bn168 hB]); first | assumption | exact vp_in_nI (by omega) (by decide)) ?_
      rw [nI_clamp (by omega)]
      refine y_cS4 (q := 48) C 26 rfl rfl ml_RX5_51 cd_X5_cross sv_X5_cross (by decide) (by decide) (Nat.le_of_ble_eq_true rfl) (s_X5_cross ?_)
      show aj_X G 48 _ _ _ _ _ _ _ _ _
      refine y_cS1 (q := 51) C 27 rfl rfl ml_RX5_111 cd_J6_signum_0f7a4 sv_J6_signum_0f7a4 (by decide) (by decide) (Nat.le_of_ble_eq_true rfl) (s_J6_signum_0f7a4 ?_)
      show aj_X G 51 _ _ _ _ _ _ _ _ _
      exact x_ireturn C Z 28 rfl rfl rfl (aj_lf hK (by unfold sdA; rw [if_neg (by rw [show tNull (I 88 j, I 104 j, I 120 j) = false by assumption]; decide), if_neg (by rw [show tNull (I 88 k, I 104 k, I 120 k) = false by assumption]; decide)]; exact (mSn_vSg _).symm))
    · skip
      refine x_bipush (q := 18) C 8 (n := (-9)) (v := (-9)) rfl rfl rfl ?_
      refine x_goto (t := 51) C 9 rfl (by decide) ?_
      exact x_ireturn C Z 28 rfl rfl rfl (aj_lf hK (by unfold sdA; rw [if_neg (by rw [show tNull (I 88 j, I 104 j, I 120 j) = false by assumption]; decide), if_pos (by assumption)]))
set_option maxRecDepth 100000 in
set_option maxHeartbeats 800000 in
theorem s_X5_isNotAhead {l : Launch} {I : Nat → Nat → Int32} {J : Nat → Nat → Int64} {V : Nat → Nat → Option Nat} {N : Nat → Nat} {L : List Nat} {K : aj_K} {j : Nat} {a b : Int32} (hj : j < 8) (hB : bV V N L) (hK : K (.inl (some (.int (eg1 (I 88 j, I 104 j, I 120 j) a b)))) I J V N L) : aj_M l yX5_isNotAhead (aj_wc yX5_isNotAhead cX5_isNotAhead 4 (some .int)) (aj_rm 2 0 0) [] [.ref 22, .int (nI j), .int a, .int b] I J V N L K := by
  refine aj_intro (tbl := t_X5_isNotAhead) (lv0 := [some (.ref 22), some (.int (nI j)), some (.int a), some (.int b)]) (by decide) T_X5_isNotAhead aj_f0 (Nat.le_of_ble_eq_true rfl) rfl ?_
  intro G hl C Z NX hnm hGL hGF
  have C : aj_C G cX5_isNotAhead t_X5_isNotAhead RX5 (aj_rm 2 0 0) 4 := C
  refine y_aload0 (q := 1) C 0 rfl rfl ?_
  refine y_iload1 (q := 2) C 1 rfl rfl ?_
  refine y_cV1 (q := 5) C 2 rfl rfl ml_RX5_94 cd_X5_look cv_X5_look ⟨by decide, rfl⟩ (by first | assumption | rfl | decide | exact bL hB _ (by decide)) (by decide) (by decide) (Nat.le_of_ble_eq_true rfl) (s_X5_look (by first | assumption | rfl | decide | exact bL hB _ (by decide)) (by first | assumption | rfl | decide | exact bL hB _ (by decide)) ?_)
  show aj_X G 5 _ _ _ _ _ _ _ _ _
  refine y_aload0 (q := 6) C 3 rfl rfl ?_
  refine x_getR (q := 9) C 4 rfl rfl fl_RX5_13 (bv_6_2 hB) (fun _ _ => rfl) (by first | assumption | rfl | decide | exact bL hB _ (by decide)) (by first | assumption | rfl | decide | exact bL hB _ (by decide)) ?_
  refine y_iload1 (q := 10) C 5 rfl rfl ?_
  refine x_iald (q := 11) C 6 rfl rfl (by first | assumption | rfl | decide | exact bL hB _ (by decide)) (by first | assumption | rfl | decide | exact bL hB _ (by decide)) (by (first | rw [bn24 hB] | rw [bn40 hB] | rw [bn56 hB] | rw [bn72 hB] | rw [bn27 hB] | rw [bn43 hB] | rw [bn25 hB] | rw [bn41 hB] | rw [bn88 hB] | rw [bn104 hB] | rw [bn120 hB] | rw [bn136 hB] | rw [bn152 hB] | rw [bn168 hB]); first | assumption | exact vp_in_nI (by omega) (by decide)) ?_
  rw [nI_clamp (by omega)]
  refine y_aload0 (q := 12) C 7 rfl rfl ?_
  refine y_iload1 (q := 13) C 8 rfl rfl ?_
  refine y_cV1 (q := 16) C 9 rfl rfl ml_RX5_97 cd_X5_upSignOf cv_X5_upSignOf ⟨by decide, rfl⟩ (by first | assumption | rfl | decide | exact bL hB _ (by decide)) (by decide) (by decide) (Nat.le_of_ble_eq_true rfl) (s_X5_upSignOf (by first | assumption | rfl | decide | exact bL hB _ (by decide)) (by first | assumption | rfl | decide | exact bL hB _ (by decide)) ?_)
  show aj_X G 16 _ _ _ _ _ _ _ _ _
  refine y_iload2 (q := 17) C 10 rfl rfl ?_
  refine y_iload3 (q := 18) C 11 rfl rfl ?_
  refine y_iload3 (q := 19) C 12 rfl rfl ?_
  refine x_if_ge (q := 22) (t := 26) C 13 rfl (by decide) rfl (fun c1 => ?_) (fun c1 => ?_)
  · skip
    refine x_iconst (q := 27) C 16 (n := (0)) (v := (0)) rfl rfl rfl ?_
    refine y_cS1 (q := 30) C 17 rfl rfl ml_RX5_47 cd_X5_one sv_X5_one (by decide) (by decide) (Nat.le_of_ble_eq_true rfl) (s_X5_one ?_)
    show aj_X G 30 _ _ _ _ _ _ _ _ _
    refine y_cS6 (q := 33) C 18 rfl rfl ml_RX5_58 cd_X5_orderOf sv_X5_orderOf (by decide) (by decide) (Nat.le_of_ble_eq_true rfl) (s_X5_orderOf ?_)
    show aj_X G 33 _ _ _ _ _ _ _ _ _
    refine x_if_lt (q := 36) (t := 40) C 19 rfl (by decide) rfl (fun c2 => ?_) (fun c2 => ?_)
    · skip
      refine x_iconst (q := 41) C 22 (n := (0)) (v := (0)) rfl rfl rfl ?_
      refine y_cS1 (q := 44) C 23 rfl rfl ml_RX5_47 cd_X5_one sv_X5_one (by decide) (by decide) (Nat.le_of_ble_eq_true rfl) (s_X5_one ?_)
      show aj_X G 44 _ _ _ _ _ _ _ _ _
      exact x_ireturn C Z 24 rfl rfl rfl (aj_lf hK (by unfold eg1; rw [show decide (b < 0) = false from decide_eq_false (Int32.not_lt.mpr (by assumption))]; exact if_pos (by assumption)))
    · skip
      refine x_iconst (q := 37) C 20 (n := (1)) (v := (1)) rfl rfl rfl ?_
      refine x_goto (t := 41) C 21 rfl (by decide) ?_
      refine y_cS1 (q := 44) C 23 rfl rfl ml_RX5_47 cd_X5_one sv_X5_one (by decide) (by decide) (Nat.le_of_ble_eq_true rfl) (s_X5_one ?_)
      show aj_X G 44 _ _ _ _ _ _ _ _ _
      exact x_ireturn C Z 24 rfl rfl rfl (aj_lf hK (by unfold eg1; rw [show decide (b < 0) = false from decide_eq_false (Int32.not_lt.mpr (by assumption))]; exact if_neg (by assumption)))
  · skip
    refine x_iconst (q := 23) C 14 (n := (1)) (v := (1)) rfl rfl rfl ?_
    refine x_goto (t := 27) C 15 rfl (by decide) ?_
    refine y_cS1 (q := 30) C 17 rfl rfl ml_RX5_47 cd_X5_one sv_X5_one (by decide) (by decide) (Nat.le_of_ble_eq_true rfl) (s_X5_one ?_)
    show aj_X G 30 _ _ _ _ _ _ _ _ _
    refine y_cS6 (q := 33) C 18 rfl rfl ml_RX5_58 cd_X5_orderOf sv_X5_orderOf (by decide) (by decide) (Nat.le_of_ble_eq_true rfl) (s_X5_orderOf ?_)
    show aj_X G 33 _ _ _ _ _ _ _ _ _
    refine x_if_lt (q := 36) (t := 40) C 19 rfl (by decide) rfl (fun c3 => ?_) (fun c3 => ?_)
    · skip
      refine x_iconst (q := 41) C 22 (n := (0)) (v := (0)) rfl rfl rfl ?_
      refine y_cS1 (q := 44) C 23 rfl rfl ml_RX5_47 cd_X5_one sv_X5_one (by decide) (by decide) (Nat.le_of_ble_eq_true rfl) (s_X5_one ?_)
      show aj_X G 44 _ _ _ _ _ _ _ _ _
      exact x_ireturn C Z 24 rfl rfl rfl (aj_lf hK (by unfold eg1; rw [show decide (b < 0) = true from decide_eq_true (Int32.not_le.mp (by assumption))]; exact if_pos (by assumption)))
    · skip
      refine x_iconst (q := 37) C 20 (n := (1)) (v := (1)) rfl rfl rfl ?_
      refine x_goto (t := 41) C 21 rfl (by decide) ?_
      refine y_cS1 (q := 44) C 23 rfl rfl ml_RX5_47 cd_X5_one sv_X5_one (by decide) (by decide) (Nat.le_of_ble_eq_true rfl) (s_X5_one ?_)
      show aj_X G 44 _ _ _ _ _ _ _ _ _
      exact x_ireturn C Z 24 rfl rfl rfl (aj_lf hK (by unfold eg1; rw [show decide (b < 0) = true from decide_eq_true (Int32.not_le.mp (by assumption))]; exact if_neg (by assumption)))
