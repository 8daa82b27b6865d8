set_option maxRecDepth 100000 in
set_option maxHeartbeats 800000 in
theorem s_X3_signOf {l : Launch} {I : Nat → Nat → Int32} {J : Nat → Nat → Int64} {V : Nat → Nat → Option Nat} {N : Nat → Nat} {L : List Nat} {K : aj_K} {v : Int64} (hK : K (.inl (some (.int (pSgn v)))) I J V N L) : aj_M l yX3_signOf (aj_wc yX3_signOf cX3_signOf 2 (some .int)) (aj_rm 0 0 0) [] [.long v] I J V N L K := by
  refine aj_intro (tbl := t_X3_signOf) (lv0 := [some (.long v), none]) (by decide) T_X3_signOf aj_f0 (Nat.le_of_ble_eq_true rfl) rfl ?_
  intro G hl C Z NX hnm hGL hGF
  have C : aj_C G cX3_signOf t_X3_signOf RX3 (aj_rm 0 0 0) 2 := C
  refine y_lload0 (q := 1) C 0 rfl rfl ?_
  refine x_lconst (q := 2) C 1 (n := 0) (v := 0) rfl rfl rfl ?_
  refine x_lcmp (q := 3) C 2 rfl rfl ?_
  refine x_if_le (q := 6) (t := 10) C 3 rfl (by decide) rfl (fun c1 => ?_) (fun c1 => ?_)
  · skip
    refine y_lload0 (q := 11) C 6 rfl rfl ?_
    refine x_lconst (q := 12) C 7 (n := 0) (v := 0) rfl rfl rfl ?_
    refine x_lcmp (q := 13) C 8 rfl rfl ?_
    refine x_if_ge (q := 16) (t := 20) C 9 rfl (by decide) rfl (fun c2 => ?_) (fun c2 => ?_)
    · skip
      refine x_iconst (q := 21) C 12 (n := (0)) (v := (0)) rfl rfl rfl ?_
      exact x_ireturn C Z 13 rfl rfl rfl (aj_lf hK (by clear hK C Z; simp_all [lg_cmp_gt, lg_cmp_lt, lg_cmp_le, lg_cmp_ge, pSgn, bI_0, bI_1, ← Int32.not_le, ← Int64.not_le]))
    · skip
      refine x_iconst (q := 17) C 10 (n := (-1)) (v := (-1)) rfl rfl rfl ?_
      refine x_goto (t := 21) C 11 rfl (by decide) ?_
      exact x_ireturn C Z 13 rfl rfl rfl (aj_lf hK (by clear hK C Z; simp_all [lg_cmp_gt, lg_cmp_lt, lg_cmp_le, lg_cmp_ge, pSgn, bI_0, bI_1, ← Int32.not_le, ← Int64.not_le]))
  · skip
    refine x_iconst (q := 7) C 4 (n := (1)) (v := (1)) rfl rfl rfl ?_
    refine x_goto (t := 21) C 5 rfl (by decide) ?_
    exact x_ireturn C Z 13 rfl rfl rfl (aj_lf hK (by clear hK C Z; simp_all [lg_cmp_gt, lg_cmp_lt, lg_cmp_le, lg_cmp_ge, pSgn, bI_0, bI_1, ← Int32.not_le, ← Int64.not_le]))
set_option maxRecDepth 100000 in
set_option maxHeartbeats 800000 in
theorem s_X2_isNull {l : Launch} {I : Nat → Nat → Int32} {J : Nat → Nat → Int64} {V : Nat → Nat → Option Nat} {N : Nat → Nat} {L : List Nat} {K : aj_K} {a : Nat} (ha : a % 16 = 3) (haL : a ∈ L) (hK : K (.inl (some (.int (bI (pNull (I a 0) (I a 1)))))) I J V N L) : aj_M l yX2_isNull (aj_wc yX2_isNull cX2_isNull 1 (some .boolean)) (aj_rm 0 0 0) [] [.ref a] I J V N L K := by
  refine aj_intro (tbl := t_X2_isNull) (lv0 := [some (.ref a)]) (by decide) T_X2_isNull aj_f0 (Nat.le_of_ble_eq_true rfl) rfl ?_
  intro G hl C Z NX hnm hGL hGF
  have C : aj_C G cX2_isNull t_X2_isNull RX2 (aj_rm 0 0 0) 1 := C
  refine y_aload0 (q := 1) C 0 rfl rfl ?_
  refine x_getI (q := 4) C 1 rfl rfl fl_RX2_7 (fun _ _ => rfl) (by first | assumption | rfl | decide | exact hB _ (by decide)) (by first | assumption | rfl | decide | exact hB _ (by decide)) ?_
  refine x_if_ne (q := 7) (t := 18) C 2 rfl (by decide) rfl (fun c1 => ?_) (fun c1 => ?_)
  · skip
    refine x_iconst (q := 19) C 8 (n := (0)) (v := (0)) rfl rfl rfl ?_
    exact x_ireturn C Z 9 rfl rfl rfl (aj_lf hK (by clear hK C Z; simp_all [pNull, bI_0, bI_1, ← Int32.not_le, ← Int64.not_le]))
  · skip
    refine y_aload0 (q := 8) C 3 rfl rfl ?_
    refine x_getI (q := 11) C 4 rfl rfl fl_RX2_16 (fun _ _ => rfl) (by first | assumption | rfl | decide | exact hB _ (by decide)) (by first | assumption | rfl | decide | exact hB _ (by decide)) ?_
    refine x_if_ne (q := 14) (t := 18) C 5 rfl (by decide) rfl (fun c2 => ?_) (fun c2 => ?_)
    · skip
      refine x_iconst (q := 19) C 8 (n := (0)) (v := (0)) rfl rfl rfl ?_
      exact x_ireturn C Z 9 rfl rfl rfl (aj_lf hK (by clear hK C Z; simp_all [pNull, bI_0, bI_1, ← Int32.not_le, ← Int64.not_le]))
    · skip
      refine x_iconst (q := 15) C 6 (n := (1)) (v := (1)) rfl rfl rfl ?_
      refine x_goto (t := 19) C 7 rfl (by decide) ?_
      exact x_ireturn C Z 9 rfl rfl rfl (aj_lf hK (by clear hK C Z; simp_all [pNull, bI_0, bI_1, ← Int32.not_le, ← Int64.not_le]))
set_option maxRecDepth 100000 in
set_option maxHeartbeats 800000 in
theorem s_X2_isUpper {l : Launch} {I : Nat → Nat → Int32} {J : Nat → Nat → Int64} {V : Nat → Nat → Option Nat} {N : Nat → Nat} {L : List Nat} {K : aj_K} {a : Nat} (ha : a % 16 = 3) (haL : a ∈ L) (hK : K (.inl (some (.int (bI (pUp (I a 2)))))) I J V N L) : aj_M l yX2_isUpper (aj_wc yX2_isUpper cX2_isUpper 1 (some .boolean)) (aj_rm 0 0 0) [] [.ref a] I J V N L K := by
  refine aj_intro (tbl := t_X2_isUpper) (lv0 := [some (.ref a)]) (by decide) T_X2_isUpper aj_f0 (Nat.le_of_ble_eq_true rfl) rfl ?_
  intro G hl C Z NX hnm hGL hGF
  have C : aj_C G cX2_isUpper t_X2_isUpper RX2 (aj_rm 0 0 0) 1 := C
  refine y_aload0 (q := 1) C 0 rfl rfl ?_
  refine x_getI (q := 4) C 1 rfl rfl fl_RX2_19 (fun _ _ => rfl) (by first | assumption | rfl | decide | exact hB _ (by decide)) (by first | assumption | rfl | decide | exact hB _ (by decide)) ?_
  refine x_iconst (q := 5) C 2 (n := (2)) (v := (2)) rfl rfl rfl ?_
  refine x_iand (q := 6) C 3 rfl rfl ?_
  refine x_if_ne (q := 9) (t := 13) C 4 rfl (by decide) rfl (fun c1 => ?_) (fun c1 => ?_)
  · skip
    refine x_iconst (q := 14) C 7 (n := (0)) (v := (0)) rfl rfl rfl ?_
    exact x_ireturn C Z 8 rfl rfl rfl (aj_lf hK (by clear hK C Z; simp_all [pUp, bI_0, bI_1, ← Int32.not_le, ← Int64.not_le]))
  · skip
    refine x_iconst (q := 10) C 5 (n := (1)) (v := (1)) rfl rfl rfl ?_
    refine x_goto (t := 14) C 6 rfl (by decide) ?_
    exact x_ireturn C Z 8 rfl rfl rfl (aj_lf hK (by clear hK C Z; simp_all [pUp, bI_0, bI_1, ← Int32.not_le, ← Int64.not_le]))
set_option maxRecDepth 100000 in
set_option maxHeartbeats 800000 in
theorem s_X2_isTwinOf {l : Launch} {I : Nat → Nat → Int32} {J : Nat → Nat → Int64} {V : Nat → Nat → Option Nat} {N : Nat → Nat} {L : List Nat} {K : aj_K} {a b : Nat} (ha : a % 16 = 3) (haL : a ∈ L) (hb : b % 16 = 3) (hbL : b ∈ L) (hK : K (.inl (some (.int (bI (pTwin (I a 0) (I a 1) (I a 2) (I b 0) (I b 1) (I b 2)))))) I J V N L) : aj_M l yX2_isTwinOf (aj_wc yX2_isTwinOf cX2_isTwinOf 2 (some .boolean)) (aj_rm 0 0 0) [] [.ref a, .ref b] I J V N L K := by
  refine aj_intro (tbl := t_X2_isTwinOf) (lv0 := [some (.ref a), some (.ref b)]) (by decide) T_X2_isTwinOf aj_f0 (Nat.le_of_ble_eq_true rfl) rfl ?_
  intro G hl C Z NX hnm hGL hGF
  have C : aj_C G cX2_isTwinOf t_X2_isTwinOf RX2 (aj_rm 0 0 0) 2 := C
  refine y_aload0 (q := 1) C 0 rfl rfl ?_
  refine x_getI (q := 4) C 1 rfl rfl fl_RX2_7 (fun _ _ => rfl) (by first | assumption | rfl | decide | exact hB _ (by decide)) (by first | assumption | rfl | decide | exact hB _ (by decide)) ?_
  refine y_aload1 (q := 5) C 2 rfl rfl ?_
  refine x_getI (q := 8) C 3 rfl rfl fl_RX2_7 (fun _ _ => rfl) (by first | assumption | rfl | decide | exact hB _ (by decide)) (by first | assumption | rfl | decide | exact hB _ (by decide)) ?_
  refine x_icmp_ne (q := 11) (t := 37) C 4 rfl (by decide) rfl (fun c1 => ?_) (fun c1 => ?_)
  · skip
    refine x_iconst (q := 38) C 17 (n := (0)) (v := (0)) rfl rfl rfl ?_
    exact x_ireturn C Z 18 rfl rfl rfl (aj_lf hK (by clear hK C Z; simp_all [pTwin, bI_0, bI_1, ← Int32.not_le, ← Int64.not_le]))
  · skip
    refine y_aload0 (q := 12) C 5 rfl rfl ?_
    refine x_getI (q := 15) C 6 rfl rfl fl_RX2_16 (fun _ _ => rfl) (by first | assumption | rfl | decide | exact hB _ (by decide)) (by first | assumption | rfl | decide | exact hB _ (by decide)) ?_
    refine y_aload1 (q := 16) C 7 rfl rfl ?_
    refine x_getI (q := 19) C 8 rfl rfl fl_RX2_16 (fun _ _ => rfl) (by first | assumption | rfl | decide | exact hB _ (by decide)) (by first | assumption | rfl | decide | exact hB _ (by decide)) ?_
    refine x_icmp_ne (q := 22) (t := 37) C 9 rfl (by decide) rfl (fun c2 => ?_) (fun c2 => ?_)
    · skip
      refine x_iconst (q := 38) C 17 (n := (0)) (v := (0)) rfl rfl rfl ?_
      exact x_ireturn C Z 18 rfl rfl rfl (aj_lf hK (by clear hK C Z; simp_all [pTwin, bI_0, bI_1, ← Int32.not_le, ← Int64.not_le]))
    · skip
      refine y_aload0 (q := 23) C 10 rfl rfl ?_
      refine x_getI (q := 26) C 11 rfl rfl fl_RX2_19 (fun _ _ => rfl) (by first | assumption | rfl | decide | exact hB _ (by decide)) (by first | assumption | rfl | decide | exact hB _ (by decide)) ?_
      refine y_aload1 (q := 27) C 12 rfl rfl ?_
      refine x_getI (q := 30) C 13 rfl rfl fl_RX2_19 (fun _ _ => rfl) (by first | assumption | rfl | decide | exact hB _ (by decide)) (by first | assumption | rfl | decide | exact hB _ (by decide)) ?_
      refine x_icmp_ne (q := 33) (t := 37) C 14 rfl (by decide) rfl (fun c3 => ?_) (fun c3 => ?_)
      · skip
        refine x_iconst (q := 38) C 17 (n := (0)) (v := (0)) rfl rfl rfl ?_
        exact x_ireturn C Z 18 rfl rfl rfl (aj_lf hK (by clear hK C Z; simp_all [pTwin, bI_0, bI_1, ← Int32.not_le, ← Int64.not_le]))
      · skip
        refine x_iconst (q := 34) C 15 (n := (1)) (v := (1)) rfl rfl rfl ?_
        refine x_goto (t := 38) C 16 rfl (by decide) ?_
        exact x_ireturn C Z 18 rfl rfl rfl (aj_lf hK (by clear hK C Z; simp_all [pTwin, bI_0, bI_1, ← Int32.not_le, ← Int64.not_le]))
set_option maxRecDepth 100000 in
set_option maxHeartbeats 800000 in
theorem s_X2_isOfNoSize {l : Launch} {I : Nat → Nat → Int32} {J : Nat → Nat → Int64} {V : Nat → Nat → Option Nat} {N : Nat → Nat} {L : List Nat} {K : aj_K} {a : Nat} (ha : a % 16 = 3) (haL : a ∈ L) (hK : K (.inl (some (.int (bI (pNoSize (I a 1) (I a 3)))))) I J V N L) : aj_M l yX2_isOfNoSize (aj_wc yX2_isOfNoSize cX2_isOfNoSize 1 (some .boolean)) (aj_rm 0 0 0) [] [.ref a] I J V N L K := by
  refine aj_intro (tbl := t_X2_isOfNoSize) (lv0 := [some (.ref a)]) (by decide) T_X2_isOfNoSize aj_f0 (Nat.le_of_ble_eq_true rfl) rfl ?_
  intro G hl C Z NX hnm hGL hGF
  have C : aj_C G cX2_isOfNoSize t_X2_isOfNoSize RX2 (aj_rm 0 0 0) 1 := C
  refine y_aload0 (q := 1) C 0 rfl rfl ?_
  refine x_getI (q := 4) C 1 rfl rfl fl_RX2_16 (fun _ _ => rfl) (by first | assumption | rfl | decide | exact hB _ (by decide)) (by first | assumption | rfl | decide | exact hB _ (by decide)) ?_
  refine x_if_ne (q := 7) (t := 18) C 2 rfl (by decide) rfl (fun c1 => ?_) (fun c1 => ?_)
  · skip
    refine x_iconst (q := 19) C 8 (n := (0)) (v := (0)) rfl rfl rfl ?_
    exact x_ireturn C Z 9 rfl rfl rfl (aj_lf hK (by clear hK C Z; simp_all [pNoSize, bI_0, bI_1, ← Int32.not_le, ← Int64.not_le]))
  · skip
    refine y_aload0 (q := 8) C 3 rfl rfl ?_
    refine x_getI (q := 11) C 4 rfl rfl fl_RX2_13 (fun _ _ => rfl) (by first | assumption | rfl | decide | exact hB _ (by decide)) (by first | assumption | rfl | decide | exact hB _ (by decide)) ?_
    refine x_if_le (q := 14) (t := 18) C 5 rfl (by decide) rfl (fun c2 => ?_) (fun c2 => ?_)
    · skip
      refine x_iconst (q := 19) C 8 (n := (0)) (v := (0)) rfl rfl rfl ?_
      exact x_ireturn C Z 9 rfl rfl rfl (aj_lf hK (by clear hK C Z; simp_all [pNoSize, bI_0, bI_1, ← Int32.not_le, ← Int64.not_le]))
    · skip
      refine x_iconst (q := 15) C 6 (n := (1)) (v := (1)) rfl rfl rfl ?_
      refine x_goto (t := 19) C 7 rfl (by decide) ?_
      exact x_ireturn C Z 9 rfl rfl rfl (aj_lf hK (by clear hK C Z; simp_all [pNoSize, bI_0, bI_1, ← Int32.not_le, ← Int64.not_le]))
set_option maxRecDepth 100000 in
set_option maxHeartbeats 800000 in
theorem s_X2_isDiagonal {l : Launch} {I : Nat → Nat → Int32} {J : Nat → Nat → Int64} {V : Nat → Nat → Option Nat} {N : Nat → Nat} {L : List Nat} {K : aj_K} {a : Nat} (ha : a % 16 = 3) (haL : a ∈ L) (hK : K (.inl (some (.int (bI (pDiag (I a 0) (I a 1)))))) I J V N L) : aj_M l yX2_isDiagonal (aj_wc yX2_isDiagonal cX2_isDiagonal 1 (some .boolean)) (aj_rm 0 0 0) [] [.ref a] I J V N L K := by
  refine aj_intro (tbl := t_X2_isDiagonal) (lv0 := [some (.ref a)]) (by decide) T_X2_isDiagonal aj_f0 (Nat.le_of_ble_eq_true rfl) rfl ?_
  intro G hl C Z NX hnm hGL hGF
  have C : aj_C G cX2_isDiagonal t_X2_isDiagonal RX2 (aj_rm 0 0 0) 1 := C
  refine y_aload0 (q := 1) C 0 rfl rfl ?_
  refine x_getI (q := 4) C 1 rfl rfl fl_RX2_16 (fun _ _ => rfl) (by first | assumption | rfl | decide | exact hB _ (by decide)) (by first | assumption | rfl | decide | exact hB _ (by decide)) ?_
  refine x_if_eq (q := 7) (t := 34) C 2 rfl (by decide) rfl (fun c1 => ?_) (fun c1 => ?_)
  · skip
    refine x_iconst (q := 35) C 16 (n := (0)) (v := (0)) rfl rfl rfl ?_
    exact x_ireturn C Z 17 rfl rfl rfl (aj_lf hK (by clear hK C Z; simp_all [pDiag, bI_0, bI_1, ← Int32.not_le, ← Int64.not_le]))
  · skip
    refine y_aload0 (q := 8) C 3 rfl rfl ?_
    refine x_getI (q := 11) C 4 rfl rfl fl_RX2_7 (fun _ _ => rfl) (by first | assumption | rfl | decide | exact hB _ (by decide)) (by first | assumption | rfl | decide | exact hB _ (by decide)) ?_
    refine y_aload0 (q := 12) C 5 rfl rfl ?_
    refine x_getI (q := 15) C 6 rfl rfl fl_RX2_16 (fun _ _ => rfl) (by first | assumption | rfl | decide | exact hB _ (by decide)) (by first | assumption | rfl | decide | exact hB _ (by decide)) ?_
    refine x_icmp_eq (q := 18) (t := 30) C 7 rfl (by decide) rfl (fun c2 => ?_) (fun c2 => ?_)
    · skip
      refine x_iconst (q := 31) C 14 (n := (1)) (v := (1)) rfl rfl rfl ?_
      refine x_goto (t := 35) C 15 rfl (by decide) ?_
      exact x_ireturn C Z 17 rfl rfl rfl (aj_lf hK (by clear hK C Z; simp_all [pDiag, bI_0, bI_1, ← Int32.not_le, ← Int64.not_le]))
    · skip
      refine y_aload0 (q := 19) C 8 rfl rfl ?_
      refine x_getI (q := 22) C 9 rfl rfl fl_RX2_7 (fun _ _ => rfl) (by first | assumption | rfl | decide | exact hB _ (by decide)) (by first | assumption | rfl | decide | exact hB _ (by decide)) ?_
      refine y_aload0 (q := 23) C 10 rfl rfl ?_
      refine x_getI (q := 26) C 11 rfl rfl fl_RX2_16 (fun _ _ => rfl) (by first | assumption | rfl | decide | exact hB _ (by decide)) (by first | assumption | rfl | decide | exact hB _ (by decide)) ?_
      refine x_ineg (q := 27) C 12 rfl rfl ?_
      refine x_icmp_ne (q := 30) (t := 34) C 13 rfl (by decide) rfl (fun c3 => ?_) (fun c3 => ?_)
      · skip
        refine x_iconst (q := 35) C 16 (n := (0)) (v := (0)) rfl rfl rfl ?_
        exact x_ireturn C Z 17 rfl rfl rfl (aj_lf hK (by clear hK C Z; simp_all [pDiag, bI_0, bI_1, ← Int32.not_le, ← Int64.not_le]))
      · skip
        refine x_iconst (q := 31) C 14 (n := (1)) (v := (1)) rfl rfl rfl ?_
        refine x_goto (t := 35) C 15 rfl (by decide) ?_
        exact x_ireturn C Z 17 rfl rfl rfl (aj_lf hK (by clear hK C Z; simp_all [pDiag, bI_0, bI_1, ← Int32.not_le, ← Int64.not_le]))
set_option maxRecDepth 100000 in
set_option maxHeartbeats 800000 in
theorem s_X2_isFixed {l : Launch} {I : Nat → Nat → Int32} {J : Nat → Nat → Int64} {V : Nat → Nat → Option Nat} {N : Nat → Nat} {L : List Nat} {K : aj_K} {a : Nat} (ha : a % 16 = 3) (haL : a ∈ L) (hK : K (.inl (some (.int (bI (pFixed (I a 0) (I a 1)))))) I J V N L) : aj_M l yX2_isFixed (aj_wc yX2_isFixed cX2_isFixed 1 (some .boolean)) (aj_rm 1 0 0) [] [.ref a] I J V N L K := by
  refine aj_intro (tbl := t_X2_isFixed) (lv0 := [some (.ref a)]) (by decide) T_X2_isFixed aj_f0 (Nat.le_of_ble_eq_true rfl) rfl ?_
  intro G hl C Z NX hnm hGL hGF
  have C : aj_C G cX2_isFixed t_X2_isFixed RX2 (aj_rm 1 0 0) 1 := C
  refine y_aload0 (q := 1) C 0 rfl rfl ?_
  refine x_getI (q := 4) C 1 rfl rfl fl_RX2_16 (fun _ _ => rfl) (by first | assumption | rfl | decide | exact hB _ (by decide)) (by first | assumption | rfl | decide | exact hB _ (by decide)) ?_
  refine x_if_eq (q := 7) (t := 21) C 2 rfl (by decide) rfl (fun c1 => ?_) (fun c1 => ?_)
  · skip
    refine x_iconst (q := 22) C 9 (n := (1)) (v := (1)) rfl rfl rfl ?_
    refine x_goto (t := 26) C 10 rfl (by decide) ?_
    exact x_ireturn C Z 12 rfl rfl rfl (aj_lf hK (by clear hK C Z; simp_all [pFixed, bI_0, bI_1, ← Int32.not_le, ← Int64.not_le]))
  · skip
    refine y_aload0 (q := 8) C 3 rfl rfl ?_
    refine x_getI (q := 11) C 4 rfl rfl fl_RX2_7 (fun _ _ => rfl) (by first | assumption | rfl | decide | exact hB _ (by decide)) (by first | assumption | rfl | decide | exact hB _ (by decide)) ?_
    refine x_if_eq (q := 14) (t := 21) C 5 rfl (by decide) rfl (fun c2 => ?_) (fun c2 => ?_)
    · skip
      refine x_iconst (q := 22) C 9 (n := (1)) (v := (1)) rfl rfl rfl ?_
      refine x_goto (t := 26) C 10 rfl (by decide) ?_
      exact x_ireturn C Z 12 rfl rfl rfl (aj_lf hK (by clear hK C Z; simp_all [pFixed, bI_0, bI_1, ← Int32.not_le, ← Int64.not_le]))
    · skip
      refine y_aload0 (q := 15) C 6 rfl rfl ?_
      refine y_cV0 (q := 18) C 7 rfl rfl ml_RX2_26 cd_X2_isDiagonal cv_X2_isDiagonal ⟨by rw [ha]; decide, by rw [ha]; rfl⟩ (by first | assumption | rfl | decide | exact hB _ (by decide)) (by decide) (by decide) (Nat.le_of_ble_eq_true rfl) (s_X2_isDiagonal (by first | assumption | rfl | decide | exact hB _ (by decide)) (by first | assumption | rfl | decide | exact hB _ (by decide)) ?_)
      show aj_X G 18 _ _ _ _ _ _ _ _ _
      refine x_if_eqB (q := 21) (t := 25) C 8 rfl (by decide) rfl (fun c3 => ?_) (fun c3 => ?_)
      · skip
        refine x_iconst (q := 26) C 11 (n := (0)) (v := (0)) rfl rfl rfl ?_
        exact x_ireturn C Z 12 rfl rfl rfl (aj_lf hK (by clear hK C Z; simp_all [pFixed, bI_0, bI_1, ← Int32.not_le, ← Int64.not_le]))
      · skip
        refine x_iconst (q := 22) C 9 (n := (1)) (v := (1)) rfl rfl rfl ?_
        refine x_goto (t := 26) C 10 rfl (by decide) ?_
        exact x_ireturn C Z 12 rfl rfl rfl (aj_lf hK (by clear hK C Z; simp_all [pFixed, bI_0, bI_1, ← Int32.not_le, ← Int64.not_le]))
set_option maxRecDepth 100000 in
set_option maxHeartbeats 800000 in
theorem s_X2_crossWith {l : Launch} {I : Nat → Nat → Int32} {J : Nat → Nat → Int64} {V : Nat → Nat → Option Nat} {N : Nat → Nat} {L : List Nat} {K : aj_K} {a b : Nat} (ha : a % 16 = 3) (haL : a ∈ L) (hb : b % 16 = 3) (hbL : b ∈ L) (hK : K (.inl (some (.int (pCross (I a 0) (I a 1) (I b 0) (I b 1))))) I J V N L) : aj_M l yX2_crossWith (aj_wc yX2_crossWith cX2_crossWith 2 (some .int)) (aj_rm 0 0 0) [] [.ref a, .ref b] I J V N L K := by
  refine aj_intro (tbl := t_X2_crossWith) (lv0 := [some (.ref a), some (.ref b)]) (by decide) T_X2_crossWith aj_f0 (Nat.le_of_ble_eq_true rfl) rfl ?_
  intro G hl C Z NX hnm hGL hGF
  have C : aj_C G cX2_crossWith t_X2_crossWith RX2 (aj_rm 0 0 0) 2 := C
  refine y_aload0 (q := 1) C 0 rfl rfl ?_
  refine x_getI (q := 4) C 1 rfl rfl fl_RX2_7 (fun _ _ => rfl) (by first | assumption | rfl | decide | exact hB _ (by decide)) (by first | assumption | rfl | decide | exact hB _ (by decide)) ?_
  refine y_aload1 (q := 5) C 2 rfl rfl ?_
  refine x_getI (q := 8) C 3 rfl rfl fl_RX2_16 (fun _ _ => rfl) (by first | assumption | rfl | decide | exact hB _ (by decide)) (by first | assumption | rfl | decide | exact hB _ (by decide)) ?_
  refine x_imul (q := 9) C 4 rfl rfl ?_
  refine y_aload0 (q := 10) C 5 rfl rfl ?_
  refine x_getI (q := 13) C 6 rfl rfl fl_RX2_16 (fun _ _ => rfl) (by first | assumption | rfl | decide | exact hB _ (by decide)) (by first | assumption | rfl | decide | exact hB _ (by decide)) ?_
  refine y_aload1 (q := 14) C 7 rfl rfl ?_
  refine x_getI (q := 17) C 8 rfl rfl fl_RX2_7 (fun _ _ => rfl) (by first | assumption | rfl | decide | exact hB _ (by decide)) (by first | assumption | rfl | decide | exact hB _ (by decide)) ?_
  refine x_imul (q := 18) C 9 rfl rfl ?_
  refine x_isub (q := 19) C 10 rfl rfl ?_
  exact x_ireturn C Z 11 rfl rfl rfl (hK)
set_option maxRecDepth 100000 in
set_option maxHeartbeats 800000 in
theorem s_X2_orderTo {l : Launch} {I : Nat → Nat → Int32} {J : Nat → Nat → Int64} {V : Nat → Nat → Option Nat} {N : Nat → Nat} {L : List Nat} {K : aj_K} {a b : Nat} (ha : a % 16 = 3) (haL : a ∈ L) (hb : b % 16 = 3) (hbL : b ∈ L) (hK : K (.inl (some (.int (pOrd (I a 3) (I a 1) (I a 2) (I b 3) (I b 1) (I b 2))))) I J V N L) : aj_M l yX2_orderTo (aj_wc yX2_orderTo cX2_orderTo 3 (some .int)) (aj_rm 1 0 0) [] [.ref a, .ref b] I J V N L K := by
  refine aj_intro (tbl := t_X2_orderTo) (lv0 := [some (.ref a), some (.ref b), none]) (by decide) T_X2_orderTo aj_f0 (Nat.le_of_ble_eq_true rfl) rfl ?_
  intro G hl C Z NX hnm hGL hGF
  have C : aj_C G cX2_orderTo t_X2_orderTo RX2 (aj_rm 1 0 0) 3 := C
  refine y_aload0 (q := 1) C 0 rfl rfl ?_
  refine y_cV0 (q := 4) C 1 rfl rfl ml_RX2_30 cd_X2_isUpper cv_X2_isUpper ⟨by rw [ha]; decide, by rw [ha]; rfl⟩ (by first | assumption | rfl | decide | exact hB _ (by decide)) (by decide) (by decide) (Nat.le_of_ble_eq_true rfl) (s_X2_isUpper (by first | assumption | rfl | decide | exact hB _ (by decide)) (by first | assumption | rfl | decide | exact hB _ (by decide)) ?_)
  show aj_X G 4 _ _ _ _ _ _ _ _ _
  refine y_aload1 (q := 5) C 2 rfl rfl ?_
  refine y_cV0 (q := 8) C 3 rfl rfl ml_RX2_30 cd_X2_isUpper cv_X2_isUpper ⟨by rw [hb]; decide, by rw [hb]; rfl⟩ (by first | assumption | rfl | decide | exact hB _ (by decide)) (by decide) (by decide) (Nat.le_of_ble_eq_true rfl) (s_X2_isUpper (by first | assumption | rfl | decide | exact hB _ (by decide)) (by first | assumption | rfl | decide | exact hB _ (by decide)) ?_)
  show aj_X G 8 _ _ _ _ _ _ _ _ _
  refine x_icmp_eqB (q := 11) (t := 24) C 4 rfl (by decide) rfl (fun c1 => ?_) (fun c1 => ?_)
  · skip
    refine y_aload0 (q := 25) C 12 rfl rfl ?_
    refine x_getI (q := 28) C 13 rfl rfl fl_RX2_13 (fun _ _ => rfl) (by first | assumption | rfl | decide | exact hB _ (by decide)) (by first | assumption | rfl | decide | exact hB _ (by decide)) ?_
    refine y_aload1 (q := 29) C 14 rfl rfl ?_
    refine x_getI (q := 32) C 15 rfl rfl fl_RX2_16 (fun _ _ => rfl) (by first | assumption | rfl | decide | exact hB _ (by decide)) (by first | assumption | rfl | decide | exact hB _ (by decide)) ?_
    refine x_imul (q := 33) C 16 rfl rfl ?_
    refine y_aload0 (q := 34) C 17 rfl rfl ?_
    refine x_getI (q := 37) C 18 rfl rfl fl_RX2_16 (fun _ _ => rfl) (by first | assumption | rfl | decide | exact hB _ (by decide)) (by first | assumption | rfl | decide | exact hB _ (by decide)) ?_
    refine y_aload1 (q := 38) C 19 rfl rfl ?_
    refine x_getI (q := 41) C 20 rfl rfl fl_RX2_13 (fun _ _ => rfl) (by first | assumption | rfl | decide | exact hB _ (by decide)) (by first | assumption | rfl | decide | exact hB _ (by decide)) ?_
    refine x_imul (q := 42) C 21 rfl rfl ?_
    refine x_isub (q := 43) C 22 rfl rfl ?_
    refine y_istore2 (q := 44) C 23 rfl rfl (Nat.le_of_ble_eq_true rfl) rfl ?_
    refine y_iload2 (q := 45) C 24 rfl rfl ?_
    refine x_if_eq (q := 48) (t := 58) C 25 rfl (by decide) rfl (fun c2 => ?_) (fun c2 => ?_)
    · skip
      refine y_aload0 (q := 59) C 32 rfl rfl ?_
      refine x_getI (q := 62) C 33 rfl rfl fl_RX2_13 (fun _ _ => rfl) (by first | assumption | rfl | decide | exact hB _ (by decide)) (by first | assumption | rfl | decide | exact hB _ (by decide)) ?_
      refine y_aload1 (q := 63) C 34 rfl rfl ?_
      refine x_getI (q := 66) C 35 rfl rfl fl_RX2_13 (fun _ _ => rfl) (by first | assumption | rfl | decide | exact hB _ (by decide)) (by first | assumption | rfl | decide | exact hB _ (by decide)) ?_
      refine x_imul (q := 67) C 36 rfl rfl ?_
      refine y_aload0 (q := 68) C 37 rfl rfl ?_
      refine x_getI (q := 71) C 38 rfl rfl fl_RX2_16 (fun _ _ => rfl) (by first | assumption | rfl | decide | exact hB _ (by decide)) (by first | assumption | rfl | decide | exact hB _ (by decide)) ?_
      refine y_aload1 (q := 72) C 39 rfl rfl ?_
      refine x_getI (q := 75) C 40 rfl rfl fl_RX2_16 (fun _ _ => rfl) (by first | assumption | rfl | decide | exact hB _ (by decide)) (by first | assumption | rfl | decide | exact hB _ (by decide)) ?_
      refine x_imul (q := 76) C 41 rfl rfl ?_
      refine x_iadd (q := 77) C 42 rfl rfl ?_
      refine x_if_le (q := 80) (t := 82) C 43 rfl (by decide) rfl (fun c3 => ?_) (fun c3 => ?_)
      · skip
        refine y_aload0 (q := 83) C 46 rfl rfl ?_
        refine y_cV0 (q := 86) C 47 rfl rfl ml_RX2_30 cd_X2_isUpper cv_X2_isUpper ⟨by rw [ha]; decide, by rw [ha]; rfl⟩ (by first | assumption | rfl | decide | exact hB _ (by decide)) (by decide) (by decide) (Nat.le_of_ble_eq_true rfl) (s_X2_isUpper (by first | assumption | rfl | decide | exact hB _ (by decide)) (by first | assumption | rfl | decide | exact hB _ (by decide)) ?_)
        show aj_X G 86 _ _ _ _ _ _ _ _ _
        refine y_aload0 (q := 87) C 48 rfl rfl ?_
        refine x_getI (q := 90) C 49 rfl rfl fl_RX2_13 (fun _ _ => rfl) (by first | assumption | rfl | decide | exact hB _ (by decide)) (by first | assumption | rfl | decide | exact hB _ (by decide)) ?_
        refine x_if_le (q := 93) (t := 97) C 50 rfl (by decide) rfl (fun c4 => ?_) (fun c4 => ?_)
        · skip
          refine x_iconst (q := 98) C 53 (n := (0)) (v := (0)) rfl rfl rfl ?_
          refine x_icmp_ne (q := 101) (t := 105) C 54 rfl (by decide) rfl (fun c5 => ?_) (fun c5 => ?_)
          · skip
            refine x_iconst (q := 106) C 57 (n := (1)) (v := (1)) rfl rfl rfl ?_
            exact x_ireturn C Z 58 rfl rfl rfl (aj_lf hK (by clear hK C Z; simp_all [pOrd, bI_0, bI_1, ← Int32.not_le, ← Int64.not_le]))
          · skip
            refine x_iconst (q := 102) C 55 (n := (-1)) (v := (-1)) rfl rfl rfl ?_
            refine x_goto (t := 106) C 56 rfl (by decide) ?_
            exact x_ireturn C Z 58 rfl rfl rfl (aj_lf hK (by clear hK C Z; simp_all [pOrd, bI_0, bI_1, ← Int32.not_le, ← Int64.not_le]))
        · skip
          refine x_iconst (q := 94) C 51 (n := (1)) (v := (1)) rfl rfl rfl ?_
          refine x_goto (t := 98) C 52 rfl (by decide) ?_
          refine x_icmp_ne (q := 101) (t := 105) C 54 rfl (by decide) rfl (fun c6 => ?_) (fun c6 => ?_)
          · skip
            refine x_iconst (q := 106) C 57 (n := (1)) (v := (1)) rfl rfl rfl ?_
            exact x_ireturn C Z 58 rfl rfl rfl (aj_lf hK (by clear hK C Z; simp_all [pOrd, bI_0, bI_1, ← Int32.not_le, ← Int64.not_le]))
          · skip
            refine x_iconst (q := 102) C 55 (n := (-1)) (v := (-1)) rfl rfl rfl ?_
            refine x_goto (t := 106) C 56 rfl (by decide) ?_
            exact x_ireturn C Z 58 rfl rfl rfl (aj_lf hK (by clear hK C Z; simp_all [pOrd, bI_0, bI_1, ← Int32.not_le, ← Int64.not_le]))
      · skip
        refine x_iconst (q := 81) C 44 (n := (0)) (v := (0)) rfl rfl rfl ?_
        exact x_ireturn C Z 45 rfl rfl rfl (aj_lf hK (by clear hK C Z; simp_all [pOrd, bI_0, bI_1, ← Int32.not_le, ← Int64.not_le]))
    · skip
      refine y_iload2 (q := 49) C 26 rfl rfl ?_
      refine x_if_le (q := 52) (t := 56) C 27 rfl (by decide) rfl (fun c7 => ?_) (fun c7 => ?_)
      · skip
        refine x_iconst (q := 57) C 30 (n := (1)) (v := (1)) rfl rfl rfl ?_
        exact x_ireturn C Z 31 rfl rfl rfl (aj_lf hK (by clear hK C Z; simp_all [pOrd, bI_0, bI_1, ← Int32.not_le, ← Int64.not_le]))
      · skip
        refine x_iconst (q := 53) C 28 (n := (-1)) (v := (-1)) rfl rfl rfl ?_
        refine x_goto (t := 57) C 29 rfl (by decide) ?_
        exact x_ireturn C Z 31 rfl rfl rfl (aj_lf hK (by clear hK C Z; simp_all [pOrd, bI_0, bI_1, ← Int32.not_le, ← Int64.not_le]))
  · skip
    refine y_aload0 (q := 12) C 5 rfl rfl ?_
    refine y_cV0 (q := 15) C 6 rfl rfl ml_RX2_30 cd_X2_isUpper cv_X2_isUpper ⟨by rw [ha]; decide, by rw [ha]; rfl⟩ (by first | assumption | rfl | decide | exact hB _ (by decide)) (by decide) (by decide) (Nat.le_of_ble_eq_true rfl) (s_X2_isUpper (by first | assumption | rfl | decide | exact hB _ (by decide)) (by first | assumption | rfl | decide | exact hB _ (by decide)) ?_)
    show aj_X G 15 _ _ _ _ _ _ _ _ _
    refine x_if_eqB (q := 18) (t := 22) C 7 rfl (by decide) rfl (fun c8 => ?_) (fun c8 => ?_)
    · skip
      refine x_iconst (q := 23) C 10 (n := (-1)) (v := (-1)) rfl rfl rfl ?_
      exact x_ireturn C Z 11 rfl rfl rfl (aj_lf hK (by clear hK C Z; simp_all [pOrd, bI_0, bI_1, ← Int32.not_le, ← Int64.not_le]))
    · skip
      refine x_iconst (q := 19) C 8 (n := (1)) (v := (1)) rfl rfl rfl ?_
      refine x_goto (t := 23) C 9 rfl (by decide) ?_
      exact x_ireturn C Z 11 rfl rfl rfl (aj_lf hK (by clear hK C Z; simp_all [pOrd, bI_0, bI_1, ← Int32.not_le, ← Int64.not_le]))
set_option maxRecDepth 100000 in
set_option maxHeartbeats 800000 in
theorem s_X2_sideOf {l : Launch} {I : Nat → Nat → Int32} {J : Nat → Nat → Int64} {V : Nat → Nat → Option Nat} {N : Nat → Nat} {L : List Nat} {K : aj_K} {a b : Nat} (ha : a % 16 = 3) (haL : a ∈ L) (hb : b % 16 = 3) (hbL : b ∈ L) (hK : K (.inl (some (.int (pSgn (pCross (I a 0) (I a 1) (I b 0) (I b 1)).toInt64)))) I J V N L) : aj_M l yX2_sideOf (aj_wc yX2_sideOf cX2_sideOf 2 (some .int)) (aj_rm 1 0 0) [] [.ref a, .ref b] I J V N L K := by
  refine aj_intro (tbl := t_X2_sideOf) (lv0 := [some (.ref a), some (.ref b)]) (by decide) T_X2_sideOf aj_f0 (Nat.le_of_ble_eq_true rfl) rfl ?_
  intro G hl C Z NX hnm hGL hGF
  have C : aj_C G cX2_sideOf t_X2_sideOf RX2 (aj_rm 1 0 0) 2 := C
  refine y_aload0 (q := 1) C 0 rfl rfl ?_
  refine y_aload1 (q := 2) C 1 rfl rfl ?_
  refine y_cV1 (q := 5) C 2 rfl rfl ml_RX2_33 cd_X2_crossWith cv_X2_crossWith ⟨by rw [ha]; decide, by rw [ha]; rfl⟩ (by first | assumption | rfl | decide | exact hB _ (by decide)) (by decide) (by decide) (Nat.le_of_ble_eq_true rfl) (s_X2_crossWith (by first | assumption | rfl | decide | exact hB _ (by decide)) (by first | assumption | rfl | decide | exact hB _ (by decide)) (by first | assumption | rfl | decide | exact hB _ (by decide)) (by first | assumption | rfl | decide | exact hB _ (by decide)) ?_)
  show aj_X G 5 _ _ _ _ _ _ _ _ _
  refine x_i2l (q := 6) C 3 rfl rfl ?_
  refine y_cSN1 (q := 9) C 4 rfl rfl ml_RX2_37 cd_X3_signOf sv_X3_signOf (by decide) (by decide) (Nat.le_of_ble_eq_true rfl) (s_X3_signOf ?_)
  show aj_X G 9 _ _ _ _ _ _ _ _ _
  exact x_ireturn C Z 5 rfl rfl rfl (hK)
set_option maxRecDepth 100000 in
set_option maxHeartbeats 800000 in
theorem s_X2_become {l : Launch} {I : Nat → Nat → Int32} {J : Nat → Nat → Int64} {V : Nat → Nat → Option Nat} {N : Nat → Nat} {L : List Nat} {K : aj_K} {a : Nat} {na nu zs : Int32} (ha : a % 16 = 3) (haL : a ∈ L) (hK : K (.inl none) (stB I a na nu zs) J V N L) : aj_M l yX2_become (aj_wc yX2_become cX2_become 4 none) (aj_rm 0 0 0) [] [.ref a, .int na, .int nu, .int zs] I J V N L K := by
  refine aj_intro (tbl := t_X2_become) (lv0 := [some (.ref a), some (.int na), some (.int nu), some (.int zs)]) (by decide) T_X2_become aj_f0 (Nat.le_of_ble_eq_true rfl) rfl ?_
  intro G hl C Z NX hnm hGL hGF
  have C : aj_C G cX2_become t_X2_become RX2 (aj_rm 0 0 0) 4 := C
  refine y_aload0 (q := 1) C 0 rfl rfl ?_
  refine y_iload1 (q := 2) C 1 rfl rfl ?_
  refine x_putI (q := 5) C 2 rfl rfl fl_RX2_7 rfl rfl (by first | assumption | rfl | decide | exact hB _ (by decide)) (by first | assumption | rfl | decide | exact hB _ (by decide)) ?_
  refine y_aload0 (q := 6) C 3 rfl rfl ?_
  refine y_iload2 (q := 7) C 4 rfl rfl ?_
  refine x_putI (q := 10) C 5 rfl rfl fl_RX2_16 rfl rfl (by first | assumption | rfl | decide | exact hB _ (by decide)) (by first | assumption | rfl | decide | exact hB _ (by decide)) ?_
  refine y_aload0 (q := 11) C 6 rfl rfl ?_
  refine y_iload1 (q := 12) C 7 rfl rfl ?_
  refine x_if_ne (q := 15) (t := 21) C 8 rfl (by decide) rfl (fun c1 => ?_) (fun c1 => ?_)
  · skip
    refine y_iload1 (q := 22) C 13 rfl rfl ?_
    refine x_if_ge (q := 25) (t := 29) C 14 rfl (by decide) rfl (fun c2 => ?_) (fun c2 => ?_)
    · skip
      refine x_iconst (q := 30) C 17 (n := (0)) (v := (0)) rfl rfl rfl ?_
      refine y_iload2 (q := 31) C 18 rfl rfl ?_
      refine x_if_ne (q := 34) (t := 40) C 19 rfl (by decide) rfl (fun c3 => ?_) (fun c3 => ?_)
      · skip
        refine y_iload2 (q := 41) C 24 rfl rfl ?_
        refine x_if_ge (q := 44) (t := 48) C 25 rfl (by decide) rfl (fun c4 => ?_) (fun c4 => ?_)
        · skip
          refine x_iconst (q := 49) C 28 (n := (0)) (v := (0)) rfl rfl rfl ?_
          refine x_ior (q := 50) C 29 rfl rfl ?_
          refine x_putI (q := 53) C 30 rfl rfl fl_RX2_19 rfl rfl (by first | assumption | rfl | decide | exact hB _ (by decide)) (by first | assumption | rfl | decide | exact hB _ (by decide)) ?_
          refine y_aload0 (q := 54) C 31 rfl rfl ?_
          refine y_iload1 (q := 55) C 32 rfl rfl ?_
          refine x_putI (q := 58) C 33 rfl rfl fl_RX2_13 rfl rfl (by first | assumption | rfl | decide | exact hB _ (by decide)) (by first | assumption | rfl | decide | exact hB _ (by decide)) ?_
          refine y_iload1 (q := 59) C 34 rfl rfl ?_
          refine x_if_ne (q := 62) (t := 84) C 35 rfl (by decide) rfl (fun c5 => ?_) (fun c5 => ?_)
          · skip
            exact x_return C Z 48 rfl rfl (aj_lfI hK (by clear hK C Z; simp_all [stB, pSg, pSgA, pSgU, pLk, aj_u_u, bI_0, bI_1, ← Int32.not_le, ← Int64.not_le]))
          · skip
            refine y_iload2 (q := 63) C 36 rfl rfl ?_
            refine x_if_ne (q := 66) (t := 84) C 37 rfl (by decide) rfl (fun c6 => ?_) (fun c6 => ?_)
            · skip
              exact x_return C Z 48 rfl rfl (aj_lfI hK (by clear hK C Z; simp_all [stB, pSg, pSgA, pSgU, pLk, aj_u_u, bI_0, bI_1, ← Int32.not_le, ← Int64.not_le]))
            · skip
              refine y_aload0 (q := 67) C 38 rfl rfl ?_
              refine y_aload0 (q := 68) C 39 rfl rfl ?_
              refine x_getI (q := 71) C 40 rfl rfl fl_RX2_19 (fun _ _ => rfl) (by first | assumption | rfl | decide | exact hB _ (by decide)) (by first | assumption | rfl | decide | exact hB _ (by decide)) ?_
              simp only [aj_u_s, aj_u_k, ne_eq, Nat.reduceEqDiff, not_false_eq_true]
              refine x_iconst (q := 72) C 41 (n := (1)) (v := (1)) rfl rfl rfl ?_
              refine x_iand (q := 73) C 42 rfl rfl ?_
              refine x_if_ne (q := 76) (t := 80) C 43 rfl (by decide) rfl (fun c7 => ?_) (fun c7 => ?_)
              · skip
                refine x_iconst (q := 81) C 46 (n := (-1)) (v := (-1)) rfl rfl rfl ?_
                refine x_putI (q := 84) C 47 rfl rfl fl_RX2_13 rfl rfl (by first | assumption | rfl | decide | exact hB _ (by decide)) (by first | assumption | rfl | decide | exact hB _ (by decide)) ?_
                exact x_return C Z 48 rfl rfl (aj_lfI hK (by clear hK C Z; simp_all [stB, pSg, pSgA, pSgU, pLk, aj_u_u, bI_0, bI_1, ← Int32.not_le, ← Int64.not_le]))
              · skip
                refine x_iconst (q := 77) C 44 (n := (1)) (v := (1)) rfl rfl rfl ?_
                refine x_goto (t := 81) C 45 rfl (by decide) ?_
                refine x_putI (q := 84) C 47 rfl rfl fl_RX2_13 rfl rfl (by first | assumption | rfl | decide | exact hB _ (by decide)) (by first | assumption | rfl | decide | exact hB _ (by decide)) ?_
                exact x_return C Z 48 rfl rfl (aj_lfI hK (by clear hK C Z; simp_all [stB, pSg, pSgA, pSgU, pLk, aj_u_u, bI_0, bI_1, ← Int32.not_le, ← Int64.not_le]))
        · skip
          refine x_iconst (q := 45) C 26 (n := (2)) (v := (2)) rfl rfl rfl ?_
          refine x_goto (t := 49) C 27 rfl (by decide) ?_
          refine x_ior (q := 50) C 29 rfl rfl ?_
          refine x_putI (q := 53) C 30 rfl rfl fl_RX2_19 rfl rfl (by first | assumption | rfl | decide | exact hB _ (by decide)) (by first | assumption | rfl | decide | exact hB _ (by decide)) ?_
          refine y_aload0 (q := 54) C 31 rfl rfl ?_
          refine y_iload1 (q := 55) C 32 rfl rfl ?_
          refine x_putI (q := 58) C 33 rfl rfl fl_RX2_13 rfl rfl (by first | assumption | rfl | decide | exact hB _ (by decide)) (by first | assumption | rfl | decide | exact hB _ (by decide)) ?_
          refine y_iload1 (q := 59) C 34 rfl rfl ?_
          refine x_if_ne (q := 62) (t := 84) C 35 rfl (by decide) rfl (fun c8 => ?_) (fun c8 => ?_)
          · skip
            exact x_return C Z 48 rfl rfl (aj_lfI hK (by clear hK C Z; simp_all [stB, pSg, pSgA, pSgU, pLk, aj_u_u, bI_0, bI_1, ← Int32.not_le, ← Int64.not_le]))
          · skip
            refine y_iload2 (q := 63) C 36 rfl rfl ?_
            refine x_if_ne (q := 66) (t := 84) C 37 rfl (by decide) rfl (fun c9 => ?_) (fun c9 => ?_)
            · skip
              exact x_return C Z 48 rfl rfl (aj_lfI hK (by clear hK C Z; simp_all [stB, pSg, pSgA, pSgU, pLk, aj_u_u, bI_0, bI_1, ← Int32.not_le, ← Int64.not_le]))
            · skip
              refine y_aload0 (q := 67) C 38 rfl rfl ?_
              refine y_aload0 (q := 68) C 39 rfl rfl ?_
              refine x_getI (q := 71) C 40 rfl rfl fl_RX2_19 (fun _ _ => rfl) (by first | assumption | rfl | decide | exact hB _ (by decide)) (by first | assumption | rfl | decide | exact hB _ (by decide)) ?_
              simp only [aj_u_s, aj_u_k, ne_eq, Nat.reduceEqDiff, not_false_eq_true]
              refine x_iconst (q := 72) C 41 (n := (1)) (v := (1)) rfl rfl rfl ?_
              refine x_iand (q := 73) C 42 rfl rfl ?_
              refine x_if_ne (q := 76) (t := 80) C 43 rfl (by decide) rfl (fun c10 => ?_) (fun c10 => ?_)
              · skip
                refine x_iconst (q := 81) C 46 (n := (-1)) (v := (-1)) rfl rfl rfl ?_
                refine x_putI (q := 84) C 47 rfl rfl fl_RX2_13 rfl rfl (by first | assumption | rfl | decide | exact hB _ (by decide)) (by first | assumption | rfl | decide | exact hB _ (by decide)) ?_
                exact x_return C Z 48 rfl rfl (aj_lfI hK (by clear hK C Z; simp_all [stB, pSg, pSgA, pSgU, pLk, aj_u_u, bI_0, bI_1, ← Int32.not_le, ← Int64.not_le]))
              · skip
                refine x_iconst (q := 77) C 44 (n := (1)) (v := (1)) rfl rfl rfl ?_
                refine x_goto (t := 81) C 45 rfl (by decide) ?_
                refine x_putI (q := 84) C 47 rfl rfl fl_RX2_13 rfl rfl (by first | assumption | rfl | decide | exact hB _ (by decide)) (by first | assumption | rfl | decide | exact hB _ (by decide)) ?_
                exact x_return C Z 48 rfl rfl (aj_lfI hK (by clear hK C Z; simp_all [stB, pSg, pSgA, pSgU, pLk, aj_u_u, bI_0, bI_1, ← Int32.not_le, ← Int64.not_le]))
      · skip
        refine y_iload3 (q := 35) C 20 rfl rfl ?_
        refine x_iconst (q := 36) C 21 (n := (2)) (v := (2)) rfl rfl rfl ?_
        refine x_iand (q := 37) C 22 rfl rfl ?_
        refine x_goto (t := 49) C 23 rfl (by decide) ?_
        refine x_ior (q := 50) C 29 rfl rfl ?_
        refine x_putI (q := 53) C 30 rfl rfl fl_RX2_19 rfl rfl (by first | assumption | rfl | decide | exact hB _ (by decide)) (by first | assumption | rfl | decide | exact hB _ (by decide)) ?_
        refine y_aload0 (q := 54) C 31 rfl rfl ?_
        refine y_iload1 (q := 55) C 32 rfl rfl ?_
        refine x_putI (q := 58) C 33 rfl rfl fl_RX2_13 rfl rfl (by first | assumption | rfl | decide | exact hB _ (by decide)) (by first | assumption | rfl | decide | exact hB _ (by decide)) ?_
        refine y_iload1 (q := 59) C 34 rfl rfl ?_
        refine x_if_ne (q := 62) (t := 84) C 35 rfl (by decide) rfl (fun c11 => ?_) (fun c11 => ?_)
        · skip
          exact x_return C Z 48 rfl rfl (aj_lfI hK (by clear hK C Z; simp_all [stB, pSg, pSgA, pSgU, pLk, aj_u_u, bI_0, bI_1, ← Int32.not_le, ← Int64.not_le]))
        · skip
          refine y_iload2 (q := 63) C 36 rfl rfl ?_
          refine x_if_ne (q := 66) (t := 84) C 37 rfl (by decide) rfl (fun c12 => ?_) (fun c12 => ?_)
          · skip
            exact x_return C Z 48 rfl rfl (aj_lfI hK (by clear hK C Z; simp_all [stB, pSg, pSgA, pSgU, pLk, aj_u_u, bI_0, bI_1, ← Int32.not_le, ← Int64.not_le]))
          · skip
            refine y_aload0 (q := 67) C 38 rfl rfl ?_
            refine y_aload0 (q := 68) C 39 rfl rfl ?_
            refine x_getI (q := 71) C 40 rfl rfl fl_RX2_19 (fun _ _ => rfl) (by first | assumption | rfl | decide | exact hB _ (by decide)) (by first | assumption | rfl | decide | exact hB _ (by decide)) ?_
            simp only [aj_u_s, aj_u_k, ne_eq, Nat.reduceEqDiff, not_false_eq_true]
            refine x_iconst (q := 72) C 41 (n := (1)) (v := (1)) rfl rfl rfl ?_
            refine x_iand (q := 73) C 42 rfl rfl ?_
            refine x_if_ne (q := 76) (t := 80) C 43 rfl (by decide) rfl (fun c13 => ?_) (fun c13 => ?_)
            · skip
              refine x_iconst (q := 81) C 46 (n := (-1)) (v := (-1)) rfl rfl rfl ?_
              refine x_putI (q := 84) C 47 rfl rfl fl_RX2_13 rfl rfl (by first | assumption | rfl | decide | exact hB _ (by decide)) (by first | assumption | rfl | decide | exact hB _ (by decide)) ?_
              exact x_return C Z 48 rfl rfl (aj_lfI hK (by clear hK C Z; simp_all [stB, pSg, pSgA, pSgU, pLk, aj_u_u, bI_0, bI_1, ← Int32.not_le, ← Int64.not_le]))
            · skip
              refine x_iconst (q := 77) C 44 (n := (1)) (v := (1)) rfl rfl rfl ?_
              refine x_goto (t := 81) C 45 rfl (by decide) ?_
              refine x_putI (q := 84) C 47 rfl rfl fl_RX2_13 rfl rfl (by first | assumption | rfl | decide | exact hB _ (by decide)) (by first | assumption | rfl | decide | exact hB _ (by decide)) ?_
              exact x_return C Z 48 rfl rfl (aj_lfI hK (by clear hK C Z; simp_all [stB, pSg, pSgA, pSgU, pLk, aj_u_u, bI_0, bI_1, ← Int32.not_le, ← Int64.not_le]))
    · skip
      refine x_iconst (q := 26) C 15 (n := (1)) (v := (1)) rfl rfl rfl ?_
      refine x_goto (t := 30) C 16 rfl (by decide) ?_
      refine y_iload2 (q := 31) C 18 rfl rfl ?_
      refine x_if_ne (q := 34) (t := 40) C 19 rfl (by decide) rfl (fun c14 => ?_) (fun c14 => ?_)
      · skip
        refine y_iload2 (q := 41) C 24 rfl rfl ?_
        refine x_if_ge (q := 44) (t := 48) C 25 rfl (by decide) rfl (fun c15 => ?_) (fun c15 => ?_)
        · skip
          refine x_iconst (q := 49) C 28 (n := (0)) (v := (0)) rfl rfl rfl ?_
          refine x_ior (q := 50) C 29 rfl rfl ?_
          refine x_putI (q := 53) C 30 rfl rfl fl_RX2_19 rfl rfl (by first | assumption | rfl | decide | exact hB _ (by decide)) (by first | assumption | rfl | decide | exact hB _ (by decide)) ?_
          refine y_aload0 (q := 54) C 31 rfl rfl ?_
          refine y_iload1 (q := 55) C 32 rfl rfl ?_
          refine x_putI (q := 58) C 33 rfl rfl fl_RX2_13 rfl rfl (by first | assumption | rfl | decide | exact hB _ (by decide)) (by first | assumption | rfl | decide | exact hB _ (by decide)) ?_
          refine y_iload1 (q := 59) C 34 rfl rfl ?_
          refine x_if_ne (q := 62) (t := 84) C 35 rfl (by decide) rfl (fun c16 => ?_) (fun c16 => ?_)
          · skip
            exact x_return C Z 48 rfl rfl (aj_lfI hK (by clear hK C Z; simp_all [stB, pSg, pSgA, pSgU, pLk, aj_u_u, bI_0, bI_1, ← Int32.not_le, ← Int64.not_le]))
          · skip
            refine y_iload2 (q := 63) C 36 rfl rfl ?_
            refine x_if_ne (q := 66) (t := 84) C 37 rfl (by decide) rfl (fun c17 => ?_) (fun c17 => ?_)
            · skip
              exact x_return C Z 48 rfl rfl (aj_lfI hK (by clear hK C Z; simp_all [stB, pSg, pSgA, pSgU, pLk, aj_u_u, bI_0, bI_1, ← Int32.not_le, ← Int64.not_le]))
            · skip
              refine y_aload0 (q := 67) C 38 rfl rfl ?_
              refine y_aload0 (q := 68) C 39 rfl rfl ?_
              refine x_getI (q := 71) C 40 rfl rfl fl_RX2_19 (fun _ _ => rfl) (by first | assumption | rfl | decide | exact hB _ (by decide)) (by first | assumption | rfl | decide | exact hB _ (by decide)) ?_
              simp only [aj_u_s, aj_u_k, ne_eq, Nat.reduceEqDiff, not_false_eq_true]
              refine x_iconst (q := 72) C 41 (n := (1)) (v := (1)) rfl rfl rfl ?_
              refine x_iand (q := 73) C 42 rfl rfl ?_
              refine x_if_ne (q := 76) (t := 80) C 43 rfl (by decide) rfl (fun c18 => ?_) (fun c18 => ?_)
              · skip
                refine x_iconst (q := 81) C 46 (n := (-1)) (v := (-1)) rfl rfl rfl ?_
                refine x_putI (q := 84) C 47 rfl rfl fl_RX2_13 rfl rfl (by first | assumption | rfl | decide | exact hB _ (by decide)) (by first | assumption | rfl | decide | exact hB _ (by decide)) ?_
                exact x_return C Z 48 rfl rfl (aj_lfI hK (by clear hK C Z; simp_all [stB, pSg, pSgA, pSgU, pLk, aj_u_u, bI_0, bI_1, ← Int32.not_le, ← Int64.not_le]))
              · skip
                refine x_iconst (q := 77) C 44 (n := (1)) (v := (1)) rfl rfl rfl ?_
                refine x_goto (t := 81) C 45 rfl (by decide) ?_
                refine x_putI (q := 84) C 47 rfl rfl fl_RX2_13 rfl rfl (by first | assumption | rfl | decide | exact hB _ (by decide)) (by first | assumption | rfl | decide | exact hB _ (by decide)) ?_
                exact x_return C Z 48 rfl rfl (aj_lfI hK (by clear hK C Z; simp_all [stB, pSg, pSgA, pSgU, pLk, aj_u_u, bI_0, bI_1, ← Int32.not_le, ← Int64.not_le]))
        · skip
          refine x_iconst (q := 45) C 26 (n := (2)) (v := (2)) rfl rfl rfl ?_
          refine x_goto (t := 49) C 27 rfl (by decide) ?_
          refine x_ior (q := 50) C 29 rfl rfl ?_
          refine x_putI (q := 53) C 30 rfl rfl fl_RX2_19 rfl rfl (by first | assumption | rfl | decide | exact hB _ (by decide)) (by first | assumption | rfl | decide | exact hB _ (by decide)) ?_
          refine y_aload0 (q := 54) C 31 rfl rfl ?_
          refine y_iload1 (q := 55) C 32 rfl rfl ?_
          refine x_putI (q := 58) C 33 rfl rfl fl_RX2_13 rfl rfl (by first | assumption | rfl | decide | exact hB _ (by decide)) (by first | assumption | rfl | decide | exact hB _ (by decide)) ?_
          refine y_iload1 (q := 59) C 34 rfl rfl ?_
          refine x_if_ne (q := 62) (t := 84) C 35 rfl (by decide) rfl (fun c19 => ?_) (fun c19 => ?_)
          · skip
            exact x_return C Z 48 rfl rfl (aj_lfI hK (by clear hK C Z; simp_all [stB, pSg, pSgA, pSgU, pLk, aj_u_u, bI_0, bI_1, ← Int32.not_le, ← Int64.not_le]))
          · skip
            refine y_iload2 (q := 63) C 36 rfl rfl ?_
            refine x_if_ne (q := 66) (t := 84) C 37 rfl (by decide) rfl (fun c20 => ?_) (fun c20 => ?_)
            · skip
              exact x_return C Z 48 rfl rfl (aj_lfI hK (by clear hK C Z; simp_all [stB, pSg, pSgA, pSgU, pLk, aj_u_u, bI_0, bI_1, ← Int32.not_le, ← Int64.not_le]))
            · skip
              refine y_aload0 (q := 67) C 38 rfl rfl ?_
              refine y_aload0 (q := 68) C 39 rfl rfl ?_
              refine x_getI (q := 71) C 40 rfl rfl fl_RX2_19 (fun _ _ => rfl) (by first | assumption | rfl | decide | exact hB _ (by decide)) (by first | assumption | rfl | decide | exact hB _ (by decide)) ?_
              simp only [aj_u_s, aj_u_k, ne_eq, Nat.reduceEqDiff, not_false_eq_true]
              refine x_iconst (q := 72) C 41 (n := (1)) (v := (1)) rfl rfl rfl ?_
              refine x_iand (q := 73) C 42 rfl rfl ?_
              refine x_if_ne (q := 76) (t := 80) C 43 rfl (by decide) rfl (fun c21 => ?_) (fun c21 => ?_)
              · skip
                refine x_iconst (q := 81) C 46 (n := (-1)) (v := (-1)) rfl rfl rfl ?_
                refine x_putI (q := 84) C 47 rfl rfl fl_RX2_13 rfl rfl (by first | assumption | rfl | decide | exact hB _ (by decide)) (by first | assumption | rfl | decide | exact hB _ (by decide)) ?_
                exact x_return C Z 48 rfl rfl (aj_lfI hK (by clear hK C Z; simp_all [stB, pSg, pSgA, pSgU, pLk, aj_u_u, bI_0, bI_1, ← Int32.not_le, ← Int64.not_le]))
              · skip
                refine x_iconst (q := 77) C 44 (n := (1)) (v := (1)) rfl rfl rfl ?_
                refine x_goto (t := 81) C 45 rfl (by decide) ?_
                refine x_putI (q := 84) C 47 rfl rfl fl_RX2_13 rfl rfl (by first | assumption | rfl | decide | exact hB _ (by decide)) (by first | assumption | rfl | decide | exact hB _ (by decide)) ?_
                exact x_return C Z 48 rfl rfl (aj_lfI hK (by clear hK C Z; simp_all [stB, pSg, pSgA, pSgU, pLk, aj_u_u, bI_0, bI_1, ← Int32.not_le, ← Int64.not_le]))
      · skip
        refine y_iload3 (q := 35) C 20 rfl rfl ?_
        refine x_iconst (q := 36) C 21 (n := (2)) (v := (2)) rfl rfl rfl ?_
        refine x_iand (q := 37) C 22 rfl rfl ?_
        refine x_goto (t := 49) C 23 rfl (by decide) ?_
        refine x_ior (q := 50) C 29 rfl rfl ?_
        refine x_putI (q := 53) C 30 rfl rfl fl_RX2_19 rfl rfl (by first | assumption | rfl | decide | exact hB _ (by decide)) (by first | assumption | rfl | decide | exact hB _ (by decide)) ?_
        refine y_aload0 (q := 54) C 31 rfl rfl ?_
        refine y_iload1 (q := 55) C 32 rfl rfl ?_
        refine x_putI (q := 58) C 33 rfl rfl fl_RX2_13 rfl rfl (by first | assumption | rfl | decide | exact hB _ (by decide)) (by first | assumption | rfl | decide | exact hB _ (by decide)) ?_
        refine y_iload1 (q := 59) C 34 rfl rfl ?_
        refine x_if_ne (q := 62) (t := 84) C 35 rfl (by decide) rfl (fun c22 => ?_) (fun c22 => ?_)
        · skip
          exact x_return C Z 48 rfl rfl (aj_lfI hK (by clear hK C Z; simp_all [stB, pSg, pSgA, pSgU, pLk, aj_u_u, bI_0, bI_1, ← Int32.not_le, ← Int64.not_le]))
        · skip
          refine y_iload2 (q := 63) C 36 rfl rfl ?_
          refine x_if_ne (q := 66) (t := 84) C 37 rfl (by decide) rfl (fun c23 => ?_) (fun c23 => ?_)
          · skip
            exact x_return C Z 48 rfl rfl (aj_lfI hK (by clear hK C Z; simp_all [stB, pSg, pSgA, pSgU, pLk, aj_u_u, bI_0, bI_1, ← Int32.not_le, ← Int64.not_le]))
          · skip
            refine y_aload0 (q := 67) C 38 rfl rfl ?_
            refine y_aload0 (q := 68) C 39 rfl rfl ?_
            refine x_getI (q := 71) C 40 rfl rfl fl_RX2_19 (fun _ _ => rfl) (by first | assumption | rfl | decide | exact hB _ (by decide)) (by first | assumption | rfl | decide | exact hB _ (by decide)) ?_
            simp only [aj_u_s, aj_u_k, ne_eq, Nat.reduceEqDiff, not_false_eq_true]
            refine x_iconst (q := 72) C 41 (n := (1)) (v := (1)) rfl rfl rfl ?_
            refine x_iand (q := 73) C 42 rfl rfl ?_
            refine x_if_ne (q := 76) (t := 80) C 43 rfl (by decide) rfl (fun c24 => ?_) (fun c24 => ?_)
            · skip
              refine x_iconst (q := 81) C 46 (n := (-1)) (v := (-1)) rfl rfl rfl ?_
              refine x_putI (q := 84) C 47 rfl rfl fl_RX2_13 rfl rfl (by first | assumption | rfl | decide | exact hB _ (by decide)) (by first | assumption | rfl | decide | exact hB _ (by decide)) ?_
              exact x_return C Z 48 rfl rfl (aj_lfI hK (by clear hK C Z; simp_all [stB, pSg, pSgA, pSgU, pLk, aj_u_u, bI_0, bI_1, ← Int32.not_le, ← Int64.not_le]))
            · skip
              refine x_iconst (q := 77) C 44 (n := (1)) (v := (1)) rfl rfl rfl ?_
              refine x_goto (t := 81) C 45 rfl (by decide) ?_
              refine x_putI (q := 84) C 47 rfl rfl fl_RX2_13 rfl rfl (by first | assumption | rfl | decide | exact hB _ (by decide)) (by first | assumption | rfl | decide | exact hB _ (by decide)) ?_
              exact x_return C Z 48 rfl rfl (aj_lfI hK (by clear hK C Z; simp_all [stB, pSg, pSgA, pSgU, pLk, aj_u_u, bI_0, bI_1, ← Int32.not_le, ← Int64.not_le]))
  · skip
    refine y_iload3 (q := 16) C 9 rfl rfl ?_
    refine x_iconst (q := 17) C 10 (n := (1)) (v := (1)) rfl rfl rfl ?_
    refine x_iand (q := 18) C 11 rfl rfl ?_
    refine x_goto (t := 30) C 12 rfl (by decide) ?_
    refine y_iload2 (q := 31) C 18 rfl rfl ?_
    refine x_if_ne (q := 34) (t := 40) C 19 rfl (by decide) rfl (fun c25 => ?_) (fun c25 => ?_)
    · skip
      refine y_iload2 (q := 41) C 24 rfl rfl ?_
      refine x_if_ge (q := 44) (t := 48) C 25 rfl (by decide) rfl (fun c26 => ?_) (fun c26 => ?_)
      · skip
        refine x_iconst (q := 49) C 28 (n := (0)) (v := (0)) rfl rfl rfl ?_
        refine x_ior (q := 50) C 29 rfl rfl ?_
        refine x_putI (q := 53) C 30 rfl rfl fl_RX2_19 rfl rfl (by first | assumption | rfl | decide | exact hB _ (by decide)) (by first | assumption | rfl | decide | exact hB _ (by decide)) ?_
        refine y_aload0 (q := 54) C 31 rfl rfl ?_
        refine y_iload1 (q := 55) C 32 rfl rfl ?_
        refine x_putI (q := 58) C 33 rfl rfl fl_RX2_13 rfl rfl (by first | assumption | rfl | decide | exact hB _ (by decide)) (by first | assumption | rfl | decide | exact hB _ (by decide)) ?_
        refine y_iload1 (q := 59) C 34 rfl rfl ?_
        refine x_if_ne (q := 62) (t := 84) C 35 rfl (by decide) rfl (fun c27 => ?_) (fun c27 => ?_)
        · skip
          exact x_return C Z 48 rfl rfl (aj_lfI hK (by clear hK C Z; simp_all [stB, pSg, pSgA, pSgU, pLk, aj_u_u, bI_0, bI_1, ← Int32.not_le, ← Int64.not_le]))
        · skip
          refine y_iload2 (q := 63) C 36 rfl rfl ?_
          refine x_if_ne (q := 66) (t := 84) C 37 rfl (by decide) rfl (fun c28 => ?_) (fun c28 => ?_)
          · skip
            exact x_return C Z 48 rfl rfl (aj_lfI hK (by clear hK C Z; simp_all [stB, pSg, pSgA, pSgU, pLk, aj_u_u, bI_0, bI_1, ← Int32.not_le, ← Int64.not_le]))
          · skip
            refine y_aload0 (q := 67) C 38 rfl rfl ?_
            refine y_aload0 (q := 68) C 39 rfl rfl ?_
            refine x_getI (q := 71) C 40 rfl rfl fl_RX2_19 (fun _ _ => rfl) (by first | assumption | rfl | decide | exact hB _ (by decide)) (by first | assumption | rfl | decide | exact hB _ (by decide)) ?_
            simp only [aj_u_s, aj_u_k, ne_eq, Nat.reduceEqDiff, not_false_eq_true]
            refine x_iconst (q := 72) C 41 (n := (1)) (v := (1)) rfl rfl rfl ?_
            refine x_iand (q := 73) C 42 rfl rfl ?_
            refine x_if_ne (q := 76) (t := 80) C 43 rfl (by decide) rfl (fun c29 => ?_) (fun c29 => ?_)
            · skip
              refine x_iconst (q := 81) C 46 (n := (-1)) (v := (-1)) rfl rfl rfl ?_
              refine x_putI (q := 84) C 47 rfl rfl fl_RX2_13 rfl rfl (by first | assumption | rfl | decide | exact hB _ (by decide)) (by first | assumption | rfl | decide | exact hB _ (by decide)) ?_
              exact x_return C Z 48 rfl rfl (aj_lfI hK (by clear hK C Z; simp_all [stB, pSg, pSgA, pSgU, pLk, aj_u_u, bI_0, bI_1, ← Int32.not_le, ← Int64.not_le]))
            · skip
              refine x_iconst (q := 77) C 44 (n := (1)) (v := (1)) rfl rfl rfl ?_
              refine x_goto (t := 81) C 45 rfl (by decide) ?_
              refine x_putI (q := 84) C 47 rfl rfl fl_RX2_13 rfl rfl (by first | assumption | rfl | decide | exact hB _ (by decide)) (by first | assumption | rfl | decide | exact hB _ (by decide)) ?_
              exact x_return C Z 48 rfl rfl (aj_lfI hK (by clear hK C Z; simp_all [stB, pSg, pSgA, pSgU, pLk, aj_u_u, bI_0, bI_1, ← Int32.not_le, ← Int64.not_le]))
      · skip
        refine x_iconst (q := 45) C 26 (n := (2)) (v := (2)) rfl rfl rfl ?_
        refine x_goto (t := 49) C 27 rfl (by decide) ?_
        refine x_ior (q := 50) C 29 rfl rfl ?_
        refine x_putI (q := 53) C 30 rfl rfl fl_RX2_19 rfl rfl (by first | assumption | rfl | decide | exact hB _ (by decide)) (by first | assumption | rfl | decide | exact hB _ (by decide)) ?_
        refine y_aload0 (q := 54) C 31 rfl rfl ?_
        refine y_iload1 (q := 55) C 32 rfl rfl ?_
        refine x_putI (q := 58) C 33 rfl rfl fl_RX2_13 rfl rfl (by first | assumption | rfl | decide | exact hB _ (by decide)) (by first | assumption | rfl | decide | exact hB _ (by decide)) ?_
        refine y_iload1 (q := 59) C 34 rfl rfl ?_
        refine x_if_ne (q := 62) (t := 84) C 35 rfl (by decide) rfl (fun c30 => ?_) (fun c30 => ?_)
        · skip
          exact x_return C Z 48 rfl rfl (aj_lfI hK (by clear hK C Z; simp_all [stB, pSg, pSgA, pSgU, pLk, aj_u_u, bI_0, bI_1, ← Int32.not_le, ← Int64.not_le]))
        · skip
          refine y_iload2 (q := 63) C 36 rfl rfl ?_
          refine x_if_ne (q := 66) (t := 84) C 37 rfl (by decide) rfl (fun c31 => ?_) (fun c31 => ?_)
          · skip
            exact x_return C Z 48 rfl rfl (aj_lfI hK (by clear hK C Z; simp_all [stB, pSg, pSgA, pSgU, pLk, aj_u_u, bI_0, bI_1, ← Int32.not_le, ← Int64.not_le]))
          · skip
            refine y_aload0 (q := 67) C 38 rfl rfl ?_
            refine y_aload0 (q := 68) C 39 rfl rfl ?_
            refine x_getI (q := 71) C 40 rfl rfl fl_RX2_19 (fun _ _ => rfl) (by first | assumption | rfl | decide | exact hB _ (by decide)) (by first | assumption | rfl | decide | exact hB _ (by decide)) ?_
            simp only [aj_u_s, aj_u_k, ne_eq, Nat.reduceEqDiff, not_false_eq_true]
            refine x_iconst (q := 72) C 41 (n := (1)) (v := (1)) rfl rfl rfl ?_
            refine x_iand (q := 73) C 42 rfl rfl ?_
            refine x_if_ne (q := 76) (t := 80) C 43 rfl (by decide) rfl (fun c32 => ?_) (fun c32 => ?_)
            · skip
              refine x_iconst (q := 81) C 46 (n := (-1)) (v := (-1)) rfl rfl rfl ?_
              refine x_putI (q := 84) C 47 rfl rfl fl_RX2_13 rfl rfl (by first | assumption | rfl | decide | exact hB _ (by decide)) (by first | assumption | rfl | decide | exact hB _ (by decide)) ?_
              exact x_return C Z 48 rfl rfl (aj_lfI hK (by clear hK C Z; simp_all [stB, pSg, pSgA, pSgU, pLk, aj_u_u, bI_0, bI_1, ← Int32.not_le, ← Int64.not_le]))
            · skip
              refine x_iconst (q := 77) C 44 (n := (1)) (v := (1)) rfl rfl rfl ?_
              refine x_goto (t := 81) C 45 rfl (by decide) ?_
              refine x_putI (q := 84) C 47 rfl rfl fl_RX2_13 rfl rfl (by first | assumption | rfl | decide | exact hB _ (by decide)) (by first | assumption | rfl | decide | exact hB _ (by decide)) ?_
              exact x_return C Z 48 rfl rfl (aj_lfI hK (by clear hK C Z; simp_all [stB, pSg, pSgA, pSgU, pLk, aj_u_u, bI_0, bI_1, ← Int32.not_le, ← Int64.not_le]))
    · skip
      refine y_iload3 (q := 35) C 20 rfl rfl ?_
      refine x_iconst (q := 36) C 21 (n := (2)) (v := (2)) rfl rfl rfl ?_
      refine x_iand (q := 37) C 22 rfl rfl ?_
      refine x_goto (t := 49) C 23 rfl (by decide) ?_
      refine x_ior (q := 50) C 29 rfl rfl ?_
      refine x_putI (q := 53) C 30 rfl rfl fl_RX2_19 rfl rfl (by first | assumption | rfl | decide | exact hB _ (by decide)) (by first | assumption | rfl | decide | exact hB _ (by decide)) ?_
      refine y_aload0 (q := 54) C 31 rfl rfl ?_
      refine y_iload1 (q := 55) C 32 rfl rfl ?_
      refine x_putI (q := 58) C 33 rfl rfl fl_RX2_13 rfl rfl (by first | assumption | rfl | decide | exact hB _ (by decide)) (by first | assumption | rfl | decide | exact hB _ (by decide)) ?_
      refine y_iload1 (q := 59) C 34 rfl rfl ?_
      refine x_if_ne (q := 62) (t := 84) C 35 rfl (by decide) rfl (fun c33 => ?_) (fun c33 => ?_)
      · skip
        exact x_return C Z 48 rfl rfl (aj_lfI hK (by clear hK C Z; simp_all [stB, pSg, pSgA, pSgU, pLk, aj_u_u, bI_0, bI_1, ← Int32.not_le, ← Int64.not_le]))
      · skip
        refine y_iload2 (q := 63) C 36 rfl rfl ?_
        refine x_if_ne (q := 66) (t := 84) C 37 rfl (by decide) rfl (fun c34 => ?_) (fun c34 => ?_)
        · skip
          exact x_return C Z 48 rfl rfl (aj_lfI hK (by clear hK C Z; simp_all [stB, pSg, pSgA, pSgU, pLk, aj_u_u, bI_0, bI_1, ← Int32.not_le, ← Int64.not_le]))
        · skip
          refine y_aload0 (q := 67) C 38 rfl rfl ?_
          refine y_aload0 (q := 68) C 39 rfl rfl ?_
          refine x_getI (q := 71) C 40 rfl rfl fl_RX2_19 (fun _ _ => rfl) (by first | assumption | rfl | decide | exact hB _ (by decide)) (by first | assumption | rfl | decide | exact hB _ (by decide)) ?_
          simp only [aj_u_s, aj_u_k, ne_eq, Nat.reduceEqDiff, not_false_eq_true]
          refine x_iconst (q := 72) C 41 (n := (1)) (v := (1)) rfl rfl rfl ?_
          refine x_iand (q := 73) C 42 rfl rfl ?_
          refine x_if_ne (q := 76) (t := 80) C 43 rfl (by decide) rfl (fun c35 => ?_) (fun c35 => ?_)
          · skip
            refine x_iconst (q := 81) C 46 (n := (-1)) (v := (-1)) rfl rfl rfl ?_
            refine x_putI (q := 84) C 47 rfl rfl fl_RX2_13 rfl rfl (by first | assumption | rfl | decide | exact hB _ (by decide)) (by first | assumption | rfl | decide | exact hB _ (by decide)) ?_
            exact x_return C Z 48 rfl rfl (aj_lfI hK (by clear hK C Z; simp_all [stB, pSg, pSgA, pSgU, pLk, aj_u_u, bI_0, bI_1, ← Int32.not_le, ← Int64.not_le]))
          · skip
            refine x_iconst (q := 77) C 44 (n := (1)) (v := (1)) rfl rfl rfl ?_
            refine x_goto (t := 81) C 45 rfl (by decide) ?_
            refine x_putI (q := 84) C 47 rfl rfl fl_RX2_13 rfl rfl (by first | assumption | rfl | decide | exact hB _ (by decide)) (by first | assumption | rfl | decide | exact hB _ (by decide)) ?_
            exact x_return C Z 48 rfl rfl (aj_lfI hK (by clear hK C Z; simp_all [stB, pSg, pSgA, pSgU, pLk, aj_u_u, bI_0, bI_1, ← Int32.not_le, ← Int64.not_le]))
set_option maxRecDepth 100000 in
set_option maxHeartbeats 800000 in
theorem s_X2_becomeByRule {l : Launch} {I : Nat → Nat → Int32} {J : Nat → Nat → Int64} {V : Nat → Nat → Option Nat} {N : Nat → Nat} {L : List Nat} {K : aj_K} {a b w : Nat} (ha : a % 16 = 3) (haL : a ∈ L) (hb : b % 16 = 3) (hbL : b ∈ L) (hw : w < 6) (hK : K (.inl none) (stB I a (pRA w (I b 0) (I b 1)) (pRU w (I b 0) (I b 1)) (pRS w (I b 2))) J V N L) : aj_M l yX2_becomeByRule (aj_wc yX2_becomeByRule cX2_becomeByRule 4 none) (aj_rm 1 0 0) [] [.ref a, .ref b, .int (nI w)] I J V N L K := by
  refine aj_intro (tbl := t_X2_becomeByRule) (lv0 := [some (.ref a), some (.ref b), some (.int (nI w)), none]) (by decide) T_X2_becomeByRule aj_f0 (Nat.le_of_ble_eq_true rfl) rfl ?_
  intro G hl C Z NX hnm hGL hGF
  have C : aj_C G cX2_becomeByRule t_X2_becomeByRule RX2 (aj_rm 1 0 0) 4 := C
  refine y_aload1 (q := 1) C 0 rfl rfl ?_
  refine x_getI (q := 4) C 1 rfl rfl fl_RX2_19 (fun _ _ => rfl) (by first | assumption | rfl | decide | exact hB _ (by decide)) (by first | assumption | rfl | decide | exact hB _ (by decide)) ?_
  refine x_iconst (q := 5) C 2 (n := (1)) (v := (1)) rfl rfl rfl ?_
  refine x_iand (q := 6) C 3 rfl rfl ?_
  refine x_iconst (q := 7) C 4 (n := (1)) (v := (1)) rfl rfl rfl ?_
  refine x_ishl (q := 8) C 5 rfl rfl ?_
  refine y_aload1 (q := 9) C 6 rfl rfl ?_
  refine x_getI (q := 12) C 7 rfl rfl fl_RX2_19 (fun _ _ => rfl) (by first | assumption | rfl | decide | exact hB _ (by decide)) (by first | assumption | rfl | decide | exact hB _ (by decide)) ?_
  refine x_iconst (q := 13) C 8 (n := (2)) (v := (2)) rfl rfl rfl ?_
  refine x_iand (q := 14) C 9 rfl rfl ?_
  refine x_iconst (q := 15) C 10 (n := (1)) (v := (1)) rfl rfl rfl ?_
  refine x_ishr (q := 16) C 11 rfl rfl ?_
  refine x_ior (q := 17) C 12 rfl rfl ?_
  refine y_istore3 (q := 18) C 13 rfl rfl (Nat.le_of_ble_eq_true rfl) rfl ?_
  refine y_iload2 (q := 19) C 14 rfl rfl ?_
  rcases (show w = 0 ∨ w = 1 ∨ w = 2 ∨ w = 3 ∨ w = 4 ∨ w = 5 by omega) with rfl | rfl | rfl | rfl | rfl | rfl
  · skip
    refine x_swIn (off := 33) (t := 52) C 15 rfl (by decide) (by decide) (by decide) (by decide) ?_
    refine y_aload0 (q := 53) C 16 rfl rfl ?_
    refine y_aload1 (q := 54) C 17 rfl rfl ?_
    refine x_getI (q := 57) C 18 rfl rfl fl_RX2_7 (fun _ _ => rfl) (by first | assumption | rfl | decide | exact hB _ (by decide)) (by first | assumption | rfl | decide | exact hB _ (by decide)) ?_
    refine y_aload1 (q := 58) C 19 rfl rfl ?_
    refine x_getI (q := 61) C 20 rfl rfl fl_RX2_16 (fun _ _ => rfl) (by first | assumption | rfl | decide | exact hB _ (by decide)) (by first | assumption | rfl | decide | exact hB _ (by decide)) ?_
    refine x_ineg (q := 62) C 21 rfl rfl ?_
    refine y_aload1 (q := 63) C 22 rfl rfl ?_
    refine x_getI (q := 66) C 23 rfl rfl fl_RX2_19 (fun _ _ => rfl) (by first | assumption | rfl | decide | exact hB _ (by decide)) (by first | assumption | rfl | decide | exact hB _ (by decide)) ?_
    refine x_iconst (q := 67) C 24 (n := (2)) (v := (2)) rfl rfl rfl ?_
    refine x_ixor (q := 68) C 25 rfl rfl ?_
    refine y_cV3 (q := 71) C 26 rfl rfl ml_RX2_22 cd_X2_become cv_X2_become ⟨by rw [ha]; decide, by rw [ha]; rfl⟩ (by first | assumption | rfl | decide | exact hB _ (by decide)) (by decide) (by decide) (Nat.le_of_ble_eq_true rfl) (s_X2_become (by first | assumption | rfl | decide | exact hB _ (by decide)) (by first | assumption | rfl | decide | exact hB _ (by decide)) ?_)
    show aj_X G 71 _ _ _ _ _ _ _ _ _
    refine x_goto (t := 170) C 27 rfl (by decide) ?_
    exact x_return C Z 82 rfl rfl (hK)
  · skip
    refine x_swIn (off := 55) (t := 74) C 15 rfl (by decide) (by decide) (by decide) (by decide) ?_
    refine y_aload0 (q := 75) C 28 rfl rfl ?_
    refine y_aload1 (q := 76) C 29 rfl rfl ?_
    refine x_getI (q := 79) C 30 rfl rfl fl_RX2_7 (fun _ _ => rfl) (by first | assumption | rfl | decide | exact hB _ (by decide)) (by first | assumption | rfl | decide | exact hB _ (by decide)) ?_
    refine x_ineg (q := 80) C 31 rfl rfl ?_
    refine y_aload1 (q := 81) C 32 rfl rfl ?_
    refine x_getI (q := 84) C 33 rfl rfl fl_RX2_16 (fun _ _ => rfl) (by first | assumption | rfl | decide | exact hB _ (by decide)) (by first | assumption | rfl | decide | exact hB _ (by decide)) ?_
    refine y_aload1 (q := 85) C 34 rfl rfl ?_
    refine x_getI (q := 88) C 35 rfl rfl fl_RX2_19 (fun _ _ => rfl) (by first | assumption | rfl | decide | exact hB _ (by decide)) (by first | assumption | rfl | decide | exact hB _ (by decide)) ?_
    refine x_iconst (q := 89) C 36 (n := (1)) (v := (1)) rfl rfl rfl ?_
    refine x_ixor (q := 90) C 37 rfl rfl ?_
    refine y_cV3 (q := 93) C 38 rfl rfl ml_RX2_22 cd_X2_become cv_X2_become ⟨by rw [ha]; decide, by rw [ha]; rfl⟩ (by first | assumption | rfl | decide | exact hB _ (by decide)) (by decide) (by decide) (Nat.le_of_ble_eq_true rfl) (s_X2_become (by first | assumption | rfl | decide | exact hB _ (by decide)) (by first | assumption | rfl | decide | exact hB _ (by decide)) ?_)
    show aj_X G 93 _ _ _ _ _ _ _ _ _
    refine x_goto (t := 170) C 39 rfl (by decide) ?_
    exact x_return C Z 82 rfl rfl (hK)
  · skip
    refine x_swIn (off := 77) (t := 96) C 15 rfl (by decide) (by decide) (by decide) (by decide) ?_
    refine y_aload0 (q := 97) C 40 rfl rfl ?_
    refine y_aload1 (q := 98) C 41 rfl rfl ?_
    refine x_getI (q := 101) C 42 rfl rfl fl_RX2_16 (fun _ _ => rfl) (by first | assumption | rfl | decide | exact hB _ (by decide)) (by first | assumption | rfl | decide | exact hB _ (by decide)) ?_
    refine x_ineg (q := 102) C 43 rfl rfl ?_
    refine y_aload1 (q := 103) C 44 rfl rfl ?_
    refine x_getI (q := 106) C 45 rfl rfl fl_RX2_7 (fun _ _ => rfl) (by first | assumption | rfl | decide | exact hB _ (by decide)) (by first | assumption | rfl | decide | exact hB _ (by decide)) ?_
    refine y_iload3 (q := 107) C 46 rfl rfl ?_
    refine x_iconst (q := 108) C 47 (n := (1)) (v := (1)) rfl rfl rfl ?_
    refine x_ixor (q := 109) C 48 rfl rfl ?_
    refine y_cV3 (q := 112) C 49 rfl rfl ml_RX2_22 cd_X2_become cv_X2_become ⟨by rw [ha]; decide, by rw [ha]; rfl⟩ (by first | assumption | rfl | decide | exact hB _ (by decide)) (by decide) (by decide) (Nat.le_of_ble_eq_true rfl) (s_X2_become (by first | assumption | rfl | decide | exact hB _ (by decide)) (by first | assumption | rfl | decide | exact hB _ (by decide)) ?_)
    show aj_X G 112 _ _ _ _ _ _ _ _ _
    refine x_goto (t := 170) C 50 rfl (by decide) ?_
    exact x_return C Z 82 rfl rfl (hK)
  · skip
    refine x_swIn (off := 96) (t := 115) C 15 rfl (by decide) (by decide) (by decide) (by decide) ?_
    refine y_aload0 (q := 116) C 51 rfl rfl ?_
    refine y_aload1 (q := 117) C 52 rfl rfl ?_
    refine x_getI (q := 120) C 53 rfl rfl fl_RX2_16 (fun _ _ => rfl) (by first | assumption | rfl | decide | exact hB _ (by decide)) (by first | assumption | rfl | decide | exact hB _ (by decide)) ?_
    refine y_aload1 (q := 121) C 54 rfl rfl ?_
    refine x_getI (q := 124) C 55 rfl rfl fl_RX2_7 (fun _ _ => rfl) (by first | assumption | rfl | decide | exact hB _ (by decide)) (by first | assumption | rfl | decide | exact hB _ (by decide)) ?_
    refine x_ineg (q := 125) C 56 rfl rfl ?_
    refine y_iload3 (q := 126) C 57 rfl rfl ?_
    refine x_iconst (q := 127) C 58 (n := (2)) (v := (2)) rfl rfl rfl ?_
    refine x_ixor (q := 128) C 59 rfl rfl ?_
    refine y_cV3 (q := 131) C 60 rfl rfl ml_RX2_22 cd_X2_become cv_X2_become ⟨by rw [ha]; decide, by rw [ha]; rfl⟩ (by first | assumption | rfl | decide | exact hB _ (by decide)) (by decide) (by decide) (Nat.le_of_ble_eq_true rfl) (s_X2_become (by first | assumption | rfl | decide | exact hB _ (by decide)) (by first | assumption | rfl | decide | exact hB _ (by decide)) ?_)
    show aj_X G 131 _ _ _ _ _ _ _ _ _
    refine x_goto (t := 170) C 61 rfl (by decide) ?_
    exact x_return C Z 82 rfl rfl (hK)
  · skip
    refine x_swIn (off := 115) (t := 134) C 15 rfl (by decide) (by decide) (by decide) (by decide) ?_
    refine y_aload0 (q := 135) C 62 rfl rfl ?_
    refine y_aload1 (q := 136) C 63 rfl rfl ?_
    refine x_getI (q := 139) C 64 rfl rfl fl_RX2_16 (fun _ _ => rfl) (by first | assumption | rfl | decide | exact hB _ (by decide)) (by first | assumption | rfl | decide | exact hB _ (by decide)) ?_
    refine y_aload1 (q := 140) C 65 rfl rfl ?_
    refine x_getI (q := 143) C 66 rfl rfl fl_RX2_7 (fun _ _ => rfl) (by first | assumption | rfl | decide | exact hB _ (by decide)) (by first | assumption | rfl | decide | exact hB _ (by decide)) ?_
    refine y_iload3 (q := 144) C 67 rfl rfl ?_
    refine y_cV3 (q := 147) C 68 rfl rfl ml_RX2_22 cd_X2_become cv_X2_become ⟨by rw [ha]; decide, by rw [ha]; rfl⟩ (by first | assumption | rfl | decide | exact hB _ (by decide)) (by decide) (by decide) (Nat.le_of_ble_eq_true rfl) (s_X2_become (by first | assumption | rfl | decide | exact hB _ (by decide)) (by first | assumption | rfl | decide | exact hB _ (by decide)) ?_)
    show aj_X G 147 _ _ _ _ _ _ _ _ _
    refine x_goto (t := 170) C 69 rfl (by decide) ?_
    exact x_return C Z 82 rfl rfl (hK)
  · skip
    refine x_swOut (t := 150) C 15 rfl (by decide) (by decide) ?_
    refine y_aload0 (q := 151) C 70 rfl rfl ?_
    refine y_aload1 (q := 152) C 71 rfl rfl ?_
    refine x_getI (q := 155) C 72 rfl rfl fl_RX2_7 (fun _ _ => rfl) (by first | assumption | rfl | decide | exact hB _ (by decide)) (by first | assumption | rfl | decide | exact hB _ (by decide)) ?_
    refine x_ineg (q := 156) C 73 rfl rfl ?_
    refine y_aload1 (q := 157) C 74 rfl rfl ?_
    refine x_getI (q := 160) C 75 rfl rfl fl_RX2_16 (fun _ _ => rfl) (by first | assumption | rfl | decide | exact hB _ (by decide)) (by first | assumption | rfl | decide | exact hB _ (by decide)) ?_
    refine x_ineg (q := 161) C 76 rfl rfl ?_
    refine y_aload1 (q := 162) C 77 rfl rfl ?_
    refine x_getI (q := 165) C 78 rfl rfl fl_RX2_19 (fun _ _ => rfl) (by first | assumption | rfl | decide | exact hB _ (by decide)) (by first | assumption | rfl | decide | exact hB _ (by decide)) ?_
    refine x_iconst (q := 166) C 79 (n := (3)) (v := (3)) rfl rfl rfl ?_
    refine x_ixor (q := 167) C 80 rfl rfl ?_
    refine y_cV3 (q := 170) C 81 rfl rfl ml_RX2_22 cd_X2_become cv_X2_become ⟨by rw [ha]; decide, by rw [ha]; rfl⟩ (by first | assumption | rfl | decide | exact hB _ (by decide)) (by decide) (by decide) (Nat.le_of_ble_eq_true rfl) (s_X2_become (by first | assumption | rfl | decide | exact hB _ (by decide)) (by first | assumption | rfl | decide | exact hB _ (by decide)) ?_)
    show aj_X G 170 _ _ _ _ _ _ _ _ _
    exact x_return C Z 82 rfl rfl (hK)
set_option maxRecDepth 100000 in
set_option maxHeartbeats 800000 in
theorem s_X0_timesQuotient {l : Launch} {I : Nat → Nat → Int32} {J : Nat → Nat → Int64} {V : Nat → Nat → Option Nat} {N : Nat → Nat} {L : List Nat} {K : aj_K} {v n d : Int64} (hK : K (.inl (some (.long (pTq v n d)))) I J V N L) : aj_M l yX0_timesQuotient (aj_wc yX0_timesQuotient cX0_timesQuotient 6 (some .long)) (aj_rm 0 0 0) [] [.long v, .long n, .long d] I J V N L K := by
  refine aj_intro (tbl := t_X0_timesQuotient) (lv0 := [some (.long v), none, some (.long n), none, some (.long d), none]) (by decide) T_X0_timesQuotient aj_f0 (Nat.le_of_ble_eq_true rfl) rfl ?_
  intro G hl C Z NX hnm hGL hGF
  have C : aj_C G cX0_timesQuotient t_X0_timesQuotient RX0 (aj_rm 0 0 0) 6 := C
  refine y_lload4 (q := 2) C 0 rfl rfl ?_
  refine x_lconst (q := 3) C 1 (n := 0) (v := 0) rfl rfl rfl ?_
  refine x_lcmp (q := 4) C 2 rfl rfl ?_
  refine x_if_gt (q := 7) (t := 9) C 3 rfl (by decide) rfl (fun c1 => ?_) (fun c1 => ?_)
  · skip
    refine y_lload0 (q := 10) C 6 rfl rfl ?_
    refine y_lload4 (q := 12) C 7 rfl rfl ?_
    refine x_ldiv (q := 13) C 8 (pTq_ne (by simpa [lg_cmp_gt] using c1)) rfl rfl ?_
    refine y_lload2 (q := 14) C 9 rfl rfl ?_
    refine x_lmul (q := 15) C 10 rfl rfl ?_
    refine y_lload0 (q := 16) C 11 rfl rfl ?_
    refine y_lload4 (q := 18) C 12 rfl rfl ?_
    refine x_lrem (q := 19) C 13 (pTq_ne (by simpa [lg_cmp_gt] using c1)) rfl rfl ?_
    refine y_lload2 (q := 20) C 14 rfl rfl ?_
    refine x_lmul (q := 21) C 15 rfl rfl ?_
    refine y_lload4 (q := 23) C 16 rfl rfl ?_
    refine x_ldiv (q := 24) C 17 (pTq_ne (by simpa [lg_cmp_gt] using c1)) rfl rfl ?_
    refine x_ladd (q := 25) C 18 rfl rfl ?_
    exact x_lreturn C Z 19 rfl rfl (aj_lfL hK (by clear hK C Z; simp_all [pTq, bI_0, bI_1, ← Int32.not_le, ← Int64.not_le, lg_cmp_gt, lg_cmp_lt, lg_cmp_le, lg_cmp_ge, lg_cmp_eq]))
  · skip
    refine x_lconst (q := 8) C 4 (n := 0) (v := 0) rfl rfl rfl ?_
    exact x_lreturn C Z 5 rfl rfl (aj_lfL hK (by clear hK C Z; simp_all [pTq, bI_0, bI_1, ← Int32.not_le, ← Int64.not_le, lg_cmp_gt, lg_cmp_lt, lg_cmp_le, lg_cmp_ge, lg_cmp_eq]))
set_option maxRecDepth 100000 in
set_option maxHeartbeats 800000 in
theorem s_X0_arc {l : Launch} {I : Nat → Nat → Int32} {J : Nat → Nat → Int64} {V : Nat → Nat → Option Nat} {N : Nat → Nat} {L : List Nat} {K : aj_K} {h w : Int64} (hK : K (.inl (some (.long (pArc h w)))) I J V N L) : aj_M l yX0_arc (aj_wc yX0_arc cX0_arc 11 (some .long)) (aj_rm 1 0 0) [] [.long h, .long w] I J V N L K := by
  refine aj_intro (tbl := t_X0_arc) (lv0 := [some (.long h), none, some (.long w), none, none, none, none, none, none, none, none]) (by decide) T_X0_arc aj_f0 (Nat.le_of_ble_eq_true rfl) rfl ?_
  intro G hl C Z NX hnm hGL hGF
  have C : aj_C G cX0_arc t_X0_arc RX0 (aj_rm 1 0 0) 11 := C
  refine y_lload0 (q := 1) C 0 rfl rfl ?_
  refine y_lload0 (q := 2) C 1 rfl rfl ?_
  refine x_lmul (q := 3) C 2 rfl rfl ?_
  refine y_lload2 (q := 4) C 3 rfl rfl ?_
  refine y_lload2 (q := 5) C 4 rfl rfl ?_
  refine x_lmul (q := 6) C 5 rfl rfl ?_
  refine x_ladd (q := 7) C 6 rfl rfl ?_
  refine y_lstore4 (q := 9) C 7 rfl rfl (Nat.le_of_ble_eq_true rfl) rfl ?_
  refine x_ldc2 (q := 12) C 8 kc_RX0_17 rfl rfl ?_
  refine y_lload0 (q := 13) C 9 rfl rfl ?_
  refine y_lload2 (q := 14) C 10 rfl rfl ?_
  refine x_lmul (q := 15) C 11 rfl rfl ?_
  refine y_lload4 (q := 17) C 12 rfl rfl ?_
  refine y_cS3 (q := 20) C 13 rfl rfl ml_RX0_19 cd_X0_timesQuotient sv_X0_timesQuotient (by decide) (by decide) (Nat.le_of_ble_eq_true rfl) (s_X0_timesQuotient ?_)
  show aj_X G 20 _ _ _ _ _ _ _ _ _
  refine y_lstore6 (q := 22) C 14 rfl rfl (Nat.le_of_ble_eq_true rfl) rfl ?_
  refine y_lload6 (q := 24) C 15 rfl rfl ?_
  refine y_lstore8 (q := 26) C 16 rfl rfl (Nat.le_of_ble_eq_true rfl) rfl ?_
  refine x_iconst (q := 27) C 17 (n := (1)) (v := (1)) rfl rfl rfl ?_
  refine y_istore10 (q := 29) C 18 rfl rfl (Nat.le_of_ble_eq_true rfl) rfl ?_
  have lp29 : ∀ (m : Nat) (k : Int32) (t sm : Int64), m ≤ 60 → k = nI (61 - m) → K (.inl (some (.long (pArcL h (h * h + w * w) m k t sm)))) I J V N L → aj_X G 29 [some (.long h), none, some (.long w), none, some (.long (h * h + w * w)), none, some (.long t), none, some (.long sm), none, some (.int k)] [] I J V N L 0 0 := by
    intro m
    induction m with
    | zero =>
      intro k t sm hn hk hKn
      refine y_iload10 (q := 31) C 19 rfl rfl ?_
      refine x_bipush (q := 33) C 20 (n := (60)) (v := (60)) rfl rfl rfl ?_
      refine x_icmp_gt (q := 36) (t := 82) C 21 rfl (by decide) rfl (fun c1 => ?_) (fun c1 => ?_)
      · skip
        refine y_lload8 (q := 84) C 51 rfl rfl ?_
        exact x_lreturn C Z 52 rfl rfl (hKn)
      · skip
        exact absurd c1 (by rw [hk]; decide)
    | succ m ih =>
      intro k t sm hn hk hKn
      refine y_iload10 (q := 31) C 19 rfl rfl ?_
      refine x_bipush (q := 33) C 20 (n := (60)) (v := (60)) rfl rfl rfl ?_
      refine x_icmp_gt (q := 36) (t := 82) C 21 rfl (by decide) rfl (fun c2 => ?_) (fun c2 => ?_)
      · skip
        exact absurd c2 (by rw [hk]; exact pk_ngt (b := 60) (by omega) (by decide))
      · skip
        refine y_lload6 (q := 38) C 22 rfl rfl ?_
        refine x_lconst (q := 39) C 23 (n := 0) (v := 0) rfl rfl rfl ?_
        refine x_lcmp (q := 40) C 24 rfl rfl ?_
        refine x_if_le (q := 43) (t := 82) C 25 rfl (by decide) rfl (fun c3 => ?_) (fun c3 => ?_)
        · skip
          refine y_lload8 (q := 84) C 51 rfl rfl ?_
          exact x_lreturn C Z 52 rfl rfl (aj_lfL hKn (by clear hKn ih hK C Z; simp only [lg_cmp_le] at *; simp [pArcL, ← Int64.not_le, *]))
        · skip
          refine y_lload6 (q := 45) C 26 rfl rfl ?_
          refine x_iconst (q := 46) C 27 (n := (2)) (v := (2)) rfl rfl rfl ?_
          refine y_iload10 (q := 48) C 28 rfl rfl ?_
          refine x_imul (q := 49) C 29 rfl rfl ?_
          refine x_i2l (q := 50) C 30 rfl rfl ?_
          refine y_lload0 (q := 51) C 31 rfl rfl ?_
          refine x_lmul (q := 52) C 32 rfl rfl ?_
          refine y_lload0 (q := 53) C 33 rfl rfl ?_
          refine x_lmul (q := 54) C 34 rfl rfl ?_
          refine x_iconst (q := 55) C 35 (n := (2)) (v := (2)) rfl rfl rfl ?_
          refine y_iload10 (q := 57) C 36 rfl rfl ?_
          refine x_imul (q := 58) C 37 rfl rfl ?_
          refine x_iconst (q := 59) C 38 (n := (1)) (v := (1)) rfl rfl rfl ?_
          refine x_iadd (q := 60) C 39 rfl rfl ?_
          refine x_i2l (q := 61) C 40 rfl rfl ?_
          refine y_lload4 (q := 63) C 41 rfl rfl ?_
          refine x_lmul (q := 64) C 42 rfl rfl ?_
          refine y_cS3 (q := 67) C 43 rfl rfl ml_RX0_19 cd_X0_timesQuotient sv_X0_timesQuotient (by decide) (by decide) (Nat.le_of_ble_eq_true rfl) (s_X0_timesQuotient ?_)
          show aj_X G 67 _ _ _ _ _ _ _ _ _
          refine y_lstore6 (q := 69) C 44 rfl rfl (Nat.le_of_ble_eq_true rfl) rfl ?_
          refine y_lload8 (q := 71) C 45 rfl rfl ?_
          refine y_lload6 (q := 73) C 46 rfl rfl ?_
          refine x_ladd (q := 74) C 47 rfl rfl ?_
          refine y_lstore8 (q := 76) C 48 rfl rfl (Nat.le_of_ble_eq_true rfl) rfl ?_
          refine y_iinc10 (q := 79) C 49 rfl rfl rfl (Nat.le_of_ble_eq_true rfl) rfl ?_
          refine x_goto (t := 29) C 50 rfl (by decide) ?_
          exact ih (k + 1) _ _ (by omega) (by rw [hk, nI_1]; congr 1; omega) (by clear ih hK C Z; simp only [lg_cmp_le] at *; rw [pArcL, if_neg (by assumption)] at hKn; exact hKn)
  exact lp29 60 1 _ _ (by decide) rfl hK
set_option maxRecDepth 100000 in
set_option maxHeartbeats 800000 in
theorem s_X0_between {l : Launch} {I : Nat → Nat → Int32} {J : Nat → Nat → Int64} {V : Nat → Nat → Option Nat} {N : Nat → Nat} {L : List Nat} {K : aj_K} {x u : Int32} (hK : K (.inl (some (.long (pBtw x u)))) I J V N L) : aj_M l yX0_between (aj_wc yX0_between cX0_between 8 (some .long)) (aj_rm 2 0 0) [] [.int x, .int u] I J V N L K := by
  refine aj_intro (tbl := t_X0_between) (lv0 := [some (.int x), some (.int u), none, none, none, none, none, none]) (by decide) T_X0_between aj_f0 (Nat.le_of_ble_eq_true rfl) rfl ?_
  intro G hl C Z NX hnm hGL hGF
  have C : aj_C G cX0_between t_X0_between RX0 (aj_rm 2 0 0) 8 := C
  refine y_iload0 (q := 1) C 0 rfl rfl ?_
  refine x_if_ge (q := 4) (t := 10) C 1 rfl (by decide) rfl (fun c1 => ?_) (fun c1 => ?_)
  · skip
    refine y_iload0 (q := 11) C 6 rfl rfl ?_
    refine x_i2l (q := 12) C 7 rfl rfl ?_
    refine y_lstore2 (q := 13) C 8 rfl rfl (Nat.le_of_ble_eq_true rfl) rfl ?_
    refine y_iload1 (q := 14) C 9 rfl rfl ?_
    refine x_if_ge (q := 17) (t := 23) C 10 rfl (by decide) rfl (fun c2 => ?_) (fun c2 => ?_)
    · skip
      refine y_iload1 (q := 24) C 15 rfl rfl ?_
      refine x_i2l (q := 25) C 16 rfl rfl ?_
      refine y_lstore4 (q := 27) C 17 rfl rfl (Nat.le_of_ble_eq_true rfl) rfl ?_
      refine y_lload4 (q := 29) C 18 rfl rfl ?_
      refine y_lload2 (q := 30) C 19 rfl rfl ?_
      refine x_lcmp (q := 31) C 20 rfl rfl ?_
      refine x_if_gt (q := 34) (t := 43) C 21 rfl (by decide) rfl (fun c3 => ?_) (fun c3 => ?_)
      · skip
        refine x_ldc2 (q := 46) C 26 kc_RX0_13 rfl rfl ?_
        refine y_lload2 (q := 47) C 27 rfl rfl ?_
        refine y_lload4 (q := 49) C 28 rfl rfl ?_
        refine y_cS2 (q := 52) C 29 rfl rfl ml_RX0_9 cd_X0_arc sv_X0_arc (by decide) (by decide) (Nat.le_of_ble_eq_true rfl) (s_X0_arc ?_)
        show aj_X G 52 _ _ _ _ _ _ _ _ _
        refine x_lsub (q := 53) C 30 rfl rfl ?_
        refine y_lstore6 (q := 55) C 31 rfl rfl (Nat.le_of_ble_eq_true rfl) rfl ?_
        refine y_iload0 (q := 56) C 32 rfl rfl ?_
        refine x_if_le (q := 59) (t := 64) C 33 rfl (by decide) rfl (fun c4 => ?_) (fun c4 => ?_)
        · skip
          refine x_ldc2 (q := 67) C 36 kc_RX0_15 rfl rfl ?_
          refine y_lload6 (q := 69) C 37 rfl rfl ?_
          refine x_lsub (q := 70) C 38 rfl rfl ?_
          exact x_lreturn C Z 39 rfl rfl (aj_lfL hK (by clear hK C Z; simp_all [pBtw, pAbI, bI_0, bI_1, ← Int32.not_le, ← Int64.not_le, lg_cmp_gt, lg_cmp_lt, lg_cmp_le, lg_cmp_ge, lg_cmp_eq]))
        · skip
          refine y_lload6 (q := 61) C 34 rfl rfl ?_
          refine x_goto (t := 70) C 35 rfl (by decide) ?_
          exact x_lreturn C Z 39 rfl rfl (aj_lfL hK (by clear hK C Z; simp_all [pBtw, pAbI, bI_0, bI_1, ← Int32.not_le, ← Int64.not_le, lg_cmp_gt, lg_cmp_lt, lg_cmp_le, lg_cmp_ge, lg_cmp_eq]))
      · skip
        refine y_lload4 (q := 36) C 22 rfl rfl ?_
        refine y_lload2 (q := 37) C 23 rfl rfl ?_
        refine y_cS2 (q := 40) C 24 rfl rfl ml_RX0_9 cd_X0_arc sv_X0_arc (by decide) (by decide) (Nat.le_of_ble_eq_true rfl) (s_X0_arc ?_)
        show aj_X G 40 _ _ _ _ _ _ _ _ _
        refine x_goto (t := 53) C 25 rfl (by decide) ?_
        refine y_lstore6 (q := 55) C 31 rfl rfl (Nat.le_of_ble_eq_true rfl) rfl ?_
        refine y_iload0 (q := 56) C 32 rfl rfl ?_
        refine x_if_le (q := 59) (t := 64) C 33 rfl (by decide) rfl (fun c5 => ?_) (fun c5 => ?_)
        · skip
          refine x_ldc2 (q := 67) C 36 kc_RX0_15 rfl rfl ?_
          refine y_lload6 (q := 69) C 37 rfl rfl ?_
          refine x_lsub (q := 70) C 38 rfl rfl ?_
          exact x_lreturn C Z 39 rfl rfl (aj_lfL hK (by clear hK C Z; simp_all [pBtw, pAbI, bI_0, bI_1, ← Int32.not_le, ← Int64.not_le, lg_cmp_gt, lg_cmp_lt, lg_cmp_le, lg_cmp_ge, lg_cmp_eq]))
        · skip
          refine y_lload6 (q := 61) C 34 rfl rfl ?_
          refine x_goto (t := 70) C 35 rfl (by decide) ?_
          exact x_lreturn C Z 39 rfl rfl (aj_lfL hK (by clear hK C Z; simp_all [pBtw, pAbI, bI_0, bI_1, ← Int32.not_le, ← Int64.not_le, lg_cmp_gt, lg_cmp_lt, lg_cmp_le, lg_cmp_ge, lg_cmp_eq]))
    · skip
      refine y_iload1 (q := 18) C 11 rfl rfl ?_
      refine x_ineg (q := 19) C 12 rfl rfl ?_
      refine x_i2l (q := 20) C 13 rfl rfl ?_
      refine x_goto (t := 25) C 14 rfl (by decide) ?_
      refine y_lstore4 (q := 27) C 17 rfl rfl (Nat.le_of_ble_eq_true rfl) rfl ?_
      refine y_lload4 (q := 29) C 18 rfl rfl ?_
      refine y_lload2 (q := 30) C 19 rfl rfl ?_
      refine x_lcmp (q := 31) C 20 rfl rfl ?_
      refine x_if_gt (q := 34) (t := 43) C 21 rfl (by decide) rfl (fun c6 => ?_) (fun c6 => ?_)
      · skip
        refine x_ldc2 (q := 46) C 26 kc_RX0_13 rfl rfl ?_
        refine y_lload2 (q := 47) C 27 rfl rfl ?_
        refine y_lload4 (q := 49) C 28 rfl rfl ?_
        refine y_cS2 (q := 52) C 29 rfl rfl ml_RX0_9 cd_X0_arc sv_X0_arc (by decide) (by decide) (Nat.le_of_ble_eq_true rfl) (s_X0_arc ?_)
        show aj_X G 52 _ _ _ _ _ _ _ _ _
        refine x_lsub (q := 53) C 30 rfl rfl ?_
        refine y_lstore6 (q := 55) C 31 rfl rfl (Nat.le_of_ble_eq_true rfl) rfl ?_
        refine y_iload0 (q := 56) C 32 rfl rfl ?_
        refine x_if_le (q := 59) (t := 64) C 33 rfl (by decide) rfl (fun c7 => ?_) (fun c7 => ?_)
        · skip
          refine x_ldc2 (q := 67) C 36 kc_RX0_15 rfl rfl ?_
          refine y_lload6 (q := 69) C 37 rfl rfl ?_
          refine x_lsub (q := 70) C 38 rfl rfl ?_
          exact x_lreturn C Z 39 rfl rfl (aj_lfL hK (by clear hK C Z; simp_all [pBtw, pAbI, bI_0, bI_1, ← Int32.not_le, ← Int64.not_le, lg_cmp_gt, lg_cmp_lt, lg_cmp_le, lg_cmp_ge, lg_cmp_eq]))
        · skip
          refine y_lload6 (q := 61) C 34 rfl rfl ?_
          refine x_goto (t := 70) C 35 rfl (by decide) ?_
          exact x_lreturn C Z 39 rfl rfl (aj_lfL hK (by clear hK C Z; simp_all [pBtw, pAbI, bI_0, bI_1, ← Int32.not_le, ← Int64.not_le, lg_cmp_gt, lg_cmp_lt, lg_cmp_le, lg_cmp_ge, lg_cmp_eq]))
      · skip
        refine y_lload4 (q := 36) C 22 rfl rfl ?_
        refine y_lload2 (q := 37) C 23 rfl rfl ?_
        refine y_cS2 (q := 40) C 24 rfl rfl ml_RX0_9 cd_X0_arc sv_X0_arc (by decide) (by decide) (Nat.le_of_ble_eq_true rfl) (s_X0_arc ?_)
        show aj_X G 40 _ _ _ _ _ _ _ _ _
        refine x_goto (t := 53) C 25 rfl (by decide) ?_
        refine y_lstore6 (q := 55) C 31 rfl rfl (Nat.le_of_ble_eq_true rfl) rfl ?_
        refine y_iload0 (q := 56) C 32 rfl rfl ?_
        refine x_if_le (q := 59) (t := 64) C 33 rfl (by decide) rfl (fun c8 => ?_) (fun c8 => ?_)
        · skip
          refine x_ldc2 (q := 67) C 36 kc_RX0_15 rfl rfl ?_
          refine y_lload6 (q := 69) C 37 rfl rfl ?_
          refine x_lsub (q := 70) C 38 rfl rfl ?_
          exact x_lreturn C Z 39 rfl rfl (aj_lfL hK (by clear hK C Z; simp_all [pBtw, pAbI, bI_0, bI_1, ← Int32.not_le, ← Int64.not_le, lg_cmp_gt, lg_cmp_lt, lg_cmp_le, lg_cmp_ge, lg_cmp_eq]))
        · skip
          refine y_lload6 (q := 61) C 34 rfl rfl ?_
          refine x_goto (t := 70) C 35 rfl (by decide) ?_
          exact x_lreturn C Z 39 rfl rfl (aj_lfL hK (by clear hK C Z; simp_all [pBtw, pAbI, bI_0, bI_1, ← Int32.not_le, ← Int64.not_le, lg_cmp_gt, lg_cmp_lt, lg_cmp_le, lg_cmp_ge, lg_cmp_eq]))
  · skip
    refine y_iload0 (q := 5) C 2 rfl rfl ?_
    refine x_ineg (q := 6) C 3 rfl rfl ?_
    refine x_i2l (q := 7) C 4 rfl rfl ?_
    refine x_goto (t := 12) C 5 rfl (by decide) ?_
    refine y_lstore2 (q := 13) C 8 rfl rfl (Nat.le_of_ble_eq_true rfl) rfl ?_
    refine y_iload1 (q := 14) C 9 rfl rfl ?_
    refine x_if_ge (q := 17) (t := 23) C 10 rfl (by decide) rfl (fun c9 => ?_) (fun c9 => ?_)
    · skip
      refine y_iload1 (q := 24) C 15 rfl rfl ?_
      refine x_i2l (q := 25) C 16 rfl rfl ?_
      refine y_lstore4 (q := 27) C 17 rfl rfl (Nat.le_of_ble_eq_true rfl) rfl ?_
      refine y_lload4 (q := 29) C 18 rfl rfl ?_
      refine y_lload2 (q := 30) C 19 rfl rfl ?_
      refine x_lcmp (q := 31) C 20 rfl rfl ?_
      refine x_if_gt (q := 34) (t := 43) C 21 rfl (by decide) rfl (fun c10 => ?_) (fun c10 => ?_)
      · skip
        refine x_ldc2 (q := 46) C 26 kc_RX0_13 rfl rfl ?_
        refine y_lload2 (q := 47) C 27 rfl rfl ?_
        refine y_lload4 (q := 49) C 28 rfl rfl ?_
        refine y_cS2 (q := 52) C 29 rfl rfl ml_RX0_9 cd_X0_arc sv_X0_arc (by decide) (by decide) (Nat.le_of_ble_eq_true rfl) (s_X0_arc ?_)
        show aj_X G 52 _ _ _ _ _ _ _ _ _
        refine x_lsub (q := 53) C 30 rfl rfl ?_
        refine y_lstore6 (q := 55) C 31 rfl rfl (Nat.le_of_ble_eq_true rfl) rfl ?_
        refine y_iload0 (q := 56) C 32 rfl rfl ?_
        refine x_if_le (q := 59) (t := 64) C 33 rfl (by decide) rfl (fun c11 => ?_) (fun c11 => ?_)
        · skip
          refine x_ldc2 (q := 67) C 36 kc_RX0_15 rfl rfl ?_
          refine y_lload6 (q := 69) C 37 rfl rfl ?_
          refine x_lsub (q := 70) C 38 rfl rfl ?_
          exact x_lreturn C Z 39 rfl rfl (aj_lfL hK (by clear hK C Z; simp_all [pBtw, pAbI, bI_0, bI_1, ← Int32.not_le, ← Int64.not_le, lg_cmp_gt, lg_cmp_lt, lg_cmp_le, lg_cmp_ge, lg_cmp_eq]))
        · skip
          refine y_lload6 (q := 61) C 34 rfl rfl ?_
          refine x_goto (t := 70) C 35 rfl (by decide) ?_
          exact x_lreturn C Z 39 rfl rfl (aj_lfL hK (by clear hK C Z; simp_all [pBtw, pAbI, bI_0, bI_1, ← Int32.not_le, ← Int64.not_le, lg_cmp_gt, lg_cmp_lt, lg_cmp_le, lg_cmp_ge, lg_cmp_eq]))
      · skip
        refine y_lload4 (q := 36) C 22 rfl rfl ?_
        refine y_lload2 (q := 37) C 23 rfl rfl ?_
        refine y_cS2 (q := 40) C 24 rfl rfl ml_RX0_9 cd_X0_arc sv_X0_arc (by decide) (by decide) (Nat.le_of_ble_eq_true rfl) (s_X0_arc ?_)
        show aj_X G 40 _ _ _ _ _ _ _ _ _
        refine x_goto (t := 53) C 25 rfl (by decide) ?_
        refine y_lstore6 (q := 55) C 31 rfl rfl (Nat.le_of_ble_eq_true rfl) rfl ?_
        refine y_iload0 (q := 56) C 32 rfl rfl ?_
        refine x_if_le (q := 59) (t := 64) C 33 rfl (by decide) rfl (fun c12 => ?_) (fun c12 => ?_)
        · skip
          refine x_ldc2 (q := 67) C 36 kc_RX0_15 rfl rfl ?_
          refine y_lload6 (q := 69) C 37 rfl rfl ?_
          refine x_lsub (q := 70) C 38 rfl rfl ?_
          exact x_lreturn C Z 39 rfl rfl (aj_lfL hK (by clear hK C Z; simp_all [pBtw, pAbI, bI_0, bI_1, ← Int32.not_le, ← Int64.not_le, lg_cmp_gt, lg_cmp_lt, lg_cmp_le, lg_cmp_ge, lg_cmp_eq]))
        · skip
          refine y_lload6 (q := 61) C 34 rfl rfl ?_
          refine x_goto (t := 70) C 35 rfl (by decide) ?_
          exact x_lreturn C Z 39 rfl rfl (aj_lfL hK (by clear hK C Z; simp_all [pBtw, pAbI, bI_0, bI_1, ← Int32.not_le, ← Int64.not_le, lg_cmp_gt, lg_cmp_lt, lg_cmp_le, lg_cmp_ge, lg_cmp_eq]))
    · skip
      refine y_iload1 (q := 18) C 11 rfl rfl ?_
      refine x_ineg (q := 19) C 12 rfl rfl ?_
      refine x_i2l (q := 20) C 13 rfl rfl ?_
      refine x_goto (t := 25) C 14 rfl (by decide) ?_
      refine y_lstore4 (q := 27) C 17 rfl rfl (Nat.le_of_ble_eq_true rfl) rfl ?_
      refine y_lload4 (q := 29) C 18 rfl rfl ?_
      refine y_lload2 (q := 30) C 19 rfl rfl ?_
      refine x_lcmp (q := 31) C 20 rfl rfl ?_
      refine x_if_gt (q := 34) (t := 43) C 21 rfl (by decide) rfl (fun c13 => ?_) (fun c13 => ?_)
      · skip
        refine x_ldc2 (q := 46) C 26 kc_RX0_13 rfl rfl ?_
        refine y_lload2 (q := 47) C 27 rfl rfl ?_
        refine y_lload4 (q := 49) C 28 rfl rfl ?_
        refine y_cS2 (q := 52) C 29 rfl rfl ml_RX0_9 cd_X0_arc sv_X0_arc (by decide) (by decide) (Nat.le_of_ble_eq_true rfl) (s_X0_arc ?_)
        show aj_X G 52 _ _ _ _ _ _ _ _ _
        refine x_lsub (q := 53) C 30 rfl rfl ?_
        refine y_lstore6 (q := 55) C 31 rfl rfl (Nat.le_of_ble_eq_true rfl) rfl ?_
        refine y_iload0 (q := 56) C 32 rfl rfl ?_
        refine x_if_le (q := 59) (t := 64) C 33 rfl (by decide) rfl (fun c14 => ?_) (fun c14 => ?_)
        · skip
          refine x_ldc2 (q := 67) C 36 kc_RX0_15 rfl rfl ?_
          refine y_lload6 (q := 69) C 37 rfl rfl ?_
          refine x_lsub (q := 70) C 38 rfl rfl ?_
          exact x_lreturn C Z 39 rfl rfl (aj_lfL hK (by clear hK C Z; simp_all [pBtw, pAbI, bI_0, bI_1, ← Int32.not_le, ← Int64.not_le, lg_cmp_gt, lg_cmp_lt, lg_cmp_le, lg_cmp_ge, lg_cmp_eq]))
        · skip
          refine y_lload6 (q := 61) C 34 rfl rfl ?_
          refine x_goto (t := 70) C 35 rfl (by decide) ?_
          exact x_lreturn C Z 39 rfl rfl (aj_lfL hK (by clear hK C Z; simp_all [pBtw, pAbI, bI_0, bI_1, ← Int32.not_le, ← Int64.not_le, lg_cmp_gt, lg_cmp_lt, lg_cmp_le, lg_cmp_ge, lg_cmp_eq]))
      · skip
        refine y_lload4 (q := 36) C 22 rfl rfl ?_
        refine y_lload2 (q := 37) C 23 rfl rfl ?_
        refine y_cS2 (q := 40) C 24 rfl rfl ml_RX0_9 cd_X0_arc sv_X0_arc (by decide) (by decide) (Nat.le_of_ble_eq_true rfl) (s_X0_arc ?_)
        show aj_X G 40 _ _ _ _ _ _ _ _ _
        refine x_goto (t := 53) C 25 rfl (by decide) ?_
        refine y_lstore6 (q := 55) C 31 rfl rfl (Nat.le_of_ble_eq_true rfl) rfl ?_
        refine y_iload0 (q := 56) C 32 rfl rfl ?_
        refine x_if_le (q := 59) (t := 64) C 33 rfl (by decide) rfl (fun c15 => ?_) (fun c15 => ?_)
        · skip
          refine x_ldc2 (q := 67) C 36 kc_RX0_15 rfl rfl ?_
          refine y_lload6 (q := 69) C 37 rfl rfl ?_
          refine x_lsub (q := 70) C 38 rfl rfl ?_
          exact x_lreturn C Z 39 rfl rfl (aj_lfL hK (by clear hK C Z; simp_all [pBtw, pAbI, bI_0, bI_1, ← Int32.not_le, ← Int64.not_le, lg_cmp_gt, lg_cmp_lt, lg_cmp_le, lg_cmp_ge, lg_cmp_eq]))
        · skip
          refine y_lload6 (q := 61) C 34 rfl rfl ?_
          refine x_goto (t := 70) C 35 rfl (by decide) ?_
          exact x_lreturn C Z 39 rfl rfl (aj_lfL hK (by clear hK C Z; simp_all [pBtw, pAbI, bI_0, bI_1, ← Int32.not_le, ← Int64.not_le, lg_cmp_gt, lg_cmp_lt, lg_cmp_le, lg_cmp_ge, lg_cmp_eq]))
set_option maxRecDepth 100000 in
set_option maxHeartbeats 800000 in
theorem s_X0_roundDown {l : Launch} {I : Nat → Nat → Int32} {J : Nat → Nat → Int64} {V : Nat → Nat → Option Nat} {N : Nat → Nat} {L : List Nat} {K : aj_K} {v : Int64} {d : Int32} (hK : K (.inl (some (.int (pRD v d)))) I J V N L) : aj_M l yX0_roundDown (aj_wc yX0_roundDown cX0_roundDown 3 (some .int)) (aj_rm 0 0 0) [] [.long v, .int d] I J V N L K := by
  refine aj_intro (tbl := t_X0_roundDown) (lv0 := [some (.long v), none, some (.int d)]) (by decide) T_X0_roundDown aj_f0 (Nat.le_of_ble_eq_true rfl) rfl ?_
  intro G hl C Z NX hnm hGL hGF
  have C : aj_C G cX0_roundDown t_X0_roundDown RX0 (aj_rm 0 0 0) 3 := C
  refine y_lload0 (q := 1) C 0 rfl rfl ?_
  refine x_bipush (q := 3) C 1 (n := (60)) (v := (60)) rfl rfl rfl ?_
  refine y_iload2 (q := 4) C 2 rfl rfl ?_
  refine x_isub (q := 5) C 3 rfl rfl ?_
  refine x_lshr (q := 6) C 4 rfl rfl ?_
  refine x_l2i (q := 7) C 5 rfl rfl ?_
  exact x_ireturn C Z 6 rfl rfl rfl (hK)
set_option maxRecDepth 100000 in
set_option maxHeartbeats 800000 in
theorem s_X0_exponentAndHead {l : Launch} {I : Nat → Nat → Int32} {J : Nat → Nat → Int64} {V : Nat → Nat → Option Nat} {N : Nat → Nat} {L : List Nat} {K : aj_K} {v : Int64} (hK : K (.inl (some (.int (pEH v)))) I J V N L) : aj_M l yX0_exponentAndHead (aj_wc yX0_exponentAndHead cX0_exponentAndHead 4 (some .int)) (aj_rm 0 0 0) [] [.long v] I J V N L K := by
  refine aj_intro (tbl := t_X0_exponentAndHead) (lv0 := [some (.long v), none, none, none]) (by decide) T_X0_exponentAndHead aj_f0 (Nat.le_of_ble_eq_true rfl) rfl ?_
  intro G hl C Z NX hnm hGL hGF
  have C : aj_C G cX0_exponentAndHead t_X0_exponentAndHead RX0 (aj_rm 0 0 0) 4 := C
  refine y_lload0 (q := 1) C 0 rfl rfl ?_
  refine x_lconst (q := 2) C 1 (n := 0) (v := 0) rfl rfl rfl ?_
  refine x_lcmp (q := 3) C 2 rfl rfl ?_
  refine x_if_ne (q := 6) (t := 8) C 3 rfl (by decide) rfl (fun c1 => ?_) (fun c1 => ?_)
  · skip
    refine x_iconst (q := 9) C 6 (n := (1)) (v := (1)) rfl rfl rfl ?_
    refine y_istore2 (q := 10) C 7 rfl rfl (Nat.le_of_ble_eq_true rfl) rfl ?_
    have lp10 : ∀ (m : Nat) (w : Int32), m ≤ 8 → w = Int32.ofInt ((m : Int) - 7) → K (.inl (some (.int (pHd v (pPw v m w))))) I J V N L → aj_X G 10 [some (.long v), none, some (.int w), none] [] I J V N L 0 0 := by
      intro m
      induction m with
      | zero =>
        intro w hn hw hKn
        refine y_iload2 (q := 11) C 8 rfl rfl ?_
        refine x_bipush (q := 13) C 9 (n := (-7)) (v := (-7)) rfl rfl rfl ?_
        refine x_icmp_le (q := 16) (t := 33) C 10 rfl (by decide) rfl (fun c2 => ?_) (fun c2 => ?_)
        · skip
          refine y_lload0 (q := 34) C 21 rfl rfl ?_
          refine x_bipush (q := 36) C 22 (n := (60)) (v := (60)) rfl rfl rfl ?_
          refine y_iload2 (q := 37) C 23 rfl rfl ?_
          refine x_iadd (q := 38) C 24 rfl rfl ?_
          refine x_bipush (q := 40) C 25 (n := (20)) (v := (20)) rfl rfl rfl ?_
          refine x_isub (q := 41) C 26 rfl rfl ?_
          refine x_lshr (q := 42) C 27 rfl rfl ?_
          refine x_l2i (q := 43) C 28 rfl rfl ?_
          refine x_ldc (q := 45) C 29 kc_RX0_23 rfl rfl ?_
          refine x_isub (q := 46) C 30 rfl rfl ?_
          refine y_istore3 (q := 47) C 31 rfl rfl (Nat.le_of_ble_eq_true rfl) rfl ?_
          refine y_iload2 (q := 48) C 32 rfl rfl ?_
          refine x_sipush (q := 51) C 33 (n := (1023)) (v := (1023)) rfl rfl rfl ?_
          refine x_iadd (q := 52) C 34 rfl rfl ?_
          refine x_bipush (q := 54) C 35 (n := (20)) (v := (20)) rfl rfl rfl ?_
          refine x_ishl (q := 55) C 36 rfl rfl ?_
          refine y_iload3 (q := 56) C 37 rfl rfl ?_
          refine x_ior (q := 57) C 38 rfl rfl ?_
          exact x_ireturn C Z 39 rfl rfl rfl (hKn)
        · skip
          exact absurd c2 (by rw [hw]; decide)
      | succ m ih =>
        intro w hn hw hKn
        refine y_iload2 (q := 11) C 8 rfl rfl ?_
        refine x_bipush (q := 13) C 9 (n := (-7)) (v := (-7)) rfl rfl rfl ?_
        refine x_icmp_le (q := 16) (t := 33) C 10 rfl (by decide) rfl (fun c3 => ?_) (fun c3 => ?_)
        · skip
          exact absurd c3 (by rw [hw]; exact pk_pw m (by omega))
        · skip
          refine y_lload0 (q := 17) C 11 rfl rfl ?_
          refine x_bipush (q := 19) C 12 (n := (60)) (v := (60)) rfl rfl rfl ?_
          refine y_iload2 (q := 20) C 13 rfl rfl ?_
          refine x_iadd (q := 21) C 14 rfl rfl ?_
          refine x_lshr (q := 22) C 15 rfl rfl ?_
          refine x_lconst (q := 23) C 16 (n := 0) (v := 0) rfl rfl rfl ?_
          refine x_lcmp (q := 24) C 17 rfl rfl ?_
          refine x_if_ne (q := 27) (t := 33) C 18 rfl (by decide) rfl (fun c4 => ?_) (fun c4 => ?_)
          · skip
            refine y_lload0 (q := 34) C 21 rfl rfl ?_
            refine x_bipush (q := 36) C 22 (n := (60)) (v := (60)) rfl rfl rfl ?_
            refine y_iload2 (q := 37) C 23 rfl rfl ?_
            refine x_iadd (q := 38) C 24 rfl rfl ?_
            refine x_bipush (q := 40) C 25 (n := (20)) (v := (20)) rfl rfl rfl ?_
            refine x_isub (q := 41) C 26 rfl rfl ?_
            refine x_lshr (q := 42) C 27 rfl rfl ?_
            refine x_l2i (q := 43) C 28 rfl rfl ?_
            refine x_ldc (q := 45) C 29 kc_RX0_23 rfl rfl ?_
            refine x_isub (q := 46) C 30 rfl rfl ?_
            refine y_istore3 (q := 47) C 31 rfl rfl (Nat.le_of_ble_eq_true rfl) rfl ?_
            refine y_iload2 (q := 48) C 32 rfl rfl ?_
            refine x_sipush (q := 51) C 33 (n := (1023)) (v := (1023)) rfl rfl rfl ?_
            refine x_iadd (q := 52) C 34 rfl rfl ?_
            refine x_bipush (q := 54) C 35 (n := (20)) (v := (20)) rfl rfl rfl ?_
            refine x_ishl (q := 55) C 36 rfl rfl ?_
            refine y_iload3 (q := 56) C 37 rfl rfl ?_
            refine x_ior (q := 57) C 38 rfl rfl ?_
            exact x_ireturn C Z 39 rfl rfl rfl (aj_lf hKn (by clear hKn ih hK C Z; simp only [lg_cmp_eq] at *; rw [pPw]; first | (rw [if_neg (by assumption)]; rfl) | (exact absurd (by assumption) (by assumption))))
          · skip
            refine y_iinc2 (q := 30) C 19 rfl rfl rfl (Nat.le_of_ble_eq_true rfl) rfl ?_
            refine x_goto (t := 10) C 20 rfl (by decide) ?_
            exact ih _ (by omega) (by rw [hw, ← Int32.ofInt_add]; congr 1; omega) (by clear ih hK C Z; simp only [lg_cmp_eq] at *; rw [pPw, if_pos (by assumption)] at hKn; exact hKn)
    exact lp10 8 1 (by decide) rfl (by clear C Z; simp_all [pEH, lg_cmp_eq])
  · skip
    refine x_iconst (q := 7) C 4 (n := (0)) (v := (0)) rfl rfl rfl ?_
    exact x_ireturn C Z 5 rfl rfl rfl (aj_lf hK (by clear hK C Z; simp_all [pEH, lg_cmp_eq]))
set_option maxRecDepth 100000 in
set_option maxHeartbeats 800000 in
theorem s_X0_rankOf {l : Launch} {I : Nat → Nat → Int32} {J : Nat → Nat → Int64} {V : Nat → Nat → Option Nat} {N : Nat → Nat} {L : List Nat} {K : aj_K} {x : Int32} (hK : K (.inl (some (.int (pRk x)))) I J V N L) : aj_M l yX0_rankOf (aj_wc yX0_rankOf cX0_rankOf 1 (some .int)) (aj_rm 0 0 0) [] [.int x] I J V N L K := by
  refine aj_intro (tbl := t_X0_rankOf) (lv0 := [some (.int x)]) (by decide) T_X0_rankOf aj_f0 (Nat.le_of_ble_eq_true rfl) rfl ?_
  intro G hl C Z NX hnm hGL hGF
  have C : aj_C G cX0_rankOf t_X0_rankOf RX0 (aj_rm 0 0 0) 1 := C
  refine y_iload0 (q := 1) C 0 rfl rfl ?_
  refine x_if_lt (q := 4) (t := 8) C 1 rfl (by decide) rfl (fun c1 => ?_) (fun c1 => ?_)
  · skip
    refine y_iload0 (q := 9) C 4 rfl rfl ?_
    refine x_ldc (q := 11) C 5 kc_RX0_34 rfl rfl ?_
    refine x_iand (q := 12) C 6 rfl rfl ?_
    refine x_iconst (q := 13) C 7 (n := (-1)) (v := (-1)) rfl rfl rfl ?_
    refine x_ixor (q := 14) C 8 rfl rfl ?_
    exact x_ireturn C Z 9 rfl rfl rfl (aj_lf hK (by clear hK C Z; simp_all [pRk, bI_0, bI_1, ← Int32.not_le, ← Int64.not_le]))
  · skip
    refine y_iload0 (q := 5) C 2 rfl rfl ?_
    refine x_goto (t := 14) C 3 rfl (by decide) ?_
    exact x_ireturn C Z 9 rfl rfl rfl (aj_lf hK (by clear hK C Z; simp_all [pRk, bI_0, bI_1, ← Int32.not_le, ← Int64.not_le]))
set_option maxRecDepth 100000 in
set_option maxHeartbeats 800000 in
theorem s_X0_compareDigits {l : Launch} {I : Nat → Nat → Int32} {J : Nat → Nat → Int64} {V : Nat → Nat → Option Nat} {N : Nat → Nat} {L : List Nat} {K : aj_K} {x y : Int32} (hK : K (.inl (some (.int (pSgn ((pRk x).toInt64 - (pRk y).toInt64))))) I J V N L) : aj_M l yX0_compareDigits (aj_wc yX0_compareDigits cX0_compareDigits 2 (some .int)) (aj_rm 1 0 0) [] [.int x, .int y] I J V N L K := by
  refine aj_intro (tbl := t_X0_compareDigits) (lv0 := [some (.int x), some (.int y)]) (by decide) T_X0_compareDigits aj_f0 (Nat.le_of_ble_eq_true rfl) rfl ?_
  intro G hl C Z NX hnm hGL hGF
  have C : aj_C G cX0_compareDigits t_X0_compareDigits RX0 (aj_rm 1 0 0) 2 := C
  refine y_iload0 (q := 1) C 0 rfl rfl ?_
  refine y_cS1 (q := 4) C 1 rfl rfl ml_RX0_24 cd_X0_rankOf sv_X0_rankOf (by decide) (by decide) (Nat.le_of_ble_eq_true rfl) (s_X0_rankOf ?_)
  show aj_X G 4 _ _ _ _ _ _ _ _ _
  refine x_i2l (q := 5) C 2 rfl rfl ?_
  refine y_iload1 (q := 6) C 3 rfl rfl ?_
  refine y_cS1 (q := 9) C 4 rfl rfl ml_RX0_24 cd_X0_rankOf sv_X0_rankOf (by decide) (by decide) (Nat.le_of_ble_eq_true rfl) (s_X0_rankOf ?_)
  show aj_X G 9 _ _ _ _ _ _ _ _ _
  refine x_i2l (q := 10) C 5 rfl rfl ?_
  refine x_lsub (q := 11) C 6 rfl rfl ?_
  refine y_cSN1 (q := 14) C 7 rfl rfl ml_RX0_28 cd_X3_signOf sv_X3_signOf (by decide) (by decide) (Nat.le_of_ble_eq_true rfl) (s_X3_signOf ?_)
  show aj_X G 14 _ _ _ _ _ _ _ _ _
  exact x_ireturn C Z 8 rfl rfl rfl (hK)
set_option maxRecDepth 100000 in
set_option maxHeartbeats 800000 in
theorem s_X0_sideBetween {l : Launch} {I : Nat → Nat → Int32} {J : Nat → Nat → Int64} {V : Nat → Nat → Option Nat} {N : Nat → Nat} {L : List Nat} {K : aj_K} {x y : Int64} (hK : K (.inl (some (.int (pSB x y)))) I J V N L) : aj_M l yX0_sideBetween (aj_wc yX0_sideBetween cX0_sideBetween 8 (some .int)) (aj_rm 1 0 0) [] [.long x, .long y] I J V N L K := by
  refine aj_intro (tbl := t_X0_sideBetween) (lv0 := [some (.long x), none, some (.long y), none, none, none, none, none]) (by decide) T_X0_sideBetween aj_f0 (Nat.le_of_ble_eq_true rfl) rfl ?_
  intro G hl C Z NX hnm hGL hGF
  have C : aj_C G cX0_sideBetween t_X0_sideBetween RX0 (aj_rm 1 0 0) 8 := C
  refine y_lload2 (q := 1) C 0 rfl rfl ?_
  refine y_lload0 (q := 2) C 1 rfl rfl ?_
  refine x_lsub (q := 3) C 2 rfl rfl ?_
  refine y_lstore4 (q := 5) C 3 rfl rfl (Nat.le_of_ble_eq_true rfl) rfl ?_
  refine y_lload4 (q := 7) C 4 rfl rfl ?_
  refine x_ldc2 (q := 10) C 5 kc_RX0_35 rfl rfl ?_
  refine x_lcmp (q := 11) C 6 rfl rfl ?_
  refine x_if_le (q := 14) (t := 25) C 7 rfl (by decide) rfl (fun c1 => ?_) (fun c1 => ?_)
  · skip
    refine y_lload4 (q := 27) C 13 rfl rfl ?_
    refine x_ldc2 (q := 30) C 14 kc_RX0_39 rfl rfl ?_
    refine x_lcmp (q := 31) C 15 rfl rfl ?_
    refine x_if_ge (q := 34) (t := 42) C 16 rfl (by decide) rfl (fun c2 => ?_) (fun c2 => ?_)
    · skip
      refine y_lload4 (q := 44) C 21 rfl rfl ?_
      refine x_lconst (q := 45) C 22 (n := 0) (v := 0) rfl rfl rfl ?_
      refine x_lcmp (q := 46) C 23 rfl rfl ?_
      refine x_if_ge (q := 49) (t := 55) C 24 rfl (by decide) rfl (fun c3 => ?_) (fun c3 => ?_)
      · skip
        refine y_lload4 (q := 57) C 28 rfl rfl ?_
        refine y_lstore6 (q := 59) C 29 rfl rfl (Nat.le_of_ble_eq_true rfl) rfl ?_
        refine y_lload6 (q := 61) C 30 rfl rfl ?_
        refine x_ldc2 (q := 64) C 31 kc_RX0_41 rfl rfl ?_
        refine x_lcmp (q := 65) C 32 rfl rfl ?_
        refine x_if_lt (q := 68) (t := 81) C 33 rfl (by decide) rfl (fun c4 => ?_) (fun c4 => ?_)
        · skip
          refine x_iconst (q := 82) C 40 (n := (0)) (v := (0)) rfl rfl rfl ?_
          refine x_goto (t := 90) C 41 rfl (by decide) ?_
          exact x_ireturn C Z 44 rfl rfl rfl (aj_lf hK (by clear hK C Z; simp_all [pSB, pSB1, pAb, bI_0, bI_1, ← Int32.not_le, ← Int64.not_le, lg_cmp_gt, lg_cmp_lt, lg_cmp_le, lg_cmp_ge, lg_cmp_eq]))
        · skip
          refine x_ldc2 (q := 71) C 34 kc_RX0_35 rfl rfl ?_
          refine y_lload6 (q := 73) C 35 rfl rfl ?_
          refine x_lsub (q := 74) C 36 rfl rfl ?_
          refine x_ldc2 (q := 77) C 37 kc_RX0_41 rfl rfl ?_
          refine x_lcmp (q := 78) C 38 rfl rfl ?_
          refine x_if_ge (q := 81) (t := 85) C 39 rfl (by decide) rfl (fun c5 => ?_) (fun c5 => ?_)
          · skip
            refine y_lload4 (q := 87) C 42 rfl rfl ?_
            refine y_cSN1 (q := 90) C 43 rfl rfl ml_RX0_28 cd_X3_signOf sv_X3_signOf (by decide) (by decide) (Nat.le_of_ble_eq_true rfl) (s_X3_signOf ?_)
            show aj_X G 90 _ _ _ _ _ _ _ _ _
            exact x_ireturn C Z 44 rfl rfl rfl (aj_lf hK (by clear hK C Z; simp_all [pSB, pSB1, pAb, bI_0, bI_1, ← Int32.not_le, ← Int64.not_le, lg_cmp_gt, lg_cmp_lt, lg_cmp_le, lg_cmp_ge, lg_cmp_eq]))
          · skip
            refine x_iconst (q := 82) C 40 (n := (0)) (v := (0)) rfl rfl rfl ?_
            refine x_goto (t := 90) C 41 rfl (by decide) ?_
            exact x_ireturn C Z 44 rfl rfl rfl (aj_lf hK (by clear hK C Z; simp_all [pSB, pSB1, pAb, bI_0, bI_1, ← Int32.not_le, ← Int64.not_le, lg_cmp_gt, lg_cmp_lt, lg_cmp_le, lg_cmp_ge, lg_cmp_eq]))
      · skip
        refine y_lload4 (q := 51) C 25 rfl rfl ?_
        refine x_lneg (q := 52) C 26 rfl rfl ?_
        refine x_goto (t := 57) C 27 rfl (by decide) ?_
        refine y_lstore6 (q := 59) C 29 rfl rfl (Nat.le_of_ble_eq_true rfl) rfl ?_
        refine y_lload6 (q := 61) C 30 rfl rfl ?_
        refine x_ldc2 (q := 64) C 31 kc_RX0_41 rfl rfl ?_
        refine x_lcmp (q := 65) C 32 rfl rfl ?_
        refine x_if_lt (q := 68) (t := 81) C 33 rfl (by decide) rfl (fun c6 => ?_) (fun c6 => ?_)
        · skip
          refine x_iconst (q := 82) C 40 (n := (0)) (v := (0)) rfl rfl rfl ?_
          refine x_goto (t := 90) C 41 rfl (by decide) ?_
          exact x_ireturn C Z 44 rfl rfl rfl (aj_lf hK (by clear hK C Z; simp_all [pSB, pSB1, pAb, bI_0, bI_1, ← Int32.not_le, ← Int64.not_le, lg_cmp_gt, lg_cmp_lt, lg_cmp_le, lg_cmp_ge, lg_cmp_eq]))
        · skip
          refine x_ldc2 (q := 71) C 34 kc_RX0_35 rfl rfl ?_
          refine y_lload6 (q := 73) C 35 rfl rfl ?_
          refine x_lsub (q := 74) C 36 rfl rfl ?_
          refine x_ldc2 (q := 77) C 37 kc_RX0_41 rfl rfl ?_
          refine x_lcmp (q := 78) C 38 rfl rfl ?_
          refine x_if_ge (q := 81) (t := 85) C 39 rfl (by decide) rfl (fun c7 => ?_) (fun c7 => ?_)
          · skip
            refine y_lload4 (q := 87) C 42 rfl rfl ?_
            refine y_cSN1 (q := 90) C 43 rfl rfl ml_RX0_28 cd_X3_signOf sv_X3_signOf (by decide) (by decide) (Nat.le_of_ble_eq_true rfl) (s_X3_signOf ?_)
            show aj_X G 90 _ _ _ _ _ _ _ _ _
            exact x_ireturn C Z 44 rfl rfl rfl (aj_lf hK (by clear hK C Z; simp_all [pSB, pSB1, pAb, bI_0, bI_1, ← Int32.not_le, ← Int64.not_le, lg_cmp_gt, lg_cmp_lt, lg_cmp_le, lg_cmp_ge, lg_cmp_eq]))
          · skip
            refine x_iconst (q := 82) C 40 (n := (0)) (v := (0)) rfl rfl rfl ?_
            refine x_goto (t := 90) C 41 rfl (by decide) ?_
            exact x_ireturn C Z 44 rfl rfl rfl (aj_lf hK (by clear hK C Z; simp_all [pSB, pSB1, pAb, bI_0, bI_1, ← Int32.not_le, ← Int64.not_le, lg_cmp_gt, lg_cmp_lt, lg_cmp_le, lg_cmp_ge, lg_cmp_eq]))
    · skip
      refine y_lload4 (q := 36) C 17 rfl rfl ?_
      refine x_ldc2 (q := 39) C 18 kc_RX0_37 rfl rfl ?_
      refine x_ladd (q := 40) C 19 rfl rfl ?_
      refine y_lstore4 (q := 42) C 20 rfl rfl (Nat.le_of_ble_eq_true rfl) rfl ?_
      refine y_lload4 (q := 44) C 21 rfl rfl ?_
      refine x_lconst (q := 45) C 22 (n := 0) (v := 0) rfl rfl rfl ?_
      refine x_lcmp (q := 46) C 23 rfl rfl ?_
      refine x_if_ge (q := 49) (t := 55) C 24 rfl (by decide) rfl (fun c8 => ?_) (fun c8 => ?_)
      · skip
        refine y_lload4 (q := 57) C 28 rfl rfl ?_
        refine y_lstore6 (q := 59) C 29 rfl rfl (Nat.le_of_ble_eq_true rfl) rfl ?_
        refine y_lload6 (q := 61) C 30 rfl rfl ?_
        refine x_ldc2 (q := 64) C 31 kc_RX0_41 rfl rfl ?_
        refine x_lcmp (q := 65) C 32 rfl rfl ?_
        refine x_if_lt (q := 68) (t := 81) C 33 rfl (by decide) rfl (fun c9 => ?_) (fun c9 => ?_)
        · skip
          refine x_iconst (q := 82) C 40 (n := (0)) (v := (0)) rfl rfl rfl ?_
          refine x_goto (t := 90) C 41 rfl (by decide) ?_
          exact x_ireturn C Z 44 rfl rfl rfl (aj_lf hK (by clear hK C Z; simp_all [pSB, pSB1, pAb, bI_0, bI_1, ← Int32.not_le, ← Int64.not_le, lg_cmp_gt, lg_cmp_lt, lg_cmp_le, lg_cmp_ge, lg_cmp_eq]))
        · skip
          refine x_ldc2 (q := 71) C 34 kc_RX0_35 rfl rfl ?_
          refine y_lload6 (q := 73) C 35 rfl rfl ?_
          refine x_lsub (q := 74) C 36 rfl rfl ?_
          refine x_ldc2 (q := 77) C 37 kc_RX0_41 rfl rfl ?_
          refine x_lcmp (q := 78) C 38 rfl rfl ?_
          refine x_if_ge (q := 81) (t := 85) C 39 rfl (by decide) rfl (fun c10 => ?_) (fun c10 => ?_)
          · skip
            refine y_lload4 (q := 87) C 42 rfl rfl ?_
            refine y_cSN1 (q := 90) C 43 rfl rfl ml_RX0_28 cd_X3_signOf sv_X3_signOf (by decide) (by decide) (Nat.le_of_ble_eq_true rfl) (s_X3_signOf ?_)
            show aj_X G 90 _ _ _ _ _ _ _ _ _
            exact x_ireturn C Z 44 rfl rfl rfl (aj_lf hK (by clear hK C Z; simp_all [pSB, pSB1, pAb, bI_0, bI_1, ← Int32.not_le, ← Int64.not_le, lg_cmp_gt, lg_cmp_lt, lg_cmp_le, lg_cmp_ge, lg_cmp_eq]))
          · skip
            refine x_iconst (q := 82) C 40 (n := (0)) (v := (0)) rfl rfl rfl ?_
            refine x_goto (t := 90) C 41 rfl (by decide) ?_
            exact x_ireturn C Z 44 rfl rfl rfl (aj_lf hK (by clear hK C Z; simp_all [pSB, pSB1, pAb, bI_0, bI_1, ← Int32.not_le, ← Int64.not_le, lg_cmp_gt, lg_cmp_lt, lg_cmp_le, lg_cmp_ge, lg_cmp_eq]))
      · skip
        refine y_lload4 (q := 51) C 25 rfl rfl ?_
        refine x_lneg (q := 52) C 26 rfl rfl ?_
        refine x_goto (t := 57) C 27 rfl (by decide) ?_
        refine y_lstore6 (q := 59) C 29 rfl rfl (Nat.le_of_ble_eq_true rfl) rfl ?_
        refine y_lload6 (q := 61) C 30 rfl rfl ?_
        refine x_ldc2 (q := 64) C 31 kc_RX0_41 rfl rfl ?_
        refine x_lcmp (q := 65) C 32 rfl rfl ?_
        refine x_if_lt (q := 68) (t := 81) C 33 rfl (by decide) rfl (fun c11 => ?_) (fun c11 => ?_)
        · skip
          refine x_iconst (q := 82) C 40 (n := (0)) (v := (0)) rfl rfl rfl ?_
          refine x_goto (t := 90) C 41 rfl (by decide) ?_
          exact x_ireturn C Z 44 rfl rfl rfl (aj_lf hK (by clear hK C Z; simp_all [pSB, pSB1, pAb, bI_0, bI_1, ← Int32.not_le, ← Int64.not_le, lg_cmp_gt, lg_cmp_lt, lg_cmp_le, lg_cmp_ge, lg_cmp_eq]))
        · skip
          refine x_ldc2 (q := 71) C 34 kc_RX0_35 rfl rfl ?_
          refine y_lload6 (q := 73) C 35 rfl rfl ?_
          refine x_lsub (q := 74) C 36 rfl rfl ?_
          refine x_ldc2 (q := 77) C 37 kc_RX0_41 rfl rfl ?_
          refine x_lcmp (q := 78) C 38 rfl rfl ?_
          refine x_if_ge (q := 81) (t := 85) C 39 rfl (by decide) rfl (fun c12 => ?_) (fun c12 => ?_)
          · skip
            refine y_lload4 (q := 87) C 42 rfl rfl ?_
            refine y_cSN1 (q := 90) C 43 rfl rfl ml_RX0_28 cd_X3_signOf sv_X3_signOf (by decide) (by decide) (Nat.le_of_ble_eq_true rfl) (s_X3_signOf ?_)
            show aj_X G 90 _ _ _ _ _ _ _ _ _
            exact x_ireturn C Z 44 rfl rfl rfl (aj_lf hK (by clear hK C Z; simp_all [pSB, pSB1, pAb, bI_0, bI_1, ← Int32.not_le, ← Int64.not_le, lg_cmp_gt, lg_cmp_lt, lg_cmp_le, lg_cmp_ge, lg_cmp_eq]))
          · skip
            refine x_iconst (q := 82) C 40 (n := (0)) (v := (0)) rfl rfl rfl ?_
            refine x_goto (t := 90) C 41 rfl (by decide) ?_
            exact x_ireturn C Z 44 rfl rfl rfl (aj_lf hK (by clear hK C Z; simp_all [pSB, pSB1, pAb, bI_0, bI_1, ← Int32.not_le, ← Int64.not_le, lg_cmp_gt, lg_cmp_lt, lg_cmp_le, lg_cmp_ge, lg_cmp_eq]))
  · skip
    refine y_lload4 (q := 16) C 8 rfl rfl ?_
    refine x_ldc2 (q := 19) C 9 kc_RX0_37 rfl rfl ?_
    refine x_lsub (q := 20) C 10 rfl rfl ?_
    refine y_lstore4 (q := 22) C 11 rfl rfl (Nat.le_of_ble_eq_true rfl) rfl ?_
    refine x_goto (t := 42) C 12 rfl (by decide) ?_
    refine y_lload4 (q := 44) C 21 rfl rfl ?_
    refine x_lconst (q := 45) C 22 (n := 0) (v := 0) rfl rfl rfl ?_
    refine x_lcmp (q := 46) C 23 rfl rfl ?_
    refine x_if_ge (q := 49) (t := 55) C 24 rfl (by decide) rfl (fun c13 => ?_) (fun c13 => ?_)
    · skip
      refine y_lload4 (q := 57) C 28 rfl rfl ?_
      refine y_lstore6 (q := 59) C 29 rfl rfl (Nat.le_of_ble_eq_true rfl) rfl ?_
      refine y_lload6 (q := 61) C 30 rfl rfl ?_
      refine x_ldc2 (q := 64) C 31 kc_RX0_41 rfl rfl ?_
      refine x_lcmp (q := 65) C 32 rfl rfl ?_
      refine x_if_lt (q := 68) (t := 81) C 33 rfl (by decide) rfl (fun c14 => ?_) (fun c14 => ?_)
      · skip
        refine x_iconst (q := 82) C 40 (n := (0)) (v := (0)) rfl rfl rfl ?_
        refine x_goto (t := 90) C 41 rfl (by decide) ?_
        exact x_ireturn C Z 44 rfl rfl rfl (aj_lf hK (by clear hK C Z; simp_all [pSB, pSB1, pAb, bI_0, bI_1, ← Int32.not_le, ← Int64.not_le, lg_cmp_gt, lg_cmp_lt, lg_cmp_le, lg_cmp_ge, lg_cmp_eq]))
      · skip
        refine x_ldc2 (q := 71) C 34 kc_RX0_35 rfl rfl ?_
        refine y_lload6 (q := 73) C 35 rfl rfl ?_
        refine x_lsub (q := 74) C 36 rfl rfl ?_
        refine x_ldc2 (q := 77) C 37 kc_RX0_41 rfl rfl ?_
        refine x_lcmp (q := 78) C 38 rfl rfl ?_
        refine x_if_ge (q := 81) (t := 85) C 39 rfl (by decide) rfl (fun c15 => ?_) (fun c15 => ?_)
        · skip
          refine y_lload4 (q := 87) C 42 rfl rfl ?_
          refine y_cSN1 (q := 90) C 43 rfl rfl ml_RX0_28 cd_X3_signOf sv_X3_signOf (by decide) (by decide) (Nat.le_of_ble_eq_true rfl) (s_X3_signOf ?_)
          show aj_X G 90 _ _ _ _ _ _ _ _ _
          exact x_ireturn C Z 44 rfl rfl rfl (aj_lf hK (by clear hK C Z; simp_all [pSB, pSB1, pAb, bI_0, bI_1, ← Int32.not_le, ← Int64.not_le, lg_cmp_gt, lg_cmp_lt, lg_cmp_le, lg_cmp_ge, lg_cmp_eq]))
        · skip
          refine x_iconst (q := 82) C 40 (n := (0)) (v := (0)) rfl rfl rfl ?_
          refine x_goto (t := 90) C 41 rfl (by decide) ?_
          exact x_ireturn C Z 44 rfl rfl rfl (aj_lf hK (by clear hK C Z; simp_all [pSB, pSB1, pAb, bI_0, bI_1, ← Int32.not_le, ← Int64.not_le, lg_cmp_gt, lg_cmp_lt, lg_cmp_le, lg_cmp_ge, lg_cmp_eq]))
    · skip
      refine y_lload4 (q := 51) C 25 rfl rfl ?_
      refine x_lneg (q := 52) C 26 rfl rfl ?_
      refine x_goto (t := 57) C 27 rfl (by decide) ?_
      refine y_lstore6 (q := 59) C 29 rfl rfl (Nat.le_of_ble_eq_true rfl) rfl ?_
      refine y_lload6 (q := 61) C 30 rfl rfl ?_
      refine x_ldc2 (q := 64) C 31 kc_RX0_41 rfl rfl ?_
      refine x_lcmp (q := 65) C 32 rfl rfl ?_
      refine x_if_lt (q := 68) (t := 81) C 33 rfl (by decide) rfl (fun c16 => ?_) (fun c16 => ?_)
      · skip
        refine x_iconst (q := 82) C 40 (n := (0)) (v := (0)) rfl rfl rfl ?_
        refine x_goto (t := 90) C 41 rfl (by decide) ?_
        exact x_ireturn C Z 44 rfl rfl rfl (aj_lf hK (by clear hK C Z; simp_all [pSB, pSB1, pAb, bI_0, bI_1, ← Int32.not_le, ← Int64.not_le, lg_cmp_gt, lg_cmp_lt, lg_cmp_le, lg_cmp_ge, lg_cmp_eq]))
      · skip
        refine x_ldc2 (q := 71) C 34 kc_RX0_35 rfl rfl ?_
        refine y_lload6 (q := 73) C 35 rfl rfl ?_
        refine x_lsub (q := 74) C 36 rfl rfl ?_
        refine x_ldc2 (q := 77) C 37 kc_RX0_41 rfl rfl ?_
        refine x_lcmp (q := 78) C 38 rfl rfl ?_
        refine x_if_ge (q := 81) (t := 85) C 39 rfl (by decide) rfl (fun c17 => ?_) (fun c17 => ?_)
        · skip
          refine y_lload4 (q := 87) C 42 rfl rfl ?_
          refine y_cSN1 (q := 90) C 43 rfl rfl ml_RX0_28 cd_X3_signOf sv_X3_signOf (by decide) (by decide) (Nat.le_of_ble_eq_true rfl) (s_X3_signOf ?_)
          show aj_X G 90 _ _ _ _ _ _ _ _ _
          exact x_ireturn C Z 44 rfl rfl rfl (aj_lf hK (by clear hK C Z; simp_all [pSB, pSB1, pAb, bI_0, bI_1, ← Int32.not_le, ← Int64.not_le, lg_cmp_gt, lg_cmp_lt, lg_cmp_le, lg_cmp_ge, lg_cmp_eq]))
        · skip
          refine x_iconst (q := 82) C 40 (n := (0)) (v := (0)) rfl rfl rfl ?_
          refine x_goto (t := 90) C 41 rfl (by decide) ?_
          exact x_ireturn C Z 44 rfl rfl rfl (aj_lf hK (by clear hK C Z; simp_all [pSB, pSB1, pAb, bI_0, bI_1, ← Int32.not_le, ← Int64.not_le, lg_cmp_gt, lg_cmp_lt, lg_cmp_le, lg_cmp_ge, lg_cmp_eq]))
set_option maxRecDepth 100000 in
set_option maxHeartbeats 800000 in
theorem s_X2_angle {l : Launch} {I : Nat → Nat → Int32} {J : Nat → Nat → Int64} {V : Nat → Nat → Option Nat} {N : Nat → Nat} {L : List Nat} {K : aj_K} {a : Nat} (ha : a % 16 = 3) (haL : a ∈ L) (hK : K (.inl (some (.long (pAng (I a 0) (I a 1) (I a 2) (I a 3))))) I J V N L) : aj_M l yX2_angle (aj_wc yX2_angle cX2_angle 3 (some .long)) (aj_rm 3 0 0) [] [.ref a] I J V N L K := by
  refine aj_intro (tbl := t_X2_angle) (lv0 := [some (.ref a), none, none]) (by decide) T_X2_angle aj_f0 (Nat.le_of_ble_eq_true rfl) rfl ?_
  intro G hl C Z NX hnm hGL hGF
  have C : aj_C G cX2_angle t_X2_angle RX2 (aj_rm 3 0 0) 3 := C
  refine y_aload0 (q := 1) C 0 rfl rfl ?_
  refine y_cV0 (q := 4) C 1 rfl rfl ml_RX2_43 cd_X2_isOfNoSize cv_X2_isOfNoSize ⟨by rw [ha]; decide, by rw [ha]; rfl⟩ (by first | assumption | rfl | decide | exact hB _ (by decide)) (by decide) (by decide) (Nat.le_of_ble_eq_true rfl) (s_X2_isOfNoSize (by first | assumption | rfl | decide | exact hB _ (by decide)) (by first | assumption | rfl | decide | exact hB _ (by decide)) ?_)
  show aj_X G 4 _ _ _ _ _ _ _ _ _
  refine x_if_eqB (q := 7) (t := 11) C 2 rfl (by decide) rfl (fun c1 => ?_) (fun c1 => ?_)
  · skip
    refine y_aload0 (q := 12) C 5 rfl rfl ?_
    refine x_getI (q := 15) C 6 rfl rfl fl_RX2_16 (fun _ _ => rfl) (by first | assumption | rfl | decide | exact hB _ (by decide)) (by first | assumption | rfl | decide | exact hB _ (by decide)) ?_
    refine x_if_ne (q := 18) (t := 24) C 7 rfl (by decide) rfl (fun c2 => ?_) (fun c2 => ?_)
    · skip
      refine y_aload0 (q := 25) C 10 rfl rfl ?_
      refine x_getI (q := 28) C 11 rfl rfl fl_RX2_7 (fun _ _ => rfl) (by first | assumption | rfl | decide | exact hB _ (by decide)) (by first | assumption | rfl | decide | exact hB _ (by decide)) ?_
      refine x_if_ne (q := 31) (t := 37) C 12 rfl (by decide) rfl (fun c3 => ?_) (fun c3 => ?_)
      · skip
        refine y_aload0 (q := 38) C 15 rfl rfl ?_
        refine x_getI (q := 41) C 16 rfl rfl fl_RX2_7 (fun _ _ => rfl) (by first | assumption | rfl | decide | exact hB _ (by decide)) (by first | assumption | rfl | decide | exact hB _ (by decide)) ?_
        refine y_aload0 (q := 42) C 17 rfl rfl ?_
        refine x_getI (q := 45) C 18 rfl rfl fl_RX2_16 (fun _ _ => rfl) (by first | assumption | rfl | decide | exact hB _ (by decide)) (by first | assumption | rfl | decide | exact hB _ (by decide)) ?_
        refine y_cS2 (q := 48) C 19 rfl rfl ml_RX2_52 cd_X0_between sv_X0_between (by decide) (by decide) (Nat.le_of_ble_eq_true rfl) (s_X0_between ?_)
        show aj_X G 48 _ _ _ _ _ _ _ _ _
        refine y_lstore1 (q := 49) C 20 rfl rfl (Nat.le_of_ble_eq_true rfl) rfl ?_
        refine y_aload0 (q := 50) C 21 rfl rfl ?_
        refine y_cV0 (q := 53) C 22 rfl rfl ml_RX2_30 cd_X2_isUpper cv_X2_isUpper ⟨by rw [ha]; decide, by rw [ha]; rfl⟩ (by first | assumption | rfl | decide | exact hB _ (by decide)) (by decide) (by decide) (Nat.le_of_ble_eq_true rfl) (s_X2_isUpper (by first | assumption | rfl | decide | exact hB _ (by decide)) (by first | assumption | rfl | decide | exact hB _ (by decide)) ?_)
        show aj_X G 53 _ _ _ _ _ _ _ _ _
        refine x_if_eqB (q := 56) (t := 60) C 23 rfl (by decide) rfl (fun c4 => ?_) (fun c4 => ?_)
        · skip
          refine y_lload1 (q := 61) C 26 rfl rfl ?_
          refine x_lneg (q := 62) C 27 rfl rfl ?_
          exact x_lreturn C Z 28 rfl rfl (aj_lfL hK (by clear hK C Z; simp_all [pAng, pSz, bI_0, bI_1, ← Int32.not_le, ← Int64.not_le, lg_cmp_gt, lg_cmp_lt, lg_cmp_le, lg_cmp_ge, lg_cmp_eq]))
        · skip
          refine y_lload1 (q := 57) C 24 rfl rfl ?_
          refine x_goto (t := 62) C 25 rfl (by decide) ?_
          exact x_lreturn C Z 28 rfl rfl (aj_lfL hK (by clear hK C Z; simp_all [pAng, pSz, bI_0, bI_1, ← Int32.not_le, ← Int64.not_le, lg_cmp_gt, lg_cmp_lt, lg_cmp_le, lg_cmp_ge, lg_cmp_eq]))
      · skip
        refine x_ldc2 (q := 34) C 13 kc_RX2_50 rfl rfl ?_
        refine x_goto (t := 48) C 14 rfl (by decide) ?_
        refine y_lstore1 (q := 49) C 20 rfl rfl (Nat.le_of_ble_eq_true rfl) rfl ?_
        refine y_aload0 (q := 50) C 21 rfl rfl ?_
        refine y_cV0 (q := 53) C 22 rfl rfl ml_RX2_30 cd_X2_isUpper cv_X2_isUpper ⟨by rw [ha]; decide, by rw [ha]; rfl⟩ (by first | assumption | rfl | decide | exact hB _ (by decide)) (by decide) (by decide) (Nat.le_of_ble_eq_true rfl) (s_X2_isUpper (by first | assumption | rfl | decide | exact hB _ (by decide)) (by first | assumption | rfl | decide | exact hB _ (by decide)) ?_)
        show aj_X G 53 _ _ _ _ _ _ _ _ _
        refine x_if_eqB (q := 56) (t := 60) C 23 rfl (by decide) rfl (fun c5 => ?_) (fun c5 => ?_)
        · skip
          refine y_lload1 (q := 61) C 26 rfl rfl ?_
          refine x_lneg (q := 62) C 27 rfl rfl ?_
          exact x_lreturn C Z 28 rfl rfl (aj_lfL hK (by clear hK C Z; simp_all [pAng, pSz, bI_0, bI_1, ← Int32.not_le, ← Int64.not_le, lg_cmp_gt, lg_cmp_lt, lg_cmp_le, lg_cmp_ge, lg_cmp_eq]))
        · skip
          refine y_lload1 (q := 57) C 24 rfl rfl ?_
          refine x_goto (t := 62) C 25 rfl (by decide) ?_
          exact x_lreturn C Z 28 rfl rfl (aj_lfL hK (by clear hK C Z; simp_all [pAng, pSz, bI_0, bI_1, ← Int32.not_le, ← Int64.not_le, lg_cmp_gt, lg_cmp_lt, lg_cmp_le, lg_cmp_ge, lg_cmp_eq]))
    · skip
      refine x_ldc2 (q := 21) C 8 kc_RX2_48 rfl rfl ?_
      refine x_goto (t := 48) C 9 rfl (by decide) ?_
      refine y_lstore1 (q := 49) C 20 rfl rfl (Nat.le_of_ble_eq_true rfl) rfl ?_
      refine y_aload0 (q := 50) C 21 rfl rfl ?_
      refine y_cV0 (q := 53) C 22 rfl rfl ml_RX2_30 cd_X2_isUpper cv_X2_isUpper ⟨by rw [ha]; decide, by rw [ha]; rfl⟩ (by first | assumption | rfl | decide | exact hB _ (by decide)) (by decide) (by decide) (Nat.le_of_ble_eq_true rfl) (s_X2_isUpper (by first | assumption | rfl | decide | exact hB _ (by decide)) (by first | assumption | rfl | decide | exact hB _ (by decide)) ?_)
      show aj_X G 53 _ _ _ _ _ _ _ _ _
      refine x_if_eqB (q := 56) (t := 60) C 23 rfl (by decide) rfl (fun c6 => ?_) (fun c6 => ?_)
      · skip
        refine y_lload1 (q := 61) C 26 rfl rfl ?_
        refine x_lneg (q := 62) C 27 rfl rfl ?_
        exact x_lreturn C Z 28 rfl rfl (aj_lfL hK (by clear hK C Z; simp_all [pAng, pSz, bI_0, bI_1, ← Int32.not_le, ← Int64.not_le, lg_cmp_gt, lg_cmp_lt, lg_cmp_le, lg_cmp_ge, lg_cmp_eq]))
      · skip
        refine y_lload1 (q := 57) C 24 rfl rfl ?_
        refine x_goto (t := 62) C 25 rfl (by decide) ?_
        exact x_lreturn C Z 28 rfl rfl (aj_lfL hK (by clear hK C Z; simp_all [pAng, pSz, bI_0, bI_1, ← Int32.not_le, ← Int64.not_le, lg_cmp_gt, lg_cmp_lt, lg_cmp_le, lg_cmp_ge, lg_cmp_eq]))
  · skip
    refine x_lconst (q := 8) C 3 (n := 0) (v := 0) rfl rfl rfl ?_
    refine x_goto (t := 48) C 4 rfl (by decide) ?_
    refine y_lstore1 (q := 49) C 20 rfl rfl (Nat.le_of_ble_eq_true rfl) rfl ?_
    refine y_aload0 (q := 50) C 21 rfl rfl ?_
    refine y_cV0 (q := 53) C 22 rfl rfl ml_RX2_30 cd_X2_isUpper cv_X2_isUpper ⟨by rw [ha]; decide, by rw [ha]; rfl⟩ (by first | assumption | rfl | decide | exact hB _ (by decide)) (by decide) (by decide) (Nat.le_of_ble_eq_true rfl) (s_X2_isUpper (by first | assumption | rfl | decide | exact hB _ (by decide)) (by first | assumption | rfl | decide | exact hB _ (by decide)) ?_)
    show aj_X G 53 _ _ _ _ _ _ _ _ _
    refine x_if_eqB (q := 56) (t := 60) C 23 rfl (by decide) rfl (fun c7 => ?_) (fun c7 => ?_)
    · skip
      refine y_lload1 (q := 61) C 26 rfl rfl ?_
      refine x_lneg (q := 62) C 27 rfl rfl ?_
      exact x_lreturn C Z 28 rfl rfl (aj_lfL hK (by clear hK C Z; simp_all [pAng, pSz, bI_0, bI_1, ← Int32.not_le, ← Int64.not_le, lg_cmp_gt, lg_cmp_lt, lg_cmp_le, lg_cmp_ge, lg_cmp_eq]))
    · skip
      refine y_lload1 (q := 57) C 24 rfl rfl ?_
      refine x_goto (t := 62) C 25 rfl (by decide) ?_
      exact x_lreturn C Z 28 rfl rfl (aj_lfL hK (by clear hK C Z; simp_all [pAng, pSz, bI_0, bI_1, ← Int32.not_le, ← Int64.not_le, lg_cmp_gt, lg_cmp_lt, lg_cmp_le, lg_cmp_ge, lg_cmp_eq]))
set_option maxRecDepth 100000 in
set_option maxHeartbeats 800000 in
theorem s_X2_firstDigits {l : Launch} {I : Nat → Nat → Int32} {J : Nat → Nat → Int64} {V : Nat → Nat → Option Nat} {N : Nat → Nat} {L : List Nat} {K : aj_K} {a : Nat} (ha : a % 16 = 3) (haL : a ∈ L) {g : Int64} (hK : K (.inl (some (.int (pFD (I a 2) g)))) I J V N L) : aj_M l yX2_firstDigits (aj_wc yX2_firstDigits cX2_firstDigits 4 (some .int)) (aj_rm 1 0 0) [] [.ref a, .long g] I J V N L K := by
  refine aj_intro (tbl := t_X2_firstDigits) (lv0 := [some (.ref a), some (.long g), none, none]) (by decide) T_X2_firstDigits aj_f0 (Nat.le_of_ble_eq_true rfl) rfl ?_
  intro G hl C Z NX hnm hGL hGF
  have C : aj_C G cX2_firstDigits t_X2_firstDigits RX2 (aj_rm 1 0 0) 4 := C
  refine y_lload1 (q := 1) C 0 rfl rfl ?_
  refine x_lconst (q := 2) C 1 (n := 0) (v := 0) rfl rfl rfl ?_
  refine x_lcmp (q := 3) C 2 rfl rfl ?_
  refine x_if_ge (q := 6) (t := 11) C 3 rfl (by decide) rfl (fun c1 => ?_) (fun c1 => ?_)
  · skip
    refine y_lload1 (q := 12) C 7 rfl rfl ?_
    refine y_cS1 (q := 15) C 8 rfl rfl ml_RX2_56 cd_X0_exponentAndHead sv_X0_exponentAndHead (by decide) (by decide) (Nat.le_of_ble_eq_true rfl) (s_X0_exponentAndHead ?_)
    show aj_X G 15 _ _ _ _ _ _ _ _ _
    refine y_istore3 (q := 16) C 9 rfl rfl (Nat.le_of_ble_eq_true rfl) rfl ?_
    refine y_aload0 (q := 17) C 10 rfl rfl ?_
    refine y_cV0 (q := 20) C 11 rfl rfl ml_RX2_30 cd_X2_isUpper cv_X2_isUpper ⟨by rw [ha]; decide, by rw [ha]; rfl⟩ (by first | assumption | rfl | decide | exact hB _ (by decide)) (by decide) (by decide) (Nat.le_of_ble_eq_true rfl) (s_X2_isUpper (by first | assumption | rfl | decide | exact hB _ (by decide)) (by first | assumption | rfl | decide | exact hB _ (by decide)) ?_)
    show aj_X G 20 _ _ _ _ _ _ _ _ _
    refine x_if_eqB (q := 23) (t := 27) C 12 rfl (by decide) rfl (fun c2 => ?_) (fun c2 => ?_)
    · skip
      refine y_iload3 (q := 28) C 15 rfl rfl ?_
      refine x_ldc (q := 30) C 16 kc_RX2_59 rfl rfl ?_
      refine x_ior (q := 31) C 17 rfl rfl ?_
      exact x_ireturn C Z 18 rfl rfl rfl (aj_lf hK (by clear hK C Z; simp_all [pFD, pAb, bI_0, bI_1, ← Int32.not_le, ← Int64.not_le, lg_cmp_gt, lg_cmp_lt, lg_cmp_le, lg_cmp_ge, lg_cmp_eq]))
    · skip
      refine y_iload3 (q := 24) C 13 rfl rfl ?_
      refine x_goto (t := 31) C 14 rfl (by decide) ?_
      exact x_ireturn C Z 18 rfl rfl rfl (aj_lf hK (by clear hK C Z; simp_all [pFD, pAb, bI_0, bI_1, ← Int32.not_le, ← Int64.not_le, lg_cmp_gt, lg_cmp_lt, lg_cmp_le, lg_cmp_ge, lg_cmp_eq]))
  · skip
    refine y_lload1 (q := 7) C 4 rfl rfl ?_
    refine x_lneg (q := 8) C 5 rfl rfl ?_
    refine x_goto (t := 12) C 6 rfl (by decide) ?_
    refine y_cS1 (q := 15) C 8 rfl rfl ml_RX2_56 cd_X0_exponentAndHead sv_X0_exponentAndHead (by decide) (by decide) (Nat.le_of_ble_eq_true rfl) (s_X0_exponentAndHead ?_)
    show aj_X G 15 _ _ _ _ _ _ _ _ _
    refine y_istore3 (q := 16) C 9 rfl rfl (Nat.le_of_ble_eq_true rfl) rfl ?_
    refine y_aload0 (q := 17) C 10 rfl rfl ?_
    refine y_cV0 (q := 20) C 11 rfl rfl ml_RX2_30 cd_X2_isUpper cv_X2_isUpper ⟨by rw [ha]; decide, by rw [ha]; rfl⟩ (by first | assumption | rfl | decide | exact hB _ (by decide)) (by decide) (by decide) (Nat.le_of_ble_eq_true rfl) (s_X2_isUpper (by first | assumption | rfl | decide | exact hB _ (by decide)) (by first | assumption | rfl | decide | exact hB _ (by decide)) ?_)
    show aj_X G 20 _ _ _ _ _ _ _ _ _
    refine x_if_eqB (q := 23) (t := 27) C 12 rfl (by decide) rfl (fun c3 => ?_) (fun c3 => ?_)
    · skip
      refine y_iload3 (q := 28) C 15 rfl rfl ?_
      refine x_ldc (q := 30) C 16 kc_RX2_59 rfl rfl ?_
      refine x_ior (q := 31) C 17 rfl rfl ?_
      exact x_ireturn C Z 18 rfl rfl rfl (aj_lf hK (by clear hK C Z; simp_all [pFD, pAb, bI_0, bI_1, ← Int32.not_le, ← Int64.not_le, lg_cmp_gt, lg_cmp_lt, lg_cmp_le, lg_cmp_ge, lg_cmp_eq]))
    · skip
      refine y_iload3 (q := 24) C 13 rfl rfl ?_
      refine x_goto (t := 31) C 14 rfl (by decide) ?_
      exact x_ireturn C Z 18 rfl rfl rfl (aj_lf hK (by clear hK C Z; simp_all [pFD, pAb, bI_0, bI_1, ← Int32.not_le, ← Int64.not_le, lg_cmp_gt, lg_cmp_lt, lg_cmp_le, lg_cmp_ge, lg_cmp_eq]))
set_option maxRecDepth 100000 in
set_option maxHeartbeats 800000 in
theorem s_X2_lastDigits {l : Launch} {I : Nat → Nat → Int32} {J : Nat → Nat → Int64} {V : Nat → Nat → Option Nat} {N : Nat → Nat} {L : List Nat} {K : aj_K} {a : Nat} (ha : a % 16 = 3) (haL : a ∈ L) (hK : K (.inl (some (.int (pLD (I a 0) (I a 1) (I a 3))))) I J V N L) : aj_M l yX2_lastDigits (aj_wc yX2_lastDigits cX2_lastDigits 2 (some .int)) (aj_rm 1 0 0) [] [.ref a] I J V N L K := by
  refine aj_intro (tbl := t_X2_lastDigits) (lv0 := [some (.ref a), none]) (by decide) T_X2_lastDigits aj_f0 (Nat.le_of_ble_eq_true rfl) rfl ?_
  intro G hl C Z NX hnm hGL hGF
  have C : aj_C G cX2_lastDigits t_X2_lastDigits RX2 (aj_rm 1 0 0) 2 := C
  refine y_aload0 (q := 1) C 0 rfl rfl ?_
  refine y_cV0 (q := 4) C 1 rfl rfl ml_RX2_43 cd_X2_isOfNoSize cv_X2_isOfNoSize ⟨by rw [ha]; decide, by rw [ha]; rfl⟩ (by first | assumption | rfl | decide | exact hB _ (by decide)) (by decide) (by decide) (Nat.le_of_ble_eq_true rfl) (s_X2_isOfNoSize (by first | assumption | rfl | decide | exact hB _ (by decide)) (by first | assumption | rfl | decide | exact hB _ (by decide)) ?_)
  show aj_X G 4 _ _ _ _ _ _ _ _ _
  refine x_if_eqB (q := 7) (t := 9) C 2 rfl (by decide) rfl (fun c1 => ?_) (fun c1 => ?_)
  · skip
    refine y_aload0 (q := 10) C 5 rfl rfl ?_
    refine y_cV0 (q := 13) C 6 rfl rfl ml_RX2_26 cd_X2_isDiagonal cv_X2_isDiagonal ⟨by rw [ha]; decide, by rw [ha]; rfl⟩ (by first | assumption | rfl | decide | exact hB _ (by decide)) (by decide) (by decide) (Nat.le_of_ble_eq_true rfl) (s_X2_isDiagonal (by first | assumption | rfl | decide | exact hB _ (by decide)) (by first | assumption | rfl | decide | exact hB _ (by decide)) ?_)
    show aj_X G 13 _ _ _ _ _ _ _ _ _
    refine x_if_eqB (q := 16) (t := 27) C 7 rfl (by decide) rfl (fun c2 => ?_) (fun c2 => ?_)
    · skip
      refine x_iconst (q := 28) C 13 (n := (0)) (v := (0)) rfl rfl rfl ?_
      refine y_istore1 (q := 29) C 14 rfl rfl (Nat.le_of_ble_eq_true rfl) rfl ?_
      refine y_iload1 (q := 30) C 15 rfl rfl ?_
      refine x_if_eq (q := 33) (t := 39) C 16 rfl (by decide) rfl (fun c3 => ?_) (fun c3 => ?_)
      · skip
        refine x_ldc2 (q := 42) C 19 kc_RX2_62 rfl rfl ?_
        refine x_l2i (q := 43) C 20 rfl rfl ?_
        exact x_ireturn C Z 21 rfl rfl rfl (aj_lf hK (by clear hK C Z; simp_all [pLD, bI_0, bI_1, ← Int32.not_le, ← Int64.not_le]))
      · skip
        refine x_ldc2 (q := 36) C 17 kc_RX2_60 rfl rfl ?_
        refine x_goto (t := 42) C 18 rfl (by decide) ?_
        refine x_l2i (q := 43) C 20 rfl rfl ?_
        exact x_ireturn C Z 21 rfl rfl rfl (aj_lf hK (by clear hK C Z; simp_all [pLD, bI_0, bI_1, ← Int32.not_le, ← Int64.not_le]))
    · skip
      refine y_aload0 (q := 17) C 8 rfl rfl ?_
      refine x_getI (q := 20) C 9 rfl rfl fl_RX2_7 (fun _ _ => rfl) (by first | assumption | rfl | decide | exact hB _ (by decide)) (by first | assumption | rfl | decide | exact hB _ (by decide)) ?_
      refine x_if_ge (q := 23) (t := 27) C 10 rfl (by decide) rfl (fun c4 => ?_) (fun c4 => ?_)
      · skip
        refine x_iconst (q := 28) C 13 (n := (0)) (v := (0)) rfl rfl rfl ?_
        refine y_istore1 (q := 29) C 14 rfl rfl (Nat.le_of_ble_eq_true rfl) rfl ?_
        refine y_iload1 (q := 30) C 15 rfl rfl ?_
        refine x_if_eq (q := 33) (t := 39) C 16 rfl (by decide) rfl (fun c5 => ?_) (fun c5 => ?_)
        · skip
          refine x_ldc2 (q := 42) C 19 kc_RX2_62 rfl rfl ?_
          refine x_l2i (q := 43) C 20 rfl rfl ?_
          exact x_ireturn C Z 21 rfl rfl rfl (aj_lf hK (by clear hK C Z; simp_all [pLD, bI_0, bI_1, ← Int32.not_le, ← Int64.not_le]))
        · skip
          refine x_ldc2 (q := 36) C 17 kc_RX2_60 rfl rfl ?_
          refine x_goto (t := 42) C 18 rfl (by decide) ?_
          refine x_l2i (q := 43) C 20 rfl rfl ?_
          exact x_ireturn C Z 21 rfl rfl rfl (aj_lf hK (by clear hK C Z; simp_all [pLD, bI_0, bI_1, ← Int32.not_le, ← Int64.not_le]))
      · skip
        refine x_iconst (q := 24) C 11 (n := (1)) (v := (1)) rfl rfl rfl ?_
        refine x_goto (t := 28) C 12 rfl (by decide) ?_
        refine y_istore1 (q := 29) C 14 rfl rfl (Nat.le_of_ble_eq_true rfl) rfl ?_
        refine y_iload1 (q := 30) C 15 rfl rfl ?_
        refine x_if_eq (q := 33) (t := 39) C 16 rfl (by decide) rfl (fun c6 => ?_) (fun c6 => ?_)
        · skip
          refine x_ldc2 (q := 42) C 19 kc_RX2_62 rfl rfl ?_
          refine x_l2i (q := 43) C 20 rfl rfl ?_
          exact x_ireturn C Z 21 rfl rfl rfl (aj_lf hK (by clear hK C Z; simp_all [pLD, bI_0, bI_1, ← Int32.not_le, ← Int64.not_le]))
        · skip
          refine x_ldc2 (q := 36) C 17 kc_RX2_60 rfl rfl ?_
          refine x_goto (t := 42) C 18 rfl (by decide) ?_
          refine x_l2i (q := 43) C 20 rfl rfl ?_
          exact x_ireturn C Z 21 rfl rfl rfl (aj_lf hK (by clear hK C Z; simp_all [pLD, bI_0, bI_1, ← Int32.not_le, ← Int64.not_le]))
  · skip
    refine x_iconst (q := 8) C 3 (n := (0)) (v := (0)) rfl rfl rfl ?_
    exact x_ireturn C Z 4 rfl rfl rfl (aj_lf hK (by clear hK C Z; simp_all [pLD, bI_0, bI_1, ← Int32.not_le, ← Int64.not_le]))
