set_option maxRecDepth 100000 in
set_option maxHeartbeats 4000000 in
theorem s_X3_signOf {l : Launch} {I : Nat → Nat → Int32} {J : Nat → Nat → Int64} {V : Nat → Nat → Option Nat} {N : Nat → Nat} {L : List Nat} {K : aj_K} {v : Int64} (hK : K (.inl (some (.int (pSgn v)))) I J V N L) : aj_M l yX3_signOf (aj_wc yX3_signOf cX3_signOf 2 (some .int)) (aj_rm 0 0 0) [] [.long v] I J V N L K := by
  refine aj_intro (tbl := t_X3_signOf) (lv0 := [some (.long v), none]) (by decide) T_X3_signOf aj_f0 (Nat.le_of_ble_eq_true rfl) rfl ?_
  intro G hl C Z NX hnm hGL hGF
  have C : aj_C G cX3_signOf t_X3_signOf RX3 (aj_rm 0 0 0) 2 := C
  refine y_lload0 (q := 1) C 0 rfl rfl ?_
  refine x_lconst (q := 2) C 1 (n := 0) (v := 0) rfl rfl rfl ?_
  refine x_lcmp (q := 3) C 2 rfl rfl ?_
  refine x_if_le (q := 6) (t := 10) C 3 rfl (by decide) rfl (fun c1 => ?_) (fun c1 => ?_)
  · skip
    refine y_lload0 (q := 11) C 6 rfl rfl ?_
    refine x_lconst (q := 12) C 7 (n := 0) (v := 0) rfl rfl rfl ?_
    refine x_lcmp (q := 13) C 8 rfl rfl ?_
    refine x_if_ge (q := 16) (t := 20) C 9 rfl (by decide) rfl (fun c2 => ?_) (fun c2 => ?_)
    · skip
      refine x_iconst (q := 21) C 12 (n := (0)) (v := (0)) rfl rfl rfl ?_
      exact x_ireturn C Z 13 rfl rfl rfl (aj_lf hK (by simp only [lg_cmp_gt, lg_cmp_lt, lg_cmp_le, lg_cmp_ge] at *; simp [pSgn, *]))
    · skip
      refine x_iconst (q := 17) C 10 (n := (-1)) (v := (-1)) rfl rfl rfl ?_
      refine x_goto (t := 21) C 11 rfl (by decide) ?_
      exact x_ireturn C Z 13 rfl rfl rfl (aj_lf hK (by simp only [lg_cmp_gt, lg_cmp_lt, lg_cmp_le, lg_cmp_ge] at *; simp [pSgn, *]))
  · skip
    refine x_iconst (q := 7) C 4 (n := (1)) (v := (1)) rfl rfl rfl ?_
    refine x_goto (t := 21) C 5 rfl (by decide) ?_
    exact x_ireturn C Z 13 rfl rfl rfl (aj_lf hK (by simp only [lg_cmp_gt, lg_cmp_lt, lg_cmp_le, lg_cmp_ge] at *; simp [pSgn, *]))
set_option maxRecDepth 100000 in
set_option maxHeartbeats 4000000 in
theorem s_X2_isNull {l : Launch} {I : Nat → Nat → Int32} {J : Nat → Nat → Int64} {V : Nat → Nat → Option Nat} {N : Nat → Nat} {L : List Nat} {K : aj_K} {a : Nat} (ha : a % 16 = 3) (haL : a ∈ L) (hK : K (.inl (some (.int (bI (pNull (I a 0) (I a 1)))))) I J V N L) : aj_M l yX2_isNull (aj_wc yX2_isNull cX2_isNull 1 (some .boolean)) (aj_rm 0 0 0) [] [.ref a] I J V N L K := by
  refine aj_intro (tbl := t_X2_isNull) (lv0 := [some (.ref a)]) (by decide) T_X2_isNull aj_f0 (Nat.le_of_ble_eq_true rfl) rfl ?_
  intro G hl C Z NX hnm hGL hGF
  have C : aj_C G cX2_isNull t_X2_isNull RX2 (aj_rm 0 0 0) 1 := C
  refine y_aload0 (q := 1) C 0 rfl rfl ?_
  refine x_getI (q := 4) C 1 rfl rfl fl_RX2_7 (fun _ _ => rfl) (by first | assumption | rfl | decide | exact hB _ (by decide)) (by first | assumption | rfl | decide | exact hB _ (by decide)) ?_
  refine x_if_ne (q := 7) (t := 18) C 2 rfl (by decide) rfl (fun c1 => ?_) (fun c1 => ?_)
  · skip
    refine x_iconst (q := 19) C 8 (n := (0)) (v := (0)) rfl rfl rfl ?_
    exact x_ireturn C Z 9 rfl rfl rfl (aj_lf hK (by simp [pNull, bI, *]))
  · skip
    refine y_aload0 (q := 8) C 3 rfl rfl ?_
    refine x_getI (q := 11) C 4 rfl rfl fl_RX2_16 (fun _ _ => rfl) (by first | assumption | rfl | decide | exact hB _ (by decide)) (by first | assumption | rfl | decide | exact hB _ (by decide)) ?_
    refine x_if_ne (q := 14) (t := 18) C 5 rfl (by decide) rfl (fun c2 => ?_) (fun c2 => ?_)
    · skip
      refine x_iconst (q := 19) C 8 (n := (0)) (v := (0)) rfl rfl rfl ?_
      exact x_ireturn C Z 9 rfl rfl rfl (aj_lf hK (by simp [pNull, bI, *]))
    · skip
      refine x_iconst (q := 15) C 6 (n := (1)) (v := (1)) rfl rfl rfl ?_
      refine x_goto (t := 19) C 7 rfl (by decide) ?_
      exact x_ireturn C Z 9 rfl rfl rfl (aj_lf hK (by simp [pNull, bI, *]))
set_option maxRecDepth 100000 in
set_option maxHeartbeats 4000000 in
theorem s_X2_isUpper {l : Launch} {I : Nat → Nat → Int32} {J : Nat → Nat → Int64} {V : Nat → Nat → Option Nat} {N : Nat → Nat} {L : List Nat} {K : aj_K} {a : Nat} (ha : a % 16 = 3) (haL : a ∈ L) (hK : K (.inl (some (.int (bI (pUp (I a 2)))))) I J V N L) : aj_M l yX2_isUpper (aj_wc yX2_isUpper cX2_isUpper 1 (some .boolean)) (aj_rm 0 0 0) [] [.ref a] I J V N L K := by
  refine aj_intro (tbl := t_X2_isUpper) (lv0 := [some (.ref a)]) (by decide) T_X2_isUpper aj_f0 (Nat.le_of_ble_eq_true rfl) rfl ?_
  intro G hl C Z NX hnm hGL hGF
  have C : aj_C G cX2_isUpper t_X2_isUpper RX2 (aj_rm 0 0 0) 1 := C
  refine y_aload0 (q := 1) C 0 rfl rfl ?_
  refine x_getI (q := 4) C 1 rfl rfl fl_RX2_19 (fun _ _ => rfl) (by first | assumption | rfl | decide | exact hB _ (by decide)) (by first | assumption | rfl | decide | exact hB _ (by decide)) ?_
  refine x_iconst (q := 5) C 2 (n := (2)) (v := (2)) rfl rfl rfl ?_
  refine x_iand (q := 6) C 3 rfl rfl ?_
  refine x_if_ne (q := 9) (t := 13) C 4 rfl (by decide) rfl (fun c1 => ?_) (fun c1 => ?_)
  · skip
    refine x_iconst (q := 14) C 7 (n := (0)) (v := (0)) rfl rfl rfl ?_
    exact x_ireturn C Z 8 rfl rfl rfl (aj_lf hK (by simp [pUp, bI, *]))
  · skip
    refine x_iconst (q := 10) C 5 (n := (1)) (v := (1)) rfl rfl rfl ?_
    refine x_goto (t := 14) C 6 rfl (by decide) ?_
    exact x_ireturn C Z 8 rfl rfl rfl (aj_lf hK (by simp [pUp, bI, *]))
set_option maxRecDepth 100000 in
set_option maxHeartbeats 4000000 in
theorem s_X2_isTwinOf {l : Launch} {I : Nat → Nat → Int32} {J : Nat → Nat → Int64} {V : Nat → Nat → Option Nat} {N : Nat → Nat} {L : List Nat} {K : aj_K} {a b : Nat} (ha : a % 16 = 3) (haL : a ∈ L) (hb : b % 16 = 3) (hbL : b ∈ L) (hK : K (.inl (some (.int (bI (pTwin (I a 0) (I a 1) (I a 2) (I b 0) (I b 1) (I b 2)))))) I J V N L) : aj_M l yX2_isTwinOf (aj_wc yX2_isTwinOf cX2_isTwinOf 2 (some .boolean)) (aj_rm 0 0 0) [] [.ref a, .ref b] I J V N L K := by
  refine aj_intro (tbl := t_X2_isTwinOf) (lv0 := [some (.ref a), some (.ref b)]) (by decide) T_X2_isTwinOf aj_f0 (Nat.le_of_ble_eq_true rfl) rfl ?_
  intro G hl C Z NX hnm hGL hGF
  have C : aj_C G cX2_isTwinOf t_X2_isTwinOf RX2 (aj_rm 0 0 0) 2 := C
  refine y_aload0 (q := 1) C 0 rfl rfl ?_
  refine x_getI (q := 4) C 1 rfl rfl fl_RX2_7 (fun _ _ => rfl) (by first | assumption | rfl | decide | exact hB _ (by decide)) (by first | assumption | rfl | decide | exact hB _ (by decide)) ?_
  refine y_aload1 (q := 5) C 2 rfl rfl ?_
  refine x_getI (q := 8) C 3 rfl rfl fl_RX2_7 (fun _ _ => rfl) (by first | assumption | rfl | decide | exact hB _ (by decide)) (by first | assumption | rfl | decide | exact hB _ (by decide)) ?_
  refine x_icmp_ne (q := 11) (t := 37) C 4 rfl (by decide) rfl (fun c1 => ?_) (fun c1 => ?_)
  · skip
    refine x_iconst (q := 38) C 17 (n := (0)) (v := (0)) rfl rfl rfl ?_
    exact x_ireturn C Z 18 rfl rfl rfl (aj_lf hK (by simp [pTwin, bI, *]))
  · skip
    refine y_aload0 (q := 12) C 5 rfl rfl ?_
    refine x_getI (q := 15) C 6 rfl rfl fl_RX2_16 (fun _ _ => rfl) (by first | assumption | rfl | decide | exact hB _ (by decide)) (by first | assumption | rfl | decide | exact hB _ (by decide)) ?_
    refine y_aload1 (q := 16) C 7 rfl rfl ?_
    refine x_getI (q := 19) C 8 rfl rfl fl_RX2_16 (fun _ _ => rfl) (by first | assumption | rfl | decide | exact hB _ (by decide)) (by first | assumption | rfl | decide | exact hB _ (by decide)) ?_
    refine x_icmp_ne (q := 22) (t := 37) C 9 rfl (by decide) rfl (fun c2 => ?_) (fun c2 => ?_)
    · skip
      refine x_iconst (q := 38) C 17 (n := (0)) (v := (0)) rfl rfl rfl ?_
      exact x_ireturn C Z 18 rfl rfl rfl (aj_lf hK (by simp [pTwin, bI, *]))
    · skip
      refine y_aload0 (q := 23) C 10 rfl rfl ?_
      refine x_getI (q := 26) C 11 rfl rfl fl_RX2_19 (fun _ _ => rfl) (by first | assumption | rfl | decide | exact hB _ (by decide)) (by first | assumption | rfl | decide | exact hB _ (by decide)) ?_
      refine y_aload1 (q := 27) C 12 rfl rfl ?_
      refine x_getI (q := 30) C 13 rfl rfl fl_RX2_19 (fun _ _ => rfl) (by first | assumption | rfl | decide | exact hB _ (by decide)) (by first | assumption | rfl | decide | exact hB _ (by decide)) ?_
      refine x_icmp_ne (q := 33) (t := 37) C 14 rfl (by decide) rfl (fun c3 => ?_) (fun c3 => ?_)
      · skip
        refine x_iconst (q := 38) C 17 (n := (0)) (v := (0)) rfl rfl rfl ?_
        exact x_ireturn C Z 18 rfl rfl rfl (aj_lf hK (by simp [pTwin, bI, *]))
      · skip
        refine x_iconst (q := 34) C 15 (n := (1)) (v := (1)) rfl rfl rfl ?_
        refine x_goto (t := 38) C 16 rfl (by decide) ?_
        exact x_ireturn C Z 18 rfl rfl rfl (aj_lf hK (by simp [pTwin, bI, *]))
set_option maxRecDepth 100000 in
set_option maxHeartbeats 4000000 in
theorem s_X2_isOfNoSize {l : Launch} {I : Nat → Nat → Int32} {J : Nat → Nat → Int64} {V : Nat → Nat → Option Nat} {N : Nat → Nat} {L : List Nat} {K : aj_K} {a : Nat} (ha : a % 16 = 3) (haL : a ∈ L) (hK : K (.inl (some (.int (bI (pNoSize (I a 1) (I a 3)))))) I J V N L) : aj_M l yX2_isOfNoSize (aj_wc yX2_isOfNoSize cX2_isOfNoSize 1 (some .boolean)) (aj_rm 0 0 0) [] [.ref a] I J V N L K := by
  refine aj_intro (tbl := t_X2_isOfNoSize) (lv0 := [some (.ref a)]) (by decide) T_X2_isOfNoSize aj_f0 (Nat.le_of_ble_eq_true rfl) rfl ?_
  intro G hl C Z NX hnm hGL hGF
  have C : aj_C G cX2_isOfNoSize t_X2_isOfNoSize RX2 (aj_rm 0 0 0) 1 := C
  refine y_aload0 (q := 1) C 0 rfl rfl ?_
  refine x_getI (q := 4) C 1 rfl rfl fl_RX2_16 (fun _ _ => rfl) (by first | assumption | rfl | decide | exact hB _ (by decide)) (by first | assumption | rfl | decide | exact hB _ (by decide)) ?_
  refine x_if_ne (q := 7) (t := 18) C 2 rfl (by decide) rfl (fun c1 => ?_) (fun c1 => ?_)
  · skip
    refine x_iconst (q := 19) C 8 (n := (0)) (v := (0)) rfl rfl rfl ?_
    exact x_ireturn C Z 9 rfl rfl rfl (aj_lf hK (by simp [pNoSize, bI, *]))
  · skip
    refine y_aload0 (q := 8) C 3 rfl rfl ?_
    refine x_getI (q := 11) C 4 rfl rfl fl_RX2_13 (fun _ _ => rfl) (by first | assumption | rfl | decide | exact hB _ (by decide)) (by first | assumption | rfl | decide | exact hB _ (by decide)) ?_
    refine x_if_le (q := 14) (t := 18) C 5 rfl (by decide) rfl (fun c2 => ?_) (fun c2 => ?_)
    · skip
      refine x_iconst (q := 19) C 8 (n := (0)) (v := (0)) rfl rfl rfl ?_
      exact x_ireturn C Z 9 rfl rfl rfl (aj_lf hK (by simp [pNoSize, bI, *]))
    · skip
      refine x_iconst (q := 15) C 6 (n := (1)) (v := (1)) rfl rfl rfl ?_
      refine x_goto (t := 19) C 7 rfl (by decide) ?_
      exact x_ireturn C Z 9 rfl rfl rfl (aj_lf hK (by simp [pNoSize, bI, *]))
set_option maxRecDepth 100000 in
set_option maxHeartbeats 4000000 in
theorem s_X2_isDiagonal {l : Launch} {I : Nat → Nat → Int32} {J : Nat → Nat → Int64} {V : Nat → Nat → Option Nat} {N : Nat → Nat} {L : List Nat} {K : aj_K} {a : Nat} (ha : a % 16 = 3) (haL : a ∈ L) (hK : K (.inl (some (.int (bI (pDiag (I a 0) (I a 1)))))) I J V N L) : aj_M l yX2_isDiagonal (aj_wc yX2_isDiagonal cX2_isDiagonal 1 (some .boolean)) (aj_rm 0 0 0) [] [.ref a] I J V N L K := by
  refine aj_intro (tbl := t_X2_isDiagonal) (lv0 := [some (.ref a)]) (by decide) T_X2_isDiagonal aj_f0 (Nat.le_of_ble_eq_true rfl) rfl ?_
  intro G hl C Z NX hnm hGL hGF
  have C : aj_C G cX2_isDiagonal t_X2_isDiagonal RX2 (aj_rm 0 0 0) 1 := C
  refine y_aload0 (q := 1) C 0 rfl rfl ?_
  refine x_getI (q := 4) C 1 rfl rfl fl_RX2_16 (fun _ _ => rfl) (by first | assumption | rfl | decide | exact hB _ (by decide)) (by first | assumption | rfl | decide | exact hB _ (by decide)) ?_
  refine x_if_eq (q := 7) (t := 34) C 2 rfl (by decide) rfl (fun c1 => ?_) (fun c1 => ?_)
  · skip
    refine x_iconst (q := 35) C 16 (n := (0)) (v := (0)) rfl rfl rfl ?_
    exact x_ireturn C Z 17 rfl rfl rfl (aj_lf hK (by simp [pDiag, bI, *]))
  · skip
    refine y_aload0 (q := 8) C 3 rfl rfl ?_
    refine x_getI (q := 11) C 4 rfl rfl fl_RX2_7 (fun _ _ => rfl) (by first | assumption | rfl | decide | exact hB _ (by decide)) (by first | assumption | rfl | decide | exact hB _ (by decide)) ?_
    refine y_aload0 (q := 12) C 5 rfl rfl ?_
    refine x_getI (q := 15) C 6 rfl rfl fl_RX2_16 (fun _ _ => rfl) (by first | assumption | rfl | decide | exact hB _ (by decide)) (by first | assumption | rfl | decide | exact hB _ (by decide)) ?_
    refine x_icmp_eq (q := 18) (t := 30) C 7 rfl (by decide) rfl (fun c2 => ?_) (fun c2 => ?_)
    · skip
      refine x_iconst (q := 31) C 14 (n := (1)) (v := (1)) rfl rfl rfl ?_
      refine x_goto (t := 35) C 15 rfl (by decide) ?_
      exact x_ireturn C Z 17 rfl rfl rfl (aj_lf hK (by simp [pDiag, bI, *]))
    · skip
      refine y_aload0 (q := 19) C 8 rfl rfl ?_
      refine x_getI (q := 22) C 9 rfl rfl fl_RX2_7 (fun _ _ => rfl) (by first | assumption | rfl | decide | exact hB _ (by decide)) (by first | assumption | rfl | decide | exact hB _ (by decide)) ?_
      refine y_aload0 (q := 23) C 10 rfl rfl ?_
      refine x_getI (q := 26) C 11 rfl rfl fl_RX2_16 (fun _ _ => rfl) (by first | assumption | rfl | decide | exact hB _ (by decide)) (by first | assumption | rfl | decide | exact hB _ (by decide)) ?_
      refine x_ineg (q := 27) C 12 rfl rfl ?_
      refine x_icmp_ne (q := 30) (t := 34) C 13 rfl (by decide) rfl (fun c3 => ?_) (fun c3 => ?_)
      · skip
        refine x_iconst (q := 35) C 16 (n := (0)) (v := (0)) rfl rfl rfl ?_
        exact x_ireturn C Z 17 rfl rfl rfl (aj_lf hK (by simp [pDiag, bI, *]))
      · skip
        refine x_iconst (q := 31) C 14 (n := (1)) (v := (1)) rfl rfl rfl ?_
        refine x_goto (t := 35) C 15 rfl (by decide) ?_
        exact x_ireturn C Z 17 rfl rfl rfl (aj_lf hK (by simp [pDiag, bI, *]))
set_option maxRecDepth 100000 in
set_option maxHeartbeats 4000000 in
theorem s_X2_isFixed {l : Launch} {I : Nat → Nat → Int32} {J : Nat → Nat → Int64} {V : Nat → Nat → Option Nat} {N : Nat → Nat} {L : List Nat} {K : aj_K} {a : Nat} (ha : a % 16 = 3) (haL : a ∈ L) (hK : K (.inl (some (.int (bI (pFixed (I a 0) (I a 1)))))) I J V N L) : aj_M l yX2_isFixed (aj_wc yX2_isFixed cX2_isFixed 1 (some .boolean)) (aj_rm 1 0 0) [] [.ref a] I J V N L K := by
  refine aj_intro (tbl := t_X2_isFixed) (lv0 := [some (.ref a)]) (by decide) T_X2_isFixed aj_f0 (Nat.le_of_ble_eq_true rfl) rfl ?_
  intro G hl C Z NX hnm hGL hGF
  have C : aj_C G cX2_isFixed t_X2_isFixed RX2 (aj_rm 1 0 0) 1 := C
  refine y_aload0 (q := 1) C 0 rfl rfl ?_
  refine x_getI (q := 4) C 1 rfl rfl fl_RX2_16 (fun _ _ => rfl) (by first | assumption | rfl | decide | exact hB _ (by decide)) (by first | assumption | rfl | decide | exact hB _ (by decide)) ?_
  refine x_if_eq (q := 7) (t := 21) C 2 rfl (by decide) rfl (fun c1 => ?_) (fun c1 => ?_)
  · skip
    refine x_iconst (q := 22) C 9 (n := (1)) (v := (1)) rfl rfl rfl ?_
    refine x_goto (t := 26) C 10 rfl (by decide) ?_
    exact x_ireturn C Z 12 rfl rfl rfl (aj_lf hK (by simp [pFixed, bI, *]))
  · skip
    refine y_aload0 (q := 8) C 3 rfl rfl ?_
    refine x_getI (q := 11) C 4 rfl rfl fl_RX2_7 (fun _ _ => rfl) (by first | assumption | rfl | decide | exact hB _ (by decide)) (by first | assumption | rfl | decide | exact hB _ (by decide)) ?_
    refine x_if_eq (q := 14) (t := 21) C 5 rfl (by decide) rfl (fun c2 => ?_) (fun c2 => ?_)
    · skip
      refine x_iconst (q := 22) C 9 (n := (1)) (v := (1)) rfl rfl rfl ?_
      refine x_goto (t := 26) C 10 rfl (by decide) ?_
      exact x_ireturn C Z 12 rfl rfl rfl (aj_lf hK (by simp [pFixed, bI, *]))
    · skip
      refine y_aload0 (q := 15) C 6 rfl rfl ?_
      refine y_cV0 (q := 18) C 7 rfl rfl ml_RX2_26 cd_X2_isDiagonal cv_X2_isDiagonal ⟨by rw [ha]; decide, by rw [ha]; rfl⟩ (by first | assumption | rfl | decide | exact hB _ (by decide)) (by decide) (by decide) (Nat.le_of_ble_eq_true rfl) (s_X2_isDiagonal (by first | assumption | rfl | decide | exact hB _ (by decide)) (by first | assumption | rfl | decide | exact hB _ (by decide)) ?_)
      show aj_X G 18 _ _ _ _ _ _ _ _ _
      refine x_if_eqB (q := 21) (t := 25) C 8 rfl (by decide) rfl (fun c3 => ?_) (fun c3 => ?_)
      · skip
        refine x_iconst (q := 26) C 11 (n := (0)) (v := (0)) rfl rfl rfl ?_
        exact x_ireturn C Z 12 rfl rfl rfl (aj_lf hK (by simp [pFixed, bI, *]))
      · skip
        refine x_iconst (q := 22) C 9 (n := (1)) (v := (1)) rfl rfl rfl ?_
        refine x_goto (t := 26) C 10 rfl (by decide) ?_
        exact x_ireturn C Z 12 rfl rfl rfl (aj_lf hK (by simp [pFixed, bI, *]))
set_option maxRecDepth 100000 in
set_option maxHeartbeats 4000000 in
theorem s_X2_crossWith {l : Launch} {I : Nat → Nat → Int32} {J : Nat → Nat → Int64} {V : Nat → Nat → Option Nat} {N : Nat → Nat} {L : List Nat} {K : aj_K} {a b : Nat} (ha : a % 16 = 3) (haL : a ∈ L) (hb : b % 16 = 3) (hbL : b ∈ L) (hK : K (.inl (some (.int (pCross (I a 0) (I a 1) (I b 0) (I b 1))))) I J V N L) : aj_M l yX2_crossWith (aj_wc yX2_crossWith cX2_crossWith 2 (some .int)) (aj_rm 0 0 0) [] [.ref a, .ref b] I J V N L K := by
  refine aj_intro (tbl := t_X2_crossWith) (lv0 := [some (.ref a), some (.ref b)]) (by decide) T_X2_crossWith aj_f0 (Nat.le_of_ble_eq_true rfl) rfl ?_
  intro G hl C Z NX hnm hGL hGF
  have C : aj_C G cX2_crossWith t_X2_crossWith RX2 (aj_rm 0 0 0) 2 := C
  refine y_aload0 (q := 1) C 0 rfl rfl ?_
  refine x_getI (q := 4) C 1 rfl rfl fl_RX2_7 (fun _ _ => rfl) (by first | assumption | rfl | decide | exact hB _ (by decide)) (by first | assumption | rfl | decide | exact hB _ (by decide)) ?_
  refine y_aload1 (q := 5) C 2 rfl rfl ?_
  refine x_getI (q := 8) C 3 rfl rfl fl_RX2_16 (fun _ _ => rfl) (by first | assumption | rfl | decide | exact hB _ (by decide)) (by first | assumption | rfl | decide | exact hB _ (by decide)) ?_
  refine x_imul (q := 9) C 4 rfl rfl ?_
  refine y_aload0 (q := 10) C 5 rfl rfl ?_
  refine x_getI (q := 13) C 6 rfl rfl fl_RX2_16 (fun _ _ => rfl) (by first | assumption | rfl | decide | exact hB _ (by decide)) (by first | assumption | rfl | decide | exact hB _ (by decide)) ?_
  refine y_aload1 (q := 14) C 7 rfl rfl ?_
  refine x_getI (q := 17) C 8 rfl rfl fl_RX2_7 (fun _ _ => rfl) (by first | assumption | rfl | decide | exact hB _ (by decide)) (by first | assumption | rfl | decide | exact hB _ (by decide)) ?_
  refine x_imul (q := 18) C 9 rfl rfl ?_
  refine x_isub (q := 19) C 10 rfl rfl ?_
  exact x_ireturn C Z 11 rfl rfl rfl (hK)
set_option maxRecDepth 100000 in
set_option maxHeartbeats 4000000 in
theorem s_X2_orderTo {l : Launch} {I : Nat → Nat → Int32} {J : Nat → Nat → Int64} {V : Nat → Nat → Option Nat} {N : Nat → Nat} {L : List Nat} {K : aj_K} {a b : Nat} (ha : a % 16 = 3) (haL : a ∈ L) (hb : b % 16 = 3) (hbL : b ∈ L) (hK : K (.inl (some (.int (pOrd (I a 3) (I a 1) (I a 2) (I b 3) (I b 1) (I b 2))))) I J V N L) : aj_M l yX2_orderTo (aj_wc yX2_orderTo cX2_orderTo 3 (some .int)) (aj_rm 1 0 0) [] [.ref a, .ref b] I J V N L K := by
  refine aj_intro (tbl := t_X2_orderTo) (lv0 := [some (.ref a), some (.ref b), none]) (by decide) T_X2_orderTo aj_f0 (Nat.le_of_ble_eq_true rfl) rfl ?_
  intro G hl C Z NX hnm hGL hGF
  have C : aj_C G cX2_orderTo t_X2_orderTo RX2 (aj_rm 1 0 0) 3 := C
  refine y_aload0 (q := 1) C 0 rfl rfl ?_
  refine y_cV0 (q := 4) C 1 rfl rfl ml_RX2_30 cd_X2_isUpper cv_X2_isUpper ⟨by rw [ha]; decide, by rw [ha]; rfl⟩ (by first | assumption | rfl | decide | exact hB _ (by decide)) (by decide) (by decide) (Nat.le_of_ble_eq_true rfl) (s_X2_isUpper (by first | assumption | rfl | decide | exact hB _ (by decide)) (by first | assumption | rfl | decide | exact hB _ (by decide)) ?_)
  show aj_X G 4 _ _ _ _ _ _ _ _ _
  refine y_aload1 (q := 5) C 2 rfl rfl ?_
  refine y_cV0 (q := 8) C 3 rfl rfl ml_RX2_30 cd_X2_isUpper cv_X2_isUpper ⟨by rw [hb]; decide, by rw [hb]; rfl⟩ (by first | assumption | rfl | decide | exact hB _ (by decide)) (by decide) (by decide) (Nat.le_of_ble_eq_true rfl) (s_X2_isUpper (by first | assumption | rfl | decide | exact hB _ (by decide)) (by first | assumption | rfl | decide | exact hB _ (by decide)) ?_)
  show aj_X G 8 _ _ _ _ _ _ _ _ _
  refine x_icmp_eqB (q := 11) (t := 24) C 4 rfl (by decide) rfl (fun c1 => ?_) (fun c1 => ?_)
  · skip
    refine y_aload0 (q := 25) C 12 rfl rfl ?_
    refine x_getI (q := 28) C 13 rfl rfl fl_RX2_13 (fun _ _ => rfl) (by first | assumption | rfl | decide | exact hB _ (by decide)) (by first | assumption | rfl | decide | exact hB _ (by decide)) ?_
    refine y_aload1 (q := 29) C 14 rfl rfl ?_
    refine x_getI (q := 32) C 15 rfl rfl fl_RX2_16 (fun _ _ => rfl) (by first | assumption | rfl | decide | exact hB _ (by decide)) (by first | assumption | rfl | decide | exact hB _ (by decide)) ?_
    refine x_imul (q := 33) C 16 rfl rfl ?_
    refine y_aload0 (q := 34) C 17 rfl rfl ?_
    refine x_getI (q := 37) C 18 rfl rfl fl_RX2_16 (fun _ _ => rfl) (by first | assumption | rfl | decide | exact hB _ (by decide)) (by first | assumption | rfl | decide | exact hB _ (by decide)) ?_
    refine y_aload1 (q := 38) C 19 rfl rfl ?_
    refine x_getI (q := 41) C 20 rfl rfl fl_RX2_13 (fun _ _ => rfl) (by first | assumption | rfl | decide | exact hB _ (by decide)) (by first | assumption | rfl | decide | exact hB _ (by decide)) ?_
    refine x_imul (q := 42) C 21 rfl rfl ?_
    refine x_isub (q := 43) C 22 rfl rfl ?_
    refine y_istore2 (q := 44) C 23 rfl rfl (Nat.le_of_ble_eq_true rfl) rfl ?_
    refine y_iload2 (q := 45) C 24 rfl rfl ?_
    refine x_if_eq (q := 48) (t := 58) C 25 rfl (by decide) rfl (fun c2 => ?_) (fun c2 => ?_)
    · skip
      refine y_aload0 (q := 59) C 32 rfl rfl ?_
      refine x_getI (q := 62) C 33 rfl rfl fl_RX2_13 (fun _ _ => rfl) (by first | assumption | rfl | decide | exact hB _ (by decide)) (by first | assumption | rfl | decide | exact hB _ (by decide)) ?_
      refine y_aload1 (q := 63) C 34 rfl rfl ?_
      refine x_getI (q := 66) C 35 rfl rfl fl_RX2_13 (fun _ _ => rfl) (by first | assumption | rfl | decide | exact hB _ (by decide)) (by first | assumption | rfl | decide | exact hB _ (by decide)) ?_
      refine x_imul (q := 67) C 36 rfl rfl ?_
      refine y_aload0 (q := 68) C 37 rfl rfl ?_
      refine x_getI (q := 71) C 38 rfl rfl fl_RX2_16 (fun _ _ => rfl) (by first | assumption | rfl | decide | exact hB _ (by decide)) (by first | assumption | rfl | decide | exact hB _ (by decide)) ?_
      refine y_aload1 (q := 72) C 39 rfl rfl ?_
      refine x_getI (q := 75) C 40 rfl rfl fl_RX2_16 (fun _ _ => rfl) (by first | assumption | rfl | decide | exact hB _ (by decide)) (by first | assumption | rfl | decide | exact hB _ (by decide)) ?_
      refine x_imul (q := 76) C 41 rfl rfl ?_
      refine x_iadd (q := 77) C 42 rfl rfl ?_
      refine x_if_le (q := 80) (t := 82) C 43 rfl (by decide) rfl (fun c3 => ?_) (fun c3 => ?_)
      · skip
        refine y_aload0 (q := 83) C 46 rfl rfl ?_
        refine y_cV0 (q := 86) C 47 rfl rfl ml_RX2_30 cd_X2_isUpper cv_X2_isUpper ⟨by rw [ha]; decide, by rw [ha]; rfl⟩ (by first | assumption | rfl | decide | exact hB _ (by decide)) (by decide) (by decide) (Nat.le_of_ble_eq_true rfl) (s_X2_isUpper (by first | assumption | rfl | decide | exact hB _ (by decide)) (by first | assumption | rfl | decide | exact hB _ (by decide)) ?_)
        show aj_X G 86 _ _ _ _ _ _ _ _ _
        refine y_aload0 (q := 87) C 48 rfl rfl ?_
        refine x_getI (q := 90) C 49 rfl rfl fl_RX2_13 (fun _ _ => rfl) (by first | assumption | rfl | decide | exact hB _ (by decide)) (by first | assumption | rfl | decide | exact hB _ (by decide)) ?_
        refine x_if_le (q := 93) (t := 97) C 50 rfl (by decide) rfl (fun c4 => ?_) (fun c4 => ?_)
        · skip
          refine x_iconst (q := 98) C 53 (n := (0)) (v := (0)) rfl rfl rfl ?_
          refine x_icmp_ne (q := 101) (t := 105) C 54 rfl (by decide) rfl (fun c5 => ?_) (fun c5 => ?_)
          · skip
            refine x_iconst (q := 106) C 57 (n := (1)) (v := (1)) rfl rfl rfl ?_
            exact x_ireturn C Z 58 rfl rfl rfl (aj_lf hK (by simp [pOrd, *]))
          · skip
            refine x_iconst (q := 102) C 55 (n := (-1)) (v := (-1)) rfl rfl rfl ?_
            refine x_goto (t := 106) C 56 rfl (by decide) ?_
            exact x_ireturn C Z 58 rfl rfl rfl (aj_lf hK (by simp [pOrd, *]))
        · skip
          refine x_iconst (q := 94) C 51 (n := (1)) (v := (1)) rfl rfl rfl ?_
          refine x_goto (t := 98) C 52 rfl (by decide) ?_
          refine x_icmp_ne (q := 101) (t := 105) C 54 rfl (by decide) rfl (fun c6 => ?_) (fun c6 => ?_)
          · skip
            refine x_iconst (q := 106) C 57 (n := (1)) (v := (1)) rfl rfl rfl ?_
            exact x_ireturn C Z 58 rfl rfl rfl (aj_lf hK (by simp [pOrd, *]))
          · skip
            refine x_iconst (q := 102) C 55 (n := (-1)) (v := (-1)) rfl rfl rfl ?_
            refine x_goto (t := 106) C 56 rfl (by decide) ?_
            exact x_ireturn C Z 58 rfl rfl rfl (aj_lf hK (by simp [pOrd, *]))
      · skip
        refine x_iconst (q := 81) C 44 (n := (0)) (v := (0)) rfl rfl rfl ?_
        exact x_ireturn C Z 45 rfl rfl rfl (aj_lf hK (by simp [pOrd, *]))
    · skip
      refine y_iload2 (q := 49) C 26 rfl rfl ?_
      refine x_if_le (q := 52) (t := 56) C 27 rfl (by decide) rfl (fun c7 => ?_) (fun c7 => ?_)
      · skip
        refine x_iconst (q := 57) C 30 (n := (1)) (v := (1)) rfl rfl rfl ?_
        exact x_ireturn C Z 31 rfl rfl rfl (aj_lf hK (by simp [pOrd, *]))
      · skip
        refine x_iconst (q := 53) C 28 (n := (-1)) (v := (-1)) rfl rfl rfl ?_
        refine x_goto (t := 57) C 29 rfl (by decide) ?_
        exact x_ireturn C Z 31 rfl rfl rfl (aj_lf hK (by simp [pOrd, *]))
  · skip
    refine y_aload0 (q := 12) C 5 rfl rfl ?_
    refine y_cV0 (q := 15) C 6 rfl rfl ml_RX2_30 cd_X2_isUpper cv_X2_isUpper ⟨by rw [ha]; decide, by rw [ha]; rfl⟩ (by first | assumption | rfl | decide | exact hB _ (by decide)) (by decide) (by decide) (Nat.le_of_ble_eq_true rfl) (s_X2_isUpper (by first | assumption | rfl | decide | exact hB _ (by decide)) (by first | assumption | rfl | decide | exact hB _ (by decide)) ?_)
    show aj_X G 15 _ _ _ _ _ _ _ _ _
    refine x_if_eqB (q := 18) (t := 22) C 7 rfl (by decide) rfl (fun c8 => ?_) (fun c8 => ?_)
    · skip
      refine x_iconst (q := 23) C 10 (n := (-1)) (v := (-1)) rfl rfl rfl ?_
      exact x_ireturn C Z 11 rfl rfl rfl (aj_lf hK (by simp [pOrd, *]))
    · skip
      refine x_iconst (q := 19) C 8 (n := (1)) (v := (1)) rfl rfl rfl ?_
      refine x_goto (t := 23) C 9 rfl (by decide) ?_
      exact x_ireturn C Z 11 rfl rfl rfl (aj_lf hK (by simp [pOrd, *]))
