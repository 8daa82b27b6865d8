set_option maxRecDepth 100000 in
set_option maxHeartbeats 800000 in
theorem s_X3_checkCell0 {l : Launch} {I : Nat → Nat → Int32} {J : Nat → Nat → Int64} {V : Nat → Nat → Option Nat} {N : Nat → Nat} {L : List Nat} {K : aj_K} {j : Nat} (hj : j < 8) (hK : K (.inl none) I J V N L) : aj_M l yX3_checkCell (aj_wc yX3_checkCell cX3_checkCell 1 none) (aj_rm 0 0 0) [] [.int (nI j)] I J V N L K := by
  refine aj_intro (tbl := t_X3_checkCell) (lv0 := [some (.int (nI j))]) (by decide) T_X3_checkCell aj_f0 (Nat.le_of_ble_eq_true rfl) rfl ?_
  intro G hl C Z NX hnm hGL hGF
  have C : aj_C G cX3_checkCell t_X3_checkCell RX3 (aj_rm 0 0 0) 1 := C
  refine y_iload0 (q := 1) C 0 rfl rfl ?_
  refine x_if_lt (q := 4) (t := 10) C 1 rfl (by decide) rfl (fun c1 => ?_) (fun c1 => ?_)
  · skip
    exact absurd c1 (nI_pos (by omega))
  · skip
    refine y_iload0 (q := 5) C 2 rfl rfl ?_
    refine x_bipush (q := 7) C 3 (n := (8)) (v := nI 8) rfl rfl rfl ?_
    refine x_icmp_lt (q := 10) (t := 21) C 4 rfl (by decide) rfl (fun c2 => ?_) (fun c2 => ?_)
    · skip
      exact x_return C Z 10 rfl rfl (hK)
    · skip
      exact absurd (nI_lt hj (by decide)) c2
set_option maxRecDepth 100000 in
set_option maxHeartbeats 800000 in
theorem s_X3_checkBetween0 {l : Launch} {I : Nat → Nat → Int32} {J : Nat → Nat → Int64} {V : Nat → Nat → Option Nat} {N : Nat → Nat} {L : List Nat} {K : aj_K} {x a b : Int32} (h1 : a ≤ x) (h2 : x ≤ b) (hK : K (.inl none) I J V N L) : aj_M l yX3_checkBetween (aj_wc yX3_checkBetween cX3_checkBetween 3 none) (aj_rm 0 0 0) [] [.int x, .int a, .int b] I J V N L K := by
  refine aj_intro (tbl := t_X3_checkBetween) (lv0 := [some (.int x), some (.int a), some (.int b)]) (by decide) T_X3_checkBetween aj_f0 (Nat.le_of_ble_eq_true rfl) rfl ?_
  intro G hl C Z NX hnm hGL hGF
  have C : aj_C G cX3_checkBetween t_X3_checkBetween RX3 (aj_rm 0 0 0) 3 := C
  refine y_iload0 (q := 1) C 0 rfl rfl ?_
  refine y_iload1 (q := 2) C 1 rfl rfl ?_
  refine x_icmp_lt (q := 5) (t := 10) C 2 rfl (by decide) rfl (fun c1 => ?_) (fun c1 => ?_)
  · skip
    exact absurd c1 (Int32.not_lt.mpr h1)
  · skip
    refine y_iload0 (q := 6) C 3 rfl rfl ?_
    refine y_iload2 (q := 7) C 4 rfl rfl ?_
    refine x_icmp_le (q := 10) (t := 21) C 5 rfl (by decide) rfl (fun c2 => ?_) (fun c2 => ?_)
    · skip
      exact x_return C Z 11 rfl rfl (hK)
    · skip
      exact absurd h2 c2
set_option maxRecDepth 100000 in
set_option maxHeartbeats 800000 in
theorem s_X3_across0 {l : Launch} {I : Nat → Nat → Int32} {J : Nat → Nat → Int64} {V : Nat → Nat → Option Nat} {N : Nat → Nat} {L : List Nat} {K : aj_K} {j : Nat} (hj : j < 8) (hB : bV V N L) (hK : K (.inl (some (.int (I (vc V j) 0)))) I J V N L) : aj_M l yX3_across (aj_wc yX3_across cX3_across 2 (some .int)) (aj_rm 2 0 0) [] [.ref 20, .int (nI j)] I J V N L K := by
  refine aj_intro (tbl := t_X3_across) (lv0 := [some (.ref 20), some (.int (nI j))]) (by decide) T_X3_across aj_f0 (Nat.le_of_ble_eq_true rfl) rfl ?_
  intro G hl C Z NX hnm hGL hGF
  have C : aj_C G cX3_across t_X3_across RX3 (aj_rm 2 0 0) 2 := C
  refine y_iload1 (q := 1) C 0 rfl rfl ?_
  refine y_cS1 (q := 4) C 1 rfl rfl ml_RX3_37 cd_X3_checkCell sv_X3_checkCell (by decide) (by decide) (Nat.le_of_ble_eq_true rfl) (s_X3_checkCell0 hj ?_)
  show aj_X G 4 _ _ _ _ _ _ _ _ _
  refine y_aload0 (q := 5) C 2 rfl rfl ?_
  refine x_getR (q := 8) C 3 rfl rfl fl_RX3_11 (bv_4_0 hB) (fun _ _ => rfl) (by first | assumption | rfl | decide | exact bL hB _ (by decide) | exact vc3 hB (by omega) | exact vcL hB (by omega)) (by first | assumption | rfl | decide | exact bL hB _ (by decide) | exact vc3 hB (by omega) | exact vcL hB (by omega)) ?_
  refine y_iload1 (q := 9) C 4 rfl rfl ?_
  refine x_aald (q := 10) C 5 rfl rfl (by first | assumption | rfl | decide | exact bL hB _ (by decide) | exact vc3 hB (by omega) | exact vcL hB (by omega)) (by first | assumption | rfl | decide | exact bL hB _ (by decide) | exact vc3 hB (by omega) | exact vcL hB (by omega)) (by (first | rw [bn24 hB] | rw [bn40 hB] | rw [bn56 hB] | rw [bn72 hB] | rw [bn27 hB] | rw [bn43 hB] | rw [bn25 hB] | rw [bn41 hB] | rw [bn88 hB] | rw [bn104 hB] | rw [bn120 hB] | rw [bn136 hB] | rw [bn152 hB] | rw [bn168 hB]); first | assumption | exact vp_in_nI (by omega) (by decide)) (by rw [nI_clamp (by omega)]; exact vcV hB (by omega)) ?_
  refine x_getI (q := 13) C 6 rfl rfl fl_RX3_56 (fun _ _ => rfl) (by first | assumption | rfl | decide | exact bL hB _ (by decide) | exact vc3 hB (by omega) | exact vcL hB (by omega)) (by first | assumption | rfl | decide | exact bL hB _ (by decide) | exact vc3 hB (by omega) | exact vcL hB (by omega)) ?_
  exact x_ireturn C Z 7 rfl rfl rfl (hK)
set_option maxRecDepth 100000 in
set_option maxHeartbeats 800000 in
theorem s_X3_up0 {l : Launch} {I : Nat → Nat → Int32} {J : Nat → Nat → Int64} {V : Nat → Nat → Option Nat} {N : Nat → Nat} {L : List Nat} {K : aj_K} {j : Nat} (hj : j < 8) (hB : bV V N L) (hK : K (.inl (some (.int (I (vc V j) 1)))) I J V N L) : aj_M l yX3_up (aj_wc yX3_up cX3_up 2 (some .int)) (aj_rm 2 0 0) [] [.ref 20, .int (nI j)] I J V N L K := by
  refine aj_intro (tbl := t_X3_up) (lv0 := [some (.ref 20), some (.int (nI j))]) (by decide) T_X3_up aj_f0 (Nat.le_of_ble_eq_true rfl) rfl ?_
  intro G hl C Z NX hnm hGL hGF
  have C : aj_C G cX3_up t_X3_up RX3 (aj_rm 2 0 0) 2 := C
  refine y_iload1 (q := 1) C 0 rfl rfl ?_
  refine y_cS1 (q := 4) C 1 rfl rfl ml_RX3_37 cd_X3_checkCell sv_X3_checkCell (by decide) (by decide) (Nat.le_of_ble_eq_true rfl) (s_X3_checkCell0 hj ?_)
  show aj_X G 4 _ _ _ _ _ _ _ _ _
  refine y_aload0 (q := 5) C 2 rfl rfl ?_
  refine x_getR (q := 8) C 3 rfl rfl fl_RX3_11 (bv_4_0 hB) (fun _ _ => rfl) (by first | assumption | rfl | decide | exact bL hB _ (by decide) | exact vc3 hB (by omega) | exact vcL hB (by omega)) (by first | assumption | rfl | decide | exact bL hB _ (by decide) | exact vc3 hB (by omega) | exact vcL hB (by omega)) ?_
  refine y_iload1 (q := 9) C 4 rfl rfl ?_
  refine x_aald (q := 10) C 5 rfl rfl (by first | assumption | rfl | decide | exact bL hB _ (by decide) | exact vc3 hB (by omega) | exact vcL hB (by omega)) (by first | assumption | rfl | decide | exact bL hB _ (by decide) | exact vc3 hB (by omega) | exact vcL hB (by omega)) (by (first | rw [bn24 hB] | rw [bn40 hB] | rw [bn56 hB] | rw [bn72 hB] | rw [bn27 hB] | rw [bn43 hB] | rw [bn25 hB] | rw [bn41 hB] | rw [bn88 hB] | rw [bn104 hB] | rw [bn120 hB] | rw [bn136 hB] | rw [bn152 hB] | rw [bn168 hB]); first | assumption | exact vp_in_nI (by omega) (by decide)) (by rw [nI_clamp (by omega)]; exact vcV hB (by omega)) ?_
  refine x_getI (q := 13) C 6 rfl rfl fl_RX3_60 (fun _ _ => rfl) (by first | assumption | rfl | decide | exact bL hB _ (by decide) | exact vc3 hB (by omega) | exact vcL hB (by omega)) (by first | assumption | rfl | decide | exact bL hB _ (by decide) | exact vc3 hB (by omega) | exact vcL hB (by omega)) ?_
  exact x_ireturn C Z 7 rfl rfl rfl (hK)
set_option maxRecDepth 100000 in
set_option maxHeartbeats 800000 in
theorem s_X3_signs0 {l : Launch} {I : Nat → Nat → Int32} {J : Nat → Nat → Int64} {V : Nat → Nat → Option Nat} {N : Nat → Nat} {L : List Nat} {K : aj_K} {j : Nat} (hj : j < 8) (hB : bV V N L) (hK : K (.inl (some (.int (I (vc V j) 2)))) I J V N L) : aj_M l yX3_signs (aj_wc yX3_signs cX3_signs 2 (some .int)) (aj_rm 2 0 0) [] [.ref 20, .int (nI j)] I J V N L K := by
  refine aj_intro (tbl := t_X3_signs) (lv0 := [some (.ref 20), some (.int (nI j))]) (by decide) T_X3_signs aj_f0 (Nat.le_of_ble_eq_true rfl) rfl ?_
  intro G hl C Z NX hnm hGL hGF
  have C : aj_C G cX3_signs t_X3_signs RX3 (aj_rm 2 0 0) 2 := C
  refine y_iload1 (q := 1) C 0 rfl rfl ?_
  refine y_cS1 (q := 4) C 1 rfl rfl ml_RX3_37 cd_X3_checkCell sv_X3_checkCell (by decide) (by decide) (Nat.le_of_ble_eq_true rfl) (s_X3_checkCell0 hj ?_)
  show aj_X G 4 _ _ _ _ _ _ _ _ _
  refine y_aload0 (q := 5) C 2 rfl rfl ?_
  refine x_getR (q := 8) C 3 rfl rfl fl_RX3_11 (bv_4_0 hB) (fun _ _ => rfl) (by first | assumption | rfl | decide | exact bL hB _ (by decide) | exact vc3 hB (by omega) | exact vcL hB (by omega)) (by first | assumption | rfl | decide | exact bL hB _ (by decide) | exact vc3 hB (by omega) | exact vcL hB (by omega)) ?_
  refine y_iload1 (q := 9) C 4 rfl rfl ?_
  refine x_aald (q := 10) C 5 rfl rfl (by first | assumption | rfl | decide | exact bL hB _ (by decide) | exact vc3 hB (by omega) | exact vcL hB (by omega)) (by first | assumption | rfl | decide | exact bL hB _ (by decide) | exact vc3 hB (by omega) | exact vcL hB (by omega)) (by (first | rw [bn24 hB] | rw [bn40 hB] | rw [bn56 hB] | rw [bn72 hB] | rw [bn27 hB] | rw [bn43 hB] | rw [bn25 hB] | rw [bn41 hB] | rw [bn88 hB] | rw [bn104 hB] | rw [bn120 hB] | rw [bn136 hB] | rw [bn152 hB] | rw [bn168 hB]); first | assumption | exact vp_in_nI (by omega) (by decide)) (by rw [nI_clamp (by omega)]; exact vcV hB (by omega)) ?_
  refine x_getI (q := 13) C 6 rfl rfl fl_RX3_63 (fun _ _ => rfl) (by first | assumption | rfl | decide | exact bL hB _ (by decide) | exact vc3 hB (by omega) | exact vcL hB (by omega)) (by first | assumption | rfl | decide | exact bL hB _ (by decide) | exact vc3 hB (by omega) | exact vcL hB (by omega)) ?_
  exact x_ireturn C Z 7 rfl rfl rfl (hK)
set_option maxRecDepth 100000 in
set_option maxHeartbeats 800000 in
theorem s_X3_upper0 {l : Launch} {I : Nat → Nat → Int32} {J : Nat → Nat → Int64} {V : Nat → Nat → Option Nat} {N : Nat → Nat} {L : List Nat} {K : aj_K} {j : Nat} (hj : j < 8) (hB : bV V N L) (hK : K (.inl (some (.int (pFD (I (vc V j) 2) (pAng (I (vc V j) 0) (I (vc V j) 1) (I (vc V j) 2) (I (vc V j) 3)))))) I J V N L) : aj_M l yX3_upper (aj_wc yX3_upper cX3_upper 2 (some .int)) (aj_rm 4 0 0) [] [.ref 20, .int (nI j)] I J V N L K := by
  refine aj_intro (tbl := t_X3_upper) (lv0 := [some (.ref 20), some (.int (nI j))]) (by decide) T_X3_upper aj_f0 (Nat.le_of_ble_eq_true rfl) rfl ?_
  intro G hl C Z NX hnm hGL hGF
  have C : aj_C G cX3_upper t_X3_upper RX3 (aj_rm 4 0 0) 2 := C
  refine y_iload1 (q := 1) C 0 rfl rfl ?_
  refine y_cS1 (q := 4) C 1 rfl rfl ml_RX3_37 cd_X3_checkCell sv_X3_checkCell (by decide) (by decide) (Nat.le_of_ble_eq_true rfl) (s_X3_checkCell0 hj ?_)
  show aj_X G 4 _ _ _ _ _ _ _ _ _
  refine y_aload0 (q := 5) C 2 rfl rfl ?_
  refine x_getR (q := 8) C 3 rfl rfl fl_RX3_11 (bv_4_0 hB) (fun _ _ => rfl) (by first | assumption | rfl | decide | exact bL hB _ (by decide) | exact vc3 hB (by omega) | exact vcL hB (by omega)) (by first | assumption | rfl | decide | exact bL hB _ (by decide) | exact vc3 hB (by omega) | exact vcL hB (by omega)) ?_
  refine y_iload1 (q := 9) C 4 rfl rfl ?_
  refine x_aald (q := 10) C 5 rfl rfl (by first | assumption | rfl | decide | exact bL hB _ (by decide) | exact vc3 hB (by omega) | exact vcL hB (by omega)) (by first | assumption | rfl | decide | exact bL hB _ (by decide) | exact vc3 hB (by omega) | exact vcL hB (by omega)) (by (first | rw [bn24 hB] | rw [bn40 hB] | rw [bn56 hB] | rw [bn72 hB] | rw [bn27 hB] | rw [bn43 hB] | rw [bn25 hB] | rw [bn41 hB] | rw [bn88 hB] | rw [bn104 hB] | rw [bn120 hB] | rw [bn136 hB] | rw [bn152 hB] | rw [bn168 hB]); first | assumption | exact vp_in_nI (by omega) (by decide)) (by rw [nI_clamp (by omega)]; exact vcV hB (by omega)) ?_
  refine y_aload0 (q := 11) C 6 rfl rfl ?_
  refine x_getR (q := 14) C 7 rfl rfl fl_RX3_11 (bv_4_0 hB) (fun _ _ => rfl) (by first | assumption | rfl | decide | exact bL hB _ (by decide) | exact vc3 hB (by omega) | exact vcL hB (by omega)) (by first | assumption | rfl | decide | exact bL hB _ (by decide) | exact vc3 hB (by omega) | exact vcL hB (by omega)) ?_
  refine y_iload1 (q := 15) C 8 rfl rfl ?_
  refine x_aald (q := 16) C 9 rfl rfl (by first | assumption | rfl | decide | exact bL hB _ (by decide) | exact vc3 hB (by omega) | exact vcL hB (by omega)) (by first | assumption | rfl | decide | exact bL hB _ (by decide) | exact vc3 hB (by omega) | exact vcL hB (by omega)) (by (first | rw [bn24 hB] | rw [bn40 hB] | rw [bn56 hB] | rw [bn72 hB] | rw [bn27 hB] | rw [bn43 hB] | rw [bn25 hB] | rw [bn41 hB] | rw [bn88 hB] | rw [bn104 hB] | rw [bn120 hB] | rw [bn136 hB] | rw [bn152 hB] | rw [bn168 hB]); first | assumption | exact vp_in_nI (by omega) (by decide)) (by rw [nI_clamp (by omega)]; exact vcV hB (by omega)) ?_
  refine y_cV0 (q := 19) C 10 rfl rfl ml_RX3_103 cd_X2_angle cv_X2_angle (by first | exact ⟨by decide, rfl⟩ | exact vcR hB (by omega)) (by first | assumption | rfl | decide | exact bL hB _ (by decide) | exact vc3 hB (by omega) | exact vcL hB (by omega)) (by decide) (by decide) (Nat.le_of_ble_eq_true rfl) (s_X2_angle (by first | assumption | rfl | decide | exact bL hB _ (by decide) | exact vc3 hB (by omega) | exact vcL hB (by omega)) (by first | assumption | rfl | decide | exact bL hB _ (by decide) | exact vc3 hB (by omega) | exact vcL hB (by omega)) ?_)
  show aj_X G 19 _ _ _ _ _ _ _ _ _
  refine y_cV1 (q := 22) C 11 rfl rfl ml_RX3_107 cd_X2_firstDigits cv_X2_firstDigits (by first | exact ⟨by decide, rfl⟩ | exact vcR hB (by omega)) (by first | assumption | rfl | decide | exact bL hB _ (by decide) | exact vc3 hB (by omega) | exact vcL hB (by omega)) (by decide) (by decide) (Nat.le_of_ble_eq_true rfl) (s_X2_firstDigits (by first | assumption | rfl | decide | exact bL hB _ (by decide) | exact vc3 hB (by omega) | exact vcL hB (by omega)) (by first | assumption | rfl | decide | exact bL hB _ (by decide) | exact vc3 hB (by omega) | exact vcL hB (by omega)) ?_)
  show aj_X G 22 _ _ _ _ _ _ _ _ _
  exact x_ireturn C Z 12 rfl rfl rfl (hK)
set_option maxRecDepth 100000 in
set_option maxHeartbeats 800000 in
theorem s_X3_lower0 {l : Launch} {I : Nat → Nat → Int32} {J : Nat → Nat → Int64} {V : Nat → Nat → Option Nat} {N : Nat → Nat} {L : List Nat} {K : aj_K} {j : Nat} (hj : j < 8) (hB : bV V N L) (hK : K (.inl (some (.int (if pFixed (I (vc V j) 0) (I (vc V j) 1) = true then pLD (I (vc V j) 0) (I (vc V j) 1) (I (vc V j) 3) else -9)))) I J V N L) : aj_M l yX3_lower (aj_wc yX3_lower cX3_lower 2 (some .int)) (aj_rm 4 0 0) [] [.ref 20, .int (nI j)] I J V N L K := by
  refine aj_intro (tbl := t_X3_lower) (lv0 := [some (.ref 20), some (.int (nI j))]) (by decide) T_X3_lower aj_f0 (Nat.le_of_ble_eq_true rfl) rfl ?_
  intro G hl C Z NX hnm hGL hGF
  have C : aj_C G cX3_lower t_X3_lower RX3 (aj_rm 4 0 0) 2 := C
  refine y_iload1 (q := 1) C 0 rfl rfl ?_
  refine y_cS1 (q := 4) C 1 rfl rfl ml_RX3_37 cd_X3_checkCell sv_X3_checkCell (by decide) (by decide) (Nat.le_of_ble_eq_true rfl) (s_X3_checkCell0 hj ?_)
  show aj_X G 4 _ _ _ _ _ _ _ _ _
  refine y_aload0 (q := 5) C 2 rfl rfl ?_
  refine x_getR (q := 8) C 3 rfl rfl fl_RX3_11 (bv_4_0 hB) (fun _ _ => rfl) (by first | assumption | rfl | decide | exact bL hB _ (by decide) | exact vc3 hB (by omega) | exact vcL hB (by omega)) (by first | assumption | rfl | decide | exact bL hB _ (by decide) | exact vc3 hB (by omega) | exact vcL hB (by omega)) ?_
  refine y_iload1 (q := 9) C 4 rfl rfl ?_
  refine x_aald (q := 10) C 5 rfl rfl (by first | assumption | rfl | decide | exact bL hB _ (by decide) | exact vc3 hB (by omega) | exact vcL hB (by omega)) (by first | assumption | rfl | decide | exact bL hB _ (by decide) | exact vc3 hB (by omega) | exact vcL hB (by omega)) (by (first | rw [bn24 hB] | rw [bn40 hB] | rw [bn56 hB] | rw [bn72 hB] | rw [bn27 hB] | rw [bn43 hB] | rw [bn25 hB] | rw [bn41 hB] | rw [bn88 hB] | rw [bn104 hB] | rw [bn120 hB] | rw [bn136 hB] | rw [bn152 hB] | rw [bn168 hB]); first | assumption | exact vp_in_nI (by omega) (by decide)) (by rw [nI_clamp (by omega)]; exact vcV hB (by omega)) ?_
  refine y_cV0 (q := 13) C 6 rfl rfl ml_RX3_111 cd_X2_isFixed cv_X2_isFixed (by first | exact ⟨by decide, rfl⟩ | exact vcR hB (by omega)) (by first | assumption | rfl | decide | exact bL hB _ (by decide) | exact vc3 hB (by omega) | exact vcL hB (by omega)) (by decide) (by decide) (Nat.le_of_ble_eq_true rfl) (s_X2_isFixed (by first | assumption | rfl | decide | exact bL hB _ (by decide) | exact vc3 hB (by omega) | exact vcL hB (by omega)) (by first | assumption | rfl | decide | exact bL hB _ (by decide) | exact vc3 hB (by omega) | exact vcL hB (by omega)) ?_)
  show aj_X G 13 _ _ _ _ _ _ _ _ _
  refine x_if_eqB (q := 16) (t := 28) C 7 rfl (by decide) rfl (fun c1 => ?_) (fun c1 => ?_)
  · skip
    refine x_bipush (q := 30) C 14 (n := (-9)) (v := (-9)) rfl rfl rfl ?_
    exact x_ireturn C Z 15 rfl rfl rfl (aj_lf hK (by simp [*]))
  · skip
    refine y_aload0 (q := 17) C 8 rfl rfl ?_
    refine x_getR (q := 20) C 9 rfl rfl fl_RX3_11 (bv_4_0 hB) (fun _ _ => rfl) (by first | assumption | rfl | decide | exact bL hB _ (by decide) | exact vc3 hB (by omega) | exact vcL hB (by omega)) (by first | assumption | rfl | decide | exact bL hB _ (by decide) | exact vc3 hB (by omega) | exact vcL hB (by omega)) ?_
    refine y_iload1 (q := 21) C 10 rfl rfl ?_
    refine x_aald (q := 22) C 11 rfl rfl (by first | assumption | rfl | decide | exact bL hB _ (by decide) | exact vc3 hB (by omega) | exact vcL hB (by omega)) (by first | assumption | rfl | decide | exact bL hB _ (by decide) | exact vc3 hB (by omega) | exact vcL hB (by omega)) (by (first | rw [bn24 hB] | rw [bn40 hB] | rw [bn56 hB] | rw [bn72 hB] | rw [bn27 hB] | rw [bn43 hB] | rw [bn25 hB] | rw [bn41 hB] | rw [bn88 hB] | rw [bn104 hB] | rw [bn120 hB] | rw [bn136 hB] | rw [bn152 hB] | rw [bn168 hB]); first | assumption | exact vp_in_nI (by omega) (by decide)) (by rw [nI_clamp (by omega)]; exact vcV hB (by omega)) ?_
    refine y_cV0 (q := 25) C 12 rfl rfl ml_RX3_115 cd_X2_lastDigits cv_X2_lastDigits (by first | exact ⟨by decide, rfl⟩ | exact vcR hB (by omega)) (by first | assumption | rfl | decide | exact bL hB _ (by decide) | exact vc3 hB (by omega) | exact vcL hB (by omega)) (by decide) (by decide) (Nat.le_of_ble_eq_true rfl) (s_X2_lastDigits (by first | assumption | rfl | decide | exact bL hB _ (by decide) | exact vc3 hB (by omega) | exact vcL hB (by omega)) (by first | assumption | rfl | decide | exact bL hB _ (by decide) | exact vc3 hB (by omega) | exact vcL hB (by omega)) ?_)
    show aj_X G 25 _ _ _ _ _ _ _ _ _
    refine x_goto (t := 30) C 13 rfl (by decide) ?_
    exact x_ireturn C Z 15 rfl rfl rfl (aj_lf hK (by simp [*]))
set_option maxRecDepth 100000 in
set_option maxHeartbeats 800000 in
theorem s_X3_grade0 {l : Launch} {I : Nat → Nat → Int32} {J : Nat → Nat → Int64} {V : Nat → Nat → Option Nat} {N : Nat → Nat} {L : List Nat} {K : aj_K} {j : Nat} (hj : j < 8) (hB : bV V N L) (hK : K (.inl (some (.int (pRD (pAng (I (vc V j) 0) (I (vc V j) 1) (I (vc V j) 2) (I (vc V j) 3)) 29)))) I J V N L) : aj_M l yX3_grade (aj_wc yX3_grade cX3_grade 3 (some .int)) (aj_rm 4 0 0) [] [.ref 20, .int (nI j), .int 29] I J V N L K := by
  refine aj_intro (tbl := t_X3_grade) (lv0 := [some (.ref 20), some (.int (nI j)), some (.int 29)]) (by decide) T_X3_grade aj_f0 (Nat.le_of_ble_eq_true rfl) rfl ?_
  intro G hl C Z NX hnm hGL hGF
  have C : aj_C G cX3_grade t_X3_grade RX3 (aj_rm 4 0 0) 3 := C
  refine y_iload1 (q := 1) C 0 rfl rfl ?_
  refine y_cS1 (q := 4) C 1 rfl rfl ml_RX3_37 cd_X3_checkCell sv_X3_checkCell (by decide) (by decide) (Nat.le_of_ble_eq_true rfl) (s_X3_checkCell0 hj ?_)
  show aj_X G 4 _ _ _ _ _ _ _ _ _
  refine y_iload2 (q := 5) C 2 rfl rfl ?_
  refine x_iconst (q := 6) C 3 (n := (0)) (v := (0)) rfl rfl rfl ?_
  refine x_bipush (q := 8) C 4 (n := (29)) (v := (29)) rfl rfl rfl ?_
  refine y_cS3 (q := 11) C 5 rfl rfl ml_RX3_41 cd_X3_checkBetween sv_X3_checkBetween (by decide) (by decide) (Nat.le_of_ble_eq_true rfl) (s_X3_checkBetween0 (by decide) (by decide) ?_)
  show aj_X G 11 _ _ _ _ _ _ _ _ _
  refine y_aload0 (q := 12) C 6 rfl rfl ?_
  refine x_getR (q := 15) C 7 rfl rfl fl_RX3_11 (bv_4_0 hB) (fun _ _ => rfl) (by first | assumption | rfl | decide | exact bL hB _ (by decide) | exact vc3 hB (by omega) | exact vcL hB (by omega)) (by first | assumption | rfl | decide | exact bL hB _ (by decide) | exact vc3 hB (by omega) | exact vcL hB (by omega)) ?_
  refine y_iload1 (q := 16) C 8 rfl rfl ?_
  refine x_aald (q := 17) C 9 rfl rfl (by first | assumption | rfl | decide | exact bL hB _ (by decide) | exact vc3 hB (by omega) | exact vcL hB (by omega)) (by first | assumption | rfl | decide | exact bL hB _ (by decide) | exact vc3 hB (by omega) | exact vcL hB (by omega)) (by (first | rw [bn24 hB] | rw [bn40 hB] | rw [bn56 hB] | rw [bn72 hB] | rw [bn27 hB] | rw [bn43 hB] | rw [bn25 hB] | rw [bn41 hB] | rw [bn88 hB] | rw [bn104 hB] | rw [bn120 hB] | rw [bn136 hB] | rw [bn152 hB] | rw [bn168 hB]); first | assumption | exact vp_in_nI (by omega) (by decide)) (by rw [nI_clamp (by omega)]; exact vcV hB (by omega)) ?_
  refine y_cV0 (q := 20) C 10 rfl rfl ml_RX3_103 cd_X2_angle cv_X2_angle (by first | exact ⟨by decide, rfl⟩ | exact vcR hB (by omega)) (by first | assumption | rfl | decide | exact bL hB _ (by decide) | exact vc3 hB (by omega) | exact vcL hB (by omega)) (by decide) (by decide) (Nat.le_of_ble_eq_true rfl) (s_X2_angle (by first | assumption | rfl | decide | exact bL hB _ (by decide) | exact vc3 hB (by omega) | exact vcL hB (by omega)) (by first | assumption | rfl | decide | exact bL hB _ (by decide) | exact vc3 hB (by omega) | exact vcL hB (by omega)) ?_)
  show aj_X G 20 _ _ _ _ _ _ _ _ _
  refine y_iload2 (q := 21) C 11 rfl rfl ?_
  refine y_cS2 (q := 24) C 12 rfl rfl ml_RX3_118 cd_X0_roundDown sv_X0_roundDown (by decide) (by decide) (Nat.le_of_ble_eq_true rfl) (s_X0_roundDown ?_)
  show aj_X G 24 _ _ _ _ _ _ _ _ _
  exact x_ireturn C Z 13 rfl rfl rfl (hK)
set_option maxRecDepth 100000 in
set_option maxHeartbeats 800000 in
theorem s_X3_order0 {l : Launch} {I : Nat → Nat → Int32} {J : Nat → Nat → Int64} {V : Nat → Nat → Option Nat} {N : Nat → Nat} {L : List Nat} {K : aj_K} {i j : Nat} (hi : i < 8) (hj : j < 8) (hB : bV V N L) (hK : K (.inl (some (.int (pOrd (I (vc V i) 3) (I (vc V i) 1) (I (vc V i) 2) (I (vc V j) 3) (I (vc V j) 1) (I (vc V j) 2))))) I J V N L) : aj_M l yX3_order (aj_wc yX3_order cX3_order 4 (some .int)) (aj_rm 4 0 0) [] [.ref 20, .int (nI i), .int (nI j), .int 0] I J V N L K := by
  refine aj_intro (tbl := t_X3_order) (lv0 := [some (.ref 20), some (.int (nI i)), some (.int (nI j)), some (.int 0)]) (by decide) T_X3_order aj_f0 (Nat.le_of_ble_eq_true rfl) rfl ?_
  intro G hl C Z NX hnm hGL hGF
  have C : aj_C G cX3_order t_X3_order RX3 (aj_rm 4 0 0) 4 := C
  refine y_iload1 (q := 1) C 0 rfl rfl ?_
  refine y_cS1 (q := 4) C 1 rfl rfl ml_RX3_37 cd_X3_checkCell sv_X3_checkCell (by decide) (by decide) (Nat.le_of_ble_eq_true rfl) (s_X3_checkCell0 hi ?_)
  show aj_X G 4 _ _ _ _ _ _ _ _ _
  refine y_iload2 (q := 5) C 2 rfl rfl ?_
  refine y_cS1 (q := 8) C 3 rfl rfl ml_RX3_37 cd_X3_checkCell sv_X3_checkCell (by decide) (by decide) (Nat.le_of_ble_eq_true rfl) (s_X3_checkCell0 hj ?_)
  show aj_X G 8 _ _ _ _ _ _ _ _ _
  refine y_iload3 (q := 9) C 4 rfl rfl ?_
  refine x_iconst (q := 10) C 5 (n := (0)) (v := (0)) rfl rfl rfl ?_
  refine x_iconst (q := 11) C 6 (n := (2)) (v := (2)) rfl rfl rfl ?_
  refine y_cS3 (q := 14) C 7 rfl rfl ml_RX3_41 cd_X3_checkBetween sv_X3_checkBetween (by decide) (by decide) (Nat.le_of_ble_eq_true rfl) (s_X3_checkBetween0 (by decide) (by decide) ?_)
  show aj_X G 14 _ _ _ _ _ _ _ _ _
  refine y_aload0 (q := 15) C 8 rfl rfl ?_
  refine x_getR (q := 18) C 9 rfl rfl fl_RX3_11 (bv_4_0 hB) (fun _ _ => rfl) (by first | assumption | rfl | decide | exact bL hB _ (by decide) | exact vc3 hB (by omega) | exact vcL hB (by omega)) (by first | assumption | rfl | decide | exact bL hB _ (by decide) | exact vc3 hB (by omega) | exact vcL hB (by omega)) ?_
  refine y_iload1 (q := 19) C 10 rfl rfl ?_
  refine x_aald (q := 20) C 11 rfl rfl (by first | assumption | rfl | decide | exact bL hB _ (by decide) | exact vc3 hB (by omega) | exact vcL hB (by omega)) (by first | assumption | rfl | decide | exact bL hB _ (by decide) | exact vc3 hB (by omega) | exact vcL hB (by omega)) (by (first | rw [bn24 hB] | rw [bn40 hB] | rw [bn56 hB] | rw [bn72 hB] | rw [bn27 hB] | rw [bn43 hB] | rw [bn25 hB] | rw [bn41 hB] | rw [bn88 hB] | rw [bn104 hB] | rw [bn120 hB] | rw [bn136 hB] | rw [bn152 hB] | rw [bn168 hB]); first | assumption | exact vp_in_nI (by omega) (by decide)) (by rw [nI_clamp (by omega)]; exact vcV hB (by omega)) ?_
  refine y_aload0 (q := 21) C 12 rfl rfl ?_
  refine x_getR (q := 24) C 13 rfl rfl fl_RX3_11 (bv_4_0 hB) (fun _ _ => rfl) (by first | assumption | rfl | decide | exact bL hB _ (by decide) | exact vc3 hB (by omega) | exact vcL hB (by omega)) (by first | assumption | rfl | decide | exact bL hB _ (by decide) | exact vc3 hB (by omega) | exact vcL hB (by omega)) ?_
  refine y_iload2 (q := 25) C 14 rfl rfl ?_
  refine x_aald (q := 26) C 15 rfl rfl (by first | assumption | rfl | decide | exact bL hB _ (by decide) | exact vc3 hB (by omega) | exact vcL hB (by omega)) (by first | assumption | rfl | decide | exact bL hB _ (by decide) | exact vc3 hB (by omega) | exact vcL hB (by omega)) (by (first | rw [bn24 hB] | rw [bn40 hB] | rw [bn56 hB] | rw [bn72 hB] | rw [bn27 hB] | rw [bn43 hB] | rw [bn25 hB] | rw [bn41 hB] | rw [bn88 hB] | rw [bn104 hB] | rw [bn120 hB] | rw [bn136 hB] | rw [bn152 hB] | rw [bn168 hB]); first | assumption | exact vp_in_nI (by omega) (by decide)) (by rw [nI_clamp (by omega)]; exact vcV hB (by omega)) ?_
  refine y_cV1 (q := 29) C 16 rfl rfl ml_RX3_88 cd_X2_orderTo cv_X2_orderTo (by first | exact ⟨by decide, rfl⟩ | exact vcR hB (by omega)) (by first | assumption | rfl | decide | exact bL hB _ (by decide) | exact vc3 hB (by omega) | exact vcL hB (by omega)) (by decide) (by decide) (Nat.le_of_ble_eq_true rfl) (s_X2_orderTo (by first | assumption | rfl | decide | exact bL hB _ (by decide) | exact vc3 hB (by omega) | exact vcL hB (by omega)) (by first | assumption | rfl | decide | exact bL hB _ (by decide) | exact vc3 hB (by omega) | exact vcL hB (by omega)) (by first | assumption | rfl | decide | exact bL hB _ (by decide) | exact vc3 hB (by omega) | exact vcL hB (by omega)) (by first | assumption | rfl | decide | exact bL hB _ (by decide) | exact vc3 hB (by omega) | exact vcL hB (by omega)) ?_)
  show aj_X G 29 _ _ _ _ _ _ _ _ _
  exact x_ireturn C Z 17 rfl rfl rfl (hK)
set_option maxRecDepth 100000 in
set_option maxHeartbeats 800000 in
theorem s_X3_like0 {l : Launch} {I : Nat → Nat → Int32} {J : Nat → Nat → Int64} {V : Nat → Nat → Option Nat} {N : Nat → Nat} {L : List Nat} {K : aj_K} {i j : Nat} (hi : i < 8) (hj : j < 8) (hB : bV V N L) (hK : K (.inl (some (.int (bI (decide (pOrd (I (vc V i) 3) (I (vc V i) 1) (I (vc V i) 2) (I (vc V j) 3) (I (vc V j) 1) (I (vc V j) 2) = 0) || (pNoSize (I (vc V i) 1) (I (vc V i) 3) && pNoSize (I (vc V j) 1) (I (vc V j) 3))))))) I J V N L) : aj_M l yX3_like (aj_wc yX3_like cX3_like 3 (some .boolean)) (aj_rm 4 0 0) [] [.ref 20, .int (nI i), .int (nI j)] I J V N L K := by
  refine aj_intro (tbl := t_X3_like) (lv0 := [some (.ref 20), some (.int (nI i)), some (.int (nI j))]) (by decide) T_X3_like aj_f0 (Nat.le_of_ble_eq_true rfl) rfl ?_
  intro G hl C Z NX hnm hGL hGF
  have C : aj_C G cX3_like t_X3_like RX3 (aj_rm 4 0 0) 3 := C
  refine y_iload1 (q := 1) C 0 rfl rfl ?_
  refine y_cS1 (q := 4) C 1 rfl rfl ml_RX3_37 cd_X3_checkCell sv_X3_checkCell (by decide) (by decide) (Nat.le_of_ble_eq_true rfl) (s_X3_checkCell0 hi ?_)
  show aj_X G 4 _ _ _ _ _ _ _ _ _
  refine y_iload2 (q := 5) C 2 rfl rfl ?_
  refine y_cS1 (q := 8) C 3 rfl rfl ml_RX3_37 cd_X3_checkCell sv_X3_checkCell (by decide) (by decide) (Nat.le_of_ble_eq_true rfl) (s_X3_checkCell0 hj ?_)
  show aj_X G 8 _ _ _ _ _ _ _ _ _
  refine y_aload0 (q := 9) C 4 rfl rfl ?_
  refine x_getR (q := 12) C 5 rfl rfl fl_RX3_11 (bv_4_0 hB) (fun _ _ => rfl) (by first | assumption | rfl | decide | exact bL hB _ (by decide) | exact vc3 hB (by omega) | exact vcL hB (by omega)) (by first | assumption | rfl | decide | exact bL hB _ (by decide) | exact vc3 hB (by omega) | exact vcL hB (by omega)) ?_
  refine y_iload1 (q := 13) C 6 rfl rfl ?_
  refine x_aald (q := 14) C 7 rfl rfl (by first | assumption | rfl | decide | exact bL hB _ (by decide) | exact vc3 hB (by omega) | exact vcL hB (by omega)) (by first | assumption | rfl | decide | exact bL hB _ (by decide) | exact vc3 hB (by omega) | exact vcL hB (by omega)) (by (first | rw [bn24 hB] | rw [bn40 hB] | rw [bn56 hB] | rw [bn72 hB] | rw [bn27 hB] | rw [bn43 hB] | rw [bn25 hB] | rw [bn41 hB] | rw [bn88 hB] | rw [bn104 hB] | rw [bn120 hB] | rw [bn136 hB] | rw [bn152 hB] | rw [bn168 hB]); first | assumption | exact vp_in_nI (by omega) (by decide)) (by rw [nI_clamp (by omega)]; exact vcV hB (by omega)) ?_
  refine y_aload0 (q := 15) C 8 rfl rfl ?_
  refine x_getR (q := 18) C 9 rfl rfl fl_RX3_11 (bv_4_0 hB) (fun _ _ => rfl) (by first | assumption | rfl | decide | exact bL hB _ (by decide) | exact vc3 hB (by omega) | exact vcL hB (by omega)) (by first | assumption | rfl | decide | exact bL hB _ (by decide) | exact vc3 hB (by omega) | exact vcL hB (by omega)) ?_
  refine y_iload2 (q := 19) C 10 rfl rfl ?_
  refine x_aald (q := 20) C 11 rfl rfl (by first | assumption | rfl | decide | exact bL hB _ (by decide) | exact vc3 hB (by omega) | exact vcL hB (by omega)) (by first | assumption | rfl | decide | exact bL hB _ (by decide) | exact vc3 hB (by omega) | exact vcL hB (by omega)) (by (first | rw [bn24 hB] | rw [bn40 hB] | rw [bn56 hB] | rw [bn72 hB] | rw [bn27 hB] | rw [bn43 hB] | rw [bn25 hB] | rw [bn41 hB] | rw [bn88 hB] | rw [bn104 hB] | rw [bn120 hB] | rw [bn136 hB] | rw [bn152 hB] | rw [bn168 hB]); first | assumption | exact vp_in_nI (by omega) (by decide)) (by rw [nI_clamp (by omega)]; exact vcV hB (by omega)) ?_
  refine y_cV1 (q := 23) C 12 rfl rfl ml_RX3_88 cd_X2_orderTo cv_X2_orderTo (by first | exact ⟨by decide, rfl⟩ | exact vcR hB (by omega)) (by first | assumption | rfl | decide | exact bL hB _ (by decide) | exact vc3 hB (by omega) | exact vcL hB (by omega)) (by decide) (by decide) (Nat.le_of_ble_eq_true rfl) (s_X2_orderTo (by first | assumption | rfl | decide | exact bL hB _ (by decide) | exact vc3 hB (by omega) | exact vcL hB (by omega)) (by first | assumption | rfl | decide | exact bL hB _ (by decide) | exact vc3 hB (by omega) | exact vcL hB (by omega)) (by first | assumption | rfl | decide | exact bL hB _ (by decide) | exact vc3 hB (by omega) | exact vcL hB (by omega)) (by first | assumption | rfl | decide | exact bL hB _ (by decide) | exact vc3 hB (by omega) | exact vcL hB (by omega)) ?_)
  show aj_X G 23 _ _ _ _ _ _ _ _ _
  refine x_if_eq (q := 26) (t := 50) C 13 rfl (by decide) rfl (fun c1 => ?_) (fun c1 => ?_)
  · skip
    refine x_iconst (q := 51) C 26 (n := (1)) (v := (1)) rfl rfl rfl ?_
    refine x_goto (t := 55) C 27 rfl (by decide) ?_
    exact x_ireturn C Z 29 rfl rfl rfl (aj_lf hK (by clear C Z hK; simp_all [bI_0, bI_1]))
  · skip
    refine y_aload0 (q := 27) C 14 rfl rfl ?_
    refine x_getR (q := 30) C 15 rfl rfl fl_RX3_11 (bv_4_0 hB) (fun _ _ => rfl) (by first | assumption | rfl | decide | exact bL hB _ (by decide) | exact vc3 hB (by omega) | exact vcL hB (by omega)) (by first | assumption | rfl | decide | exact bL hB _ (by decide) | exact vc3 hB (by omega) | exact vcL hB (by omega)) ?_
    refine y_iload1 (q := 31) C 16 rfl rfl ?_
    refine x_aald (q := 32) C 17 rfl rfl (by first | assumption | rfl | decide | exact bL hB _ (by decide) | exact vc3 hB (by omega) | exact vcL hB (by omega)) (by first | assumption | rfl | decide | exact bL hB _ (by decide) | exact vc3 hB (by omega) | exact vcL hB (by omega)) (by (first | rw [bn24 hB] | rw [bn40 hB] | rw [bn56 hB] | rw [bn72 hB] | rw [bn27 hB] | rw [bn43 hB] | rw [bn25 hB] | rw [bn41 hB] | rw [bn88 hB] | rw [bn104 hB] | rw [bn120 hB] | rw [bn136 hB] | rw [bn152 hB] | rw [bn168 hB]); first | assumption | exact vp_in_nI (by omega) (by decide)) (by rw [nI_clamp (by omega)]; exact vcV hB (by omega)) ?_
    refine y_cV0 (q := 35) C 18 rfl rfl ml_RX3_124 cd_X2_isOfNoSize cv_X2_isOfNoSize (by first | exact ⟨by decide, rfl⟩ | exact vcR hB (by omega)) (by first | assumption | rfl | decide | exact bL hB _ (by decide) | exact vc3 hB (by omega) | exact vcL hB (by omega)) (by decide) (by decide) (Nat.le_of_ble_eq_true rfl) (s_X2_isOfNoSize (by first | assumption | rfl | decide | exact bL hB _ (by decide) | exact vc3 hB (by omega) | exact vcL hB (by omega)) (by first | assumption | rfl | decide | exact bL hB _ (by decide) | exact vc3 hB (by omega) | exact vcL hB (by omega)) ?_)
    show aj_X G 35 _ _ _ _ _ _ _ _ _
    refine x_if_eqB (q := 38) (t := 54) C 19 rfl (by decide) rfl (fun c2 => ?_) (fun c2 => ?_)
    · skip
      refine x_iconst (q := 55) C 28 (n := (0)) (v := (0)) rfl rfl rfl ?_
      exact x_ireturn C Z 29 rfl rfl rfl (aj_lf hK (by clear C Z hK; simp_all [bI_0, bI_1]))
    · skip
      refine y_aload0 (q := 39) C 20 rfl rfl ?_
      refine x_getR (q := 42) C 21 rfl rfl fl_RX3_11 (bv_4_0 hB) (fun _ _ => rfl) (by first | assumption | rfl | decide | exact bL hB _ (by decide) | exact vc3 hB (by omega) | exact vcL hB (by omega)) (by first | assumption | rfl | decide | exact bL hB _ (by decide) | exact vc3 hB (by omega) | exact vcL hB (by omega)) ?_
      refine y_iload2 (q := 43) C 22 rfl rfl ?_
      refine x_aald (q := 44) C 23 rfl rfl (by first | assumption | rfl | decide | exact bL hB _ (by decide) | exact vc3 hB (by omega) | exact vcL hB (by omega)) (by first | assumption | rfl | decide | exact bL hB _ (by decide) | exact vc3 hB (by omega) | exact vcL hB (by omega)) (by (first | rw [bn24 hB] | rw [bn40 hB] | rw [bn56 hB] | rw [bn72 hB] | rw [bn27 hB] | rw [bn43 hB] | rw [bn25 hB] | rw [bn41 hB] | rw [bn88 hB] | rw [bn104 hB] | rw [bn120 hB] | rw [bn136 hB] | rw [bn152 hB] | rw [bn168 hB]); first | assumption | exact vp_in_nI (by omega) (by decide)) (by rw [nI_clamp (by omega)]; exact vcV hB (by omega)) ?_
      refine y_cV0 (q := 47) C 24 rfl rfl ml_RX3_124 cd_X2_isOfNoSize cv_X2_isOfNoSize (by first | exact ⟨by decide, rfl⟩ | exact vcR hB (by omega)) (by first | assumption | rfl | decide | exact bL hB _ (by decide) | exact vc3 hB (by omega) | exact vcL hB (by omega)) (by decide) (by decide) (Nat.le_of_ble_eq_true rfl) (s_X2_isOfNoSize (by first | assumption | rfl | decide | exact bL hB _ (by decide) | exact vc3 hB (by omega) | exact vcL hB (by omega)) (by first | assumption | rfl | decide | exact bL hB _ (by decide) | exact vc3 hB (by omega) | exact vcL hB (by omega)) ?_)
      show aj_X G 47 _ _ _ _ _ _ _ _ _
      refine x_if_eqB (q := 50) (t := 54) C 25 rfl (by decide) rfl (fun c3 => ?_) (fun c3 => ?_)
      · skip
        refine x_iconst (q := 55) C 28 (n := (0)) (v := (0)) rfl rfl rfl ?_
        exact x_ireturn C Z 29 rfl rfl rfl (aj_lf hK (by clear C Z hK; simp_all [bI_0, bI_1]))
      · skip
        refine x_iconst (q := 51) C 26 (n := (1)) (v := (1)) rfl rfl rfl ?_
        refine x_goto (t := 55) C 27 rfl (by decide) ?_
        exact x_ireturn C Z 29 rfl rfl rfl (aj_lf hK (by clear C Z hK; simp_all [bI_0, bI_1]))
set_option maxRecDepth 100000 in
set_option maxHeartbeats 800000 in
theorem s_X3_side0 {l : Launch} {I : Nat → Nat → Int32} {J : Nat → Nat → Int64} {V : Nat → Nat → Option Nat} {N : Nat → Nat} {L : List Nat} {K : aj_K} {i j : Nat} (hi : i < 8) (hj : j < 8) (hB : bV V N L) (hK : K (.inl (some (.int (if pNull (I (vc V i) 0) (I (vc V i) 1) = true then -9 else if pNull (I (vc V j) 0) (I (vc V j) 1) = true then -9 else pSgn (pCross (I (vc V i) 0) (I (vc V i) 1) (I (vc V j) 0) (I (vc V j) 1)).toInt64)))) I J V N L) : aj_M l yX3_side (aj_wc yX3_side cX3_side 3 (some .int)) (aj_rm 4 0 0) [] [.ref 20, .int (nI i), .int (nI j)] I J V N L K := by
  refine aj_intro (tbl := t_X3_side) (lv0 := [some (.ref 20), some (.int (nI i)), some (.int (nI j))]) (by decide) T_X3_side aj_f0 (Nat.le_of_ble_eq_true rfl) rfl ?_
  intro G hl C Z NX hnm hGL hGF
  have C : aj_C G cX3_side t_X3_side RX3 (aj_rm 4 0 0) 3 := C
  refine y_iload1 (q := 1) C 0 rfl rfl ?_
  refine y_cS1 (q := 4) C 1 rfl rfl ml_RX3_37 cd_X3_checkCell sv_X3_checkCell (by decide) (by decide) (Nat.le_of_ble_eq_true rfl) (s_X3_checkCell0 hi ?_)
  show aj_X G 4 _ _ _ _ _ _ _ _ _
  refine y_iload2 (q := 5) C 2 rfl rfl ?_
  refine y_cS1 (q := 8) C 3 rfl rfl ml_RX3_37 cd_X3_checkCell sv_X3_checkCell (by decide) (by decide) (Nat.le_of_ble_eq_true rfl) (s_X3_checkCell0 hj ?_)
  show aj_X G 8 _ _ _ _ _ _ _ _ _
  refine y_aload0 (q := 9) C 4 rfl rfl ?_
  refine x_getR (q := 12) C 5 rfl rfl fl_RX3_11 (bv_4_0 hB) (fun _ _ => rfl) (by first | assumption | rfl | decide | exact bL hB _ (by decide) | exact vc3 hB (by omega) | exact vcL hB (by omega)) (by first | assumption | rfl | decide | exact bL hB _ (by decide) | exact vc3 hB (by omega) | exact vcL hB (by omega)) ?_
  refine y_iload1 (q := 13) C 6 rfl rfl ?_
  refine x_aald (q := 14) C 7 rfl rfl (by first | assumption | rfl | decide | exact bL hB _ (by decide) | exact vc3 hB (by omega) | exact vcL hB (by omega)) (by first | assumption | rfl | decide | exact bL hB _ (by decide) | exact vc3 hB (by omega) | exact vcL hB (by omega)) (by (first | rw [bn24 hB] | rw [bn40 hB] | rw [bn56 hB] | rw [bn72 hB] | rw [bn27 hB] | rw [bn43 hB] | rw [bn25 hB] | rw [bn41 hB] | rw [bn88 hB] | rw [bn104 hB] | rw [bn120 hB] | rw [bn136 hB] | rw [bn152 hB] | rw [bn168 hB]); first | assumption | exact vp_in_nI (by omega) (by decide)) (by rw [nI_clamp (by omega)]; exact vcV hB (by omega)) ?_
  refine y_cV0 (q := 17) C 8 rfl rfl ml_RX3_127 cd_X2_isNull cv_X2_isNull (by first | exact ⟨by decide, rfl⟩ | exact vcR hB (by omega)) (by first | assumption | rfl | decide | exact bL hB _ (by decide) | exact vc3 hB (by omega) | exact vcL hB (by omega)) (by decide) (by decide) (Nat.le_of_ble_eq_true rfl) (s_X2_isNull (by first | assumption | rfl | decide | exact bL hB _ (by decide) | exact vc3 hB (by omega) | exact vcL hB (by omega)) (by first | assumption | rfl | decide | exact bL hB _ (by decide) | exact vc3 hB (by omega) | exact vcL hB (by omega)) ?_)
  show aj_X G 17 _ _ _ _ _ _ _ _ _
  refine x_if_neB (q := 20) (t := 32) C 9 rfl (by decide) rfl (fun c1 => ?_) (fun c1 => ?_)
  · skip
    refine x_bipush (q := 34) C 16 (n := (-9)) (v := (-9)) rfl rfl rfl ?_
    refine x_goto (t := 52) C 17 rfl (by decide) ?_
    exact x_ireturn C Z 27 rfl rfl rfl (aj_lf hK (by simp [*]))
  · skip
    refine y_aload0 (q := 21) C 10 rfl rfl ?_
    refine x_getR (q := 24) C 11 rfl rfl fl_RX3_11 (bv_4_0 hB) (fun _ _ => rfl) (by first | assumption | rfl | decide | exact bL hB _ (by decide) | exact vc3 hB (by omega) | exact vcL hB (by omega)) (by first | assumption | rfl | decide | exact bL hB _ (by decide) | exact vc3 hB (by omega) | exact vcL hB (by omega)) ?_
    refine y_iload2 (q := 25) C 12 rfl rfl ?_
    refine x_aald (q := 26) C 13 rfl rfl (by first | assumption | rfl | decide | exact bL hB _ (by decide) | exact vc3 hB (by omega) | exact vcL hB (by omega)) (by first | assumption | rfl | decide | exact bL hB _ (by decide) | exact vc3 hB (by omega) | exact vcL hB (by omega)) (by (first | rw [bn24 hB] | rw [bn40 hB] | rw [bn56 hB] | rw [bn72 hB] | rw [bn27 hB] | rw [bn43 hB] | rw [bn25 hB] | rw [bn41 hB] | rw [bn88 hB] | rw [bn104 hB] | rw [bn120 hB] | rw [bn136 hB] | rw [bn152 hB] | rw [bn168 hB]); first | assumption | exact vp_in_nI (by omega) (by decide)) (by rw [nI_clamp (by omega)]; exact vcV hB (by omega)) ?_
    refine y_cV0 (q := 29) C 14 rfl rfl ml_RX3_127 cd_X2_isNull cv_X2_isNull (by first | exact ⟨by decide, rfl⟩ | exact vcR hB (by omega)) (by first | assumption | rfl | decide | exact bL hB _ (by decide) | exact vc3 hB (by omega) | exact vcL hB (by omega)) (by decide) (by decide) (Nat.le_of_ble_eq_true rfl) (s_X2_isNull (by first | assumption | rfl | decide | exact bL hB _ (by decide) | exact vc3 hB (by omega) | exact vcL hB (by omega)) (by first | assumption | rfl | decide | exact bL hB _ (by decide) | exact vc3 hB (by omega) | exact vcL hB (by omega)) ?_)
    show aj_X G 29 _ _ _ _ _ _ _ _ _
    refine x_if_eqB (q := 32) (t := 37) C 15 rfl (by decide) rfl (fun c2 => ?_) (fun c2 => ?_)
    · skip
      refine y_aload0 (q := 38) C 18 rfl rfl ?_
      refine x_getR (q := 41) C 19 rfl rfl fl_RX3_11 (bv_4_0 hB) (fun _ _ => rfl) (by first | assumption | rfl | decide | exact bL hB _ (by decide) | exact vc3 hB (by omega) | exact vcL hB (by omega)) (by first | assumption | rfl | decide | exact bL hB _ (by decide) | exact vc3 hB (by omega) | exact vcL hB (by omega)) ?_
      refine y_iload1 (q := 42) C 20 rfl rfl ?_
      refine x_aald (q := 43) C 21 rfl rfl (by first | assumption | rfl | decide | exact bL hB _ (by decide) | exact vc3 hB (by omega) | exact vcL hB (by omega)) (by first | assumption | rfl | decide | exact bL hB _ (by decide) | exact vc3 hB (by omega) | exact vcL hB (by omega)) (by (first | rw [bn24 hB] | rw [bn40 hB] | rw [bn56 hB] | rw [bn72 hB] | rw [bn27 hB] | rw [bn43 hB] | rw [bn25 hB] | rw [bn41 hB] | rw [bn88 hB] | rw [bn104 hB] | rw [bn120 hB] | rw [bn136 hB] | rw [bn152 hB] | rw [bn168 hB]); first | assumption | exact vp_in_nI (by omega) (by decide)) (by rw [nI_clamp (by omega)]; exact vcV hB (by omega)) ?_
      refine y_aload0 (q := 44) C 22 rfl rfl ?_
      refine x_getR (q := 47) C 23 rfl rfl fl_RX3_11 (bv_4_0 hB) (fun _ _ => rfl) (by first | assumption | rfl | decide | exact bL hB _ (by decide) | exact vc3 hB (by omega) | exact vcL hB (by omega)) (by first | assumption | rfl | decide | exact bL hB _ (by decide) | exact vc3 hB (by omega) | exact vcL hB (by omega)) ?_
      refine y_iload2 (q := 48) C 24 rfl rfl ?_
      refine x_aald (q := 49) C 25 rfl rfl (by first | assumption | rfl | decide | exact bL hB _ (by decide) | exact vc3 hB (by omega) | exact vcL hB (by omega)) (by first | assumption | rfl | decide | exact bL hB _ (by decide) | exact vc3 hB (by omega) | exact vcL hB (by omega)) (by (first | rw [bn24 hB] | rw [bn40 hB] | rw [bn56 hB] | rw [bn72 hB] | rw [bn27 hB] | rw [bn43 hB] | rw [bn25 hB] | rw [bn41 hB] | rw [bn88 hB] | rw [bn104 hB] | rw [bn120 hB] | rw [bn136 hB] | rw [bn152 hB] | rw [bn168 hB]); first | assumption | exact vp_in_nI (by omega) (by decide)) (by rw [nI_clamp (by omega)]; exact vcV hB (by omega)) ?_
      refine y_cV1 (q := 52) C 26 rfl rfl ml_RX3_130 cd_X2_sideOf cv_X2_sideOf (by first | exact ⟨by decide, rfl⟩ | exact vcR hB (by omega)) (by first | assumption | rfl | decide | exact bL hB _ (by decide) | exact vc3 hB (by omega) | exact vcL hB (by omega)) (by decide) (by decide) (Nat.le_of_ble_eq_true rfl) (s_X2_sideOf (by first | assumption | rfl | decide | exact bL hB _ (by decide) | exact vc3 hB (by omega) | exact vcL hB (by omega)) (by first | assumption | rfl | decide | exact bL hB _ (by decide) | exact vc3 hB (by omega) | exact vcL hB (by omega)) (by first | assumption | rfl | decide | exact bL hB _ (by decide) | exact vc3 hB (by omega) | exact vcL hB (by omega)) (by first | assumption | rfl | decide | exact bL hB _ (by decide) | exact vc3 hB (by omega) | exact vcL hB (by omega)) ?_)
      show aj_X G 52 _ _ _ _ _ _ _ _ _
      exact x_ireturn C Z 27 rfl rfl rfl (aj_lf hK (by simp [*]))
    · skip
      refine x_bipush (q := 34) C 16 (n := (-9)) (v := (-9)) rfl rfl rfl ?_
      refine x_goto (t := 52) C 17 rfl (by decide) ?_
      exact x_ireturn C Z 27 rfl rfl rfl (aj_lf hK (by simp [*]))
set_option maxRecDepth 100000 in
set_option maxHeartbeats 800000 in
theorem s_X3_house0 {l : Launch} {I : Nat → Nat → Int32} {J : Nat → Nat → Int64} {V : Nat → Nat → Option Nat} {N : Nat → Nat} {L : List Nat} {K : aj_K} {w : Nat} (hw : w < 4) (hB : bV V N L) (hK : K (.inl (some (.int (I 20 (6 + w))))) I J V N L) : aj_M l yX3_house (aj_wc yX3_house cX3_house 2 (some .int)) (aj_rm 1 0 0) [] [.ref 20, .int (nI w)] I J V N L K := by
  refine aj_intro (tbl := t_X3_house) (lv0 := [some (.ref 20), some (.int (nI w))]) (by decide) T_X3_house aj_f0 (Nat.le_of_ble_eq_true rfl) rfl ?_
  intro G hl C Z NX hnm hGL hGF
  have C : aj_C G cX3_house t_X3_house RX3 (aj_rm 1 0 0) 2 := C
  refine y_iload1 (q := 1) C 0 rfl rfl ?_
  refine x_iconst (q := 2) C 1 (n := (0)) (v := (0)) rfl rfl rfl ?_
  refine x_iconst (q := 3) C 2 (n := (3)) (v := (3)) rfl rfl rfl ?_
  refine y_cS3 (q := 6) C 3 rfl rfl ml_RX3_41 cd_X3_checkBetween sv_X3_checkBetween (by decide) (by decide) (Nat.le_of_ble_eq_true rfl) (s_X3_checkBetween0 (nI_pos' (by omega)) (nI_leI (by omega) (by decide) |>.mpr (by omega : w ≤ 3)) ?_)
  show aj_X G 6 _ _ _ _ _ _ _ _ _
  refine y_iload1 (q := 7) C 4 rfl rfl ?_
  rcases (show w = 0 ∨ w = 1 ∨ w = 2 ∨ w = 3 by omega) with rfl | rfl | rfl | rfl
  · skip
    refine x_swIn (off := 25) (t := 32) C 5 rfl (by decide) (by decide) (by decide) (by decide) ?_
    refine y_aload0 (q := 33) C 6 rfl rfl ?_
    refine x_getI (q := 36) C 7 rfl rfl fl_RX3_85 (fun _ _ => rfl) (by first | assumption | rfl | decide | exact bL hB _ (by decide) | exact vc3 hB (by omega) | exact vcL hB (by omega)) (by first | assumption | rfl | decide | exact bL hB _ (by decide) | exact vc3 hB (by omega) | exact vcL hB (by omega)) ?_
    exact x_ireturn C Z 8 rfl rfl rfl (hK)
  · skip
    refine x_swIn (off := 30) (t := 37) C 5 rfl (by decide) (by decide) (by decide) (by decide) ?_
    refine y_aload0 (q := 38) C 9 rfl rfl ?_
    refine x_getI (q := 41) C 10 rfl rfl fl_RX3_148 (fun _ _ => rfl) (by first | assumption | rfl | decide | exact bL hB _ (by decide) | exact vc3 hB (by omega) | exact vcL hB (by omega)) (by first | assumption | rfl | decide | exact bL hB _ (by decide) | exact vc3 hB (by omega) | exact vcL hB (by omega)) ?_
    exact x_ireturn C Z 11 rfl rfl rfl (hK)
  · skip
    refine x_swIn (off := 35) (t := 42) C 5 rfl (by decide) (by decide) (by decide) (by decide) ?_
    refine y_aload0 (q := 43) C 12 rfl rfl ?_
    refine x_getI (q := 46) C 13 rfl rfl fl_RX3_100 (fun _ _ => rfl) (by first | assumption | rfl | decide | exact bL hB _ (by decide) | exact vc3 hB (by omega) | exact vcL hB (by omega)) (by first | assumption | rfl | decide | exact bL hB _ (by decide) | exact vc3 hB (by omega) | exact vcL hB (by omega)) ?_
    exact x_ireturn C Z 14 rfl rfl rfl (hK)
  · skip
    refine x_swOut (t := 47) C 5 rfl (by decide) (by decide) ?_
    refine y_aload0 (q := 48) C 15 rfl rfl ?_
    refine x_getI (q := 51) C 16 rfl rfl fl_RX3_228 (fun _ _ => rfl) (by first | assumption | rfl | decide | exact bL hB _ (by decide) | exact vc3 hB (by omega) | exact vcL hB (by omega)) (by first | assumption | rfl | decide | exact bL hB _ (by decide) | exact vc3 hB (by omega) | exact vcL hB (by omega)) ?_
    exact x_ireturn C Z 17 rfl rfl rfl (hK)
set_option maxRecDepth 100000 in
set_option maxHeartbeats 800000 in
theorem s_X3_eighth {l : Launch} {I : Nat → Nat → Int32} {J : Nat → Nat → Int64} {V : Nat → Nat → Option Nat} {N : Nat → Nat} {L : List Nat} {K : aj_K} {x : Int32} (hCL : cL I) (hB : bV V N L) (hXO : (ckI x) = false → K (.inr "java/lang/IndexOutOfBoundsException") I J V N L) (hK : ∀ j : Nat, j < 8 → x = nI j → (∀ (r : Int32) (I1 : Nat → Nat → Int32), eqO [163] I I1 → r = egR (tc I (vc V j)) → K (.inl (some (.int r))) I1 J V N L)) : aj_M l yX3_eighth (aj_wc yX3_eighth cX3_eighth 4 (some .int)) (aj_rm 4 1 6) [] [.ref 20, .int x] I J V N L K := by
  refine aj_intro (tbl := t_X3_eighth) (lv0 := [some (.ref 20), some (.int x), none, none]) (by decide) T_X3_eighth aj_f0 (Nat.le_of_ble_eq_true rfl) rfl ?_
  intro G hl C Z NX hnm hGL hGF
  have C : aj_C G cX3_eighth t_X3_eighth RX3 (aj_rm 4 1 6) 4 := C
  refine y_iload1 (q := 1) C 0 rfl rfl ?_
  refine y_dS1 (q := 4) C 1 rfl rfl ml_RX3_37 cd_X3_checkCell sv_X3_checkCell (by decide) (by decide) (Nat.le_of_ble_eq_true rfl) (bc' := 0) (bs' := 0) rfl rfl (s_X3_checkCell (fun c hc8 ec => ?_) (fun hn1 => x_out C Z NX (hXO hn1)))
  show aj_X G 4 _ _ _ _ _ _ _ _ _
  subst ec
  refine x_iconst (q := 5) C 2 (n := (0)) (v := (0)) rfl rfl rfl ?_
  refine y_istore2 (q := 6) C 3 rfl rfl (Nat.le_of_ble_eq_true rfl) rfl ?_
  refine x_iconst (q := 7) C 4 (n := (0)) (v := nI 0) rfl rfl rfl ?_
  refine y_istore3 (q := 8) C 5 rfl rfl (Nat.le_of_ble_eq_true rfl) rfl ?_
  have lp8 : ∀ (m j : Nat) (r : Int32) (I1 : Nat → Nat → Int32), j ≤ 16 → 16 ≤ j + 2 * m → eqO [163] I I1 → (∃ i, j = 2 * i ∧ r = egC (tc I (vc V c)) i) → aj_X G 8 [some (.ref 20), some (.int (nI c)), some (.int r), some (.int (nI j))] [] I1 J V N L 0 0 := by
    intro m
    induction m with
    | zero =>
      intro j r I1 h16 hj hE hr
      refine y_iload3 (q := 9) C 6 rfl rfl ?_
      refine x_iconst (q := 10) C 7 (n := (1)) (v := nI 1) rfl rfl rfl ?_
      refine x_iadd (q := 11) C 8 rfl rfl ?_
      rw [nI_add]
      refine x_marks (q := 14) C 9 rfl rfl gs_RX3_133 ?_
      refine x_mlen (q := 15) C 10 rfl rfl ?_
      refine x_icmp_ge (q := 18) (t := 64) C 11 rfl (by decide) rfl (fun c1 => ?_) (fun c1 => ?_)
      · skip
        refine y_iload2 (q := 65) C 36 rfl rfl ?_
        exact x_ireturn C Z 37 rfl rfl rfl (hK c hc8 rfl r I1 hE (by obtain ⟨i, ei, er⟩ := hr; rw [er, ← egC_8, show i = 8 from by first | omega | (subst ei; have hq : ¬ nI (2 * i + 1) < nI 16 := (by first | assumption | exact Int32.not_lt.mpr (by assumption)); have : ¬ 2 * i + 1 < 16 := fun w => hq (nI_lt (a := 2 * i + 1) (b := 16) w (by decide)); omega)]))
      · skip
        exact absurd (show nI 16 ≤ nI (j + 1) from nI_le (by omega) (by omega)) c1
    | succ m ih =>
      intro j r I1 h16 hj hE hr
      refine y_iload3 (q := 9) C 6 rfl rfl ?_
      refine x_iconst (q := 10) C 7 (n := (1)) (v := nI 1) rfl rfl rfl ?_
      refine x_iadd (q := 11) C 8 rfl rfl ?_
      rw [nI_add]
      refine x_marks (q := 14) C 9 rfl rfl gs_RX3_133 ?_
      refine x_mlen (q := 15) C 10 rfl rfl ?_
      refine x_icmp_ge (q := 18) (t := 64) C 11 rfl (by decide) rfl (fun c2 => ?_) (fun c2 => ?_)
      · skip
        refine y_iload2 (q := 65) C 36 rfl rfl ?_
        exact x_ireturn C Z 37 rfl rfl rfl (hK c hc8 rfl r I1 hE (by obtain ⟨i, ei, er⟩ := hr; rw [er, ← egC_8, show i = 8 from by first | omega | (subst ei; have hq : ¬ nI (2 * i + 1) < nI 16 := (by first | assumption | exact Int32.not_lt.mpr (by assumption)); have : ¬ 2 * i + 1 < 16 := fun w => hq (nI_lt (a := 2 * i + 1) (b := 16) w (by decide)); omega)]))
      · skip
        have hjl : j + 1 < 16 := by
          rcases Nat.lt_or_ge (j + 1) 16 with w | w
          · exact w
          · exact absurd (show nI 16 ≤ nI (j + 1) from nI_le w (by omega)) (by assumption)
        refine y_aload0 (q := 19) C 12 rfl rfl ?_
        refine x_getR (q := 22) C 13 rfl rfl fl_RX3_27 (bv_4_4 hB) (fun _ _ => rfl) (by first | assumption | rfl | decide | exact bL hB _ (by decide) | exact vc3 hB (by omega) | exact vcL hB (by omega)) (by first | assumption | rfl | decide | exact bL hB _ (by decide) | exact vc3 hB (by omega) | exact vcL hB (by omega)) ?_
        refine x_marks (q := 25) C 14 rfl rfl gs_RX3_133 ?_
        refine y_iload3 (q := 26) C 15 rfl rfl ?_
        refine x_mald (q := 27) C 16 rfl rfl (vp_in_nI (by omega) (by decide)) (show aj_mk (nI j).toNatClampNeg = Value.int (mkI j) from by rw [nI_clamp (by omega)]; rfl) ?_
        refine x_marks (q := 30) C 17 rfl rfl gs_RX3_133 ?_
        refine y_iload3 (q := 31) C 18 rfl rfl ?_
        refine x_iconst (q := 32) C 19 (n := (1)) (v := nI 1) rfl rfl rfl ?_
        refine x_iadd (q := 33) C 20 rfl rfl ?_
        rw [nI_add]
        refine x_mald (q := 34) C 21 rfl rfl (vp_in_nI (by omega) (by decide)) (show aj_mk (nI (j + 1)).toNatClampNeg = Value.int (mkI (j + 1)) from by rw [nI_clamp (by omega)]; rfl) ?_
        refine x_iconst (q := 35) C 22 (n := (0)) (v := (0)) rfl rfl rfl ?_
        refine y_cV3 (q := 38) C 23 rfl rfl ml_RX3_45 cd_X2_become cv_X2_become (by first | exact ⟨by decide, rfl⟩ | exact vcR hB (by omega)) (by first | assumption | rfl | decide | exact bL hB _ (by decide) | exact vc3 hB (by omega) | exact vcL hB (by omega)) (by decide) (by decide) (Nat.le_of_ble_eq_true rfl) (s_X2_become (by first | assumption | rfl | decide | exact bL hB _ (by decide) | exact vc3 hB (by omega) | exact vcL hB (by omega)) (by first | assumption | rfl | decide | exact bL hB _ (by decide) | exact vc3 hB (by omega) | exact vcL hB (by omega)) ?_)
        show aj_X G 38 _ _ _ _ _ _ _ _ _
        refine y_aload0 (q := 39) C 24 rfl rfl ?_
        refine x_getR (q := 42) C 25 rfl rfl fl_RX3_11 (bv_4_0 hB) (fun _ _ => rfl) (by first | assumption | rfl | decide | exact bL hB _ (by decide) | exact vc3 hB (by omega) | exact vcL hB (by omega)) (by first | assumption | rfl | decide | exact bL hB _ (by decide) | exact vc3 hB (by omega) | exact vcL hB (by omega)) ?_
        refine y_iload1 (q := 43) C 26 rfl rfl ?_
        refine x_aald (q := 44) C 27 rfl rfl (by first | assumption | rfl | decide | exact bL hB _ (by decide) | exact vc3 hB (by omega) | exact vcL hB (by omega)) (by first | assumption | rfl | decide | exact bL hB _ (by decide) | exact vc3 hB (by omega) | exact vcL hB (by omega)) (by (first | rw [bn24 hB] | rw [bn40 hB] | rw [bn56 hB] | rw [bn72 hB] | rw [bn27 hB] | rw [bn43 hB] | rw [bn25 hB] | rw [bn41 hB] | rw [bn88 hB] | rw [bn104 hB] | rw [bn120 hB] | rw [bn136 hB] | rw [bn152 hB] | rw [bn168 hB]); first | assumption | exact vp_in_nI (by omega) (by decide)) (by rw [nI_clamp (by omega)]; exact vcV hB (by omega)) ?_
        refine y_aload0 (q := 45) C 28 rfl rfl ?_
        refine x_getR (q := 48) C 29 rfl rfl fl_RX3_27 (bv_4_4 hB) (fun _ _ => rfl) (by first | assumption | rfl | decide | exact bL hB _ (by decide) | exact vc3 hB (by omega) | exact vcL hB (by omega)) (by first | assumption | rfl | decide | exact bL hB _ (by decide) | exact vc3 hB (by omega) | exact vcL hB (by omega)) ?_
        refine y_cV1 (q := 51) C 30 rfl rfl ml_RX3_88 cd_X2_orderTo cv_X2_orderTo (by first | exact ⟨by decide, rfl⟩ | exact vcR hB (by omega)) (by first | assumption | rfl | decide | exact bL hB _ (by decide) | exact vc3 hB (by omega) | exact vcL hB (by omega)) (by decide) (by decide) (Nat.le_of_ble_eq_true rfl) (s_X2_orderTo (by first | assumption | rfl | decide | exact bL hB _ (by decide) | exact vc3 hB (by omega) | exact vcL hB (by omega)) (by first | assumption | rfl | decide | exact bL hB _ (by decide) | exact vc3 hB (by omega) | exact vcL hB (by omega)) (by first | assumption | rfl | decide | exact bL hB _ (by decide) | exact vc3 hB (by omega) | exact vcL hB (by omega)) (by first | assumption | rfl | decide | exact bL hB _ (by decide) | exact vc3 hB (by omega) | exact vcL hB (by omega)) ?_)
        show aj_X G 51 _ _ _ _ _ _ _ _ _
        refine x_iconst (q := 52) C 31 (n := (-1)) (v := (-1)) rfl rfl rfl ?_
        refine x_icmp_eq (q := 55) (t := 58) C 32 rfl (by decide) rfl (fun c3 => ?_) (fun c3 => ?_)
        · skip
          refine y_iinc3 (q := 61) C 34 rfl rfl (v := nI (j + 2)) (by rw [show (Int32.ofInt 2) = nI 2 from rfl]; exact nI_add j 2) (Nat.le_of_ble_eq_true rfl) rfl ?_
          refine x_goto (t := 8) C 35 rfl (by decide) ?_
          exact ih (j + 2) _ _ (by omega) (by omega) (eqO.tr hE (stB_eq (by decide))) (by obtain ⟨i, ei, er⟩ := hr; subst ei; refine ⟨i + 1, by omega, ?_⟩; rw [er]; show _ = egC (tc I (vc V c)) i + eg1 (tc I (vc V c)) (mkI (2 * i)) (mkI (2 * i + 1)); rw [eg_0 (by rw [← eg_s hE hCL (vcM hB hc8) (mk_nz i (by omega))]; assumption), Int32.add_zero])
        · skip
          refine y_iinc2 (q := 58) C 33 rfl rfl rfl (Nat.le_of_ble_eq_true rfl) rfl ?_
          refine y_iinc3 (q := 61) C 34 rfl rfl (v := nI (j + 2)) (by rw [show (Int32.ofInt 2) = nI 2 from rfl]; exact nI_add j 2) (Nat.le_of_ble_eq_true rfl) rfl ?_
          refine x_goto (t := 8) C 35 rfl (by decide) ?_
          exact ih (j + 2) _ _ (by omega) (by omega) (eqO.tr hE (stB_eq (by decide))) (by obtain ⟨i, ei, er⟩ := hr; subst ei; refine ⟨i + 1, by omega, ?_⟩; rw [er]; show _ = egC (tc I (vc V c)) i + eg1 (tc I (vc V c)) (mkI (2 * i)) (mkI (2 * i + 1)); rw [eg_1 (hCL _ (vcM hB hc8)).1 (by rw [← eg_s hE hCL (vcM hB hc8) (mk_nz i (by omega))]; assumption)]; rfl)
  exact lp8 8 0 0 I (by omega) (by omega) eqO.rf ⟨0, rfl, rfl⟩
set_option maxRecDepth 100000 in
set_option maxHeartbeats 800000 in
theorem s_X3_eighth0 {l : Launch} {I : Nat → Nat → Int32} {J : Nat → Nat → Int64} {V : Nat → Nat → Option Nat} {N : Nat → Nat} {L : List Nat} {K : aj_K} {c : Nat} (hc8 : c < 8) (hB : bV V N L) (hK : (∀ (r : Int32) (I1 : Nat → Nat → Int32), eqO [163] I I1 → K (.inl (some (.int r))) I1 J V N L)) : aj_M l yX3_eighth (aj_wc yX3_eighth cX3_eighth 4 (some .int)) (aj_rm 4 0 0) [] [.ref 20, .int (nI c)] I J V N L K := by
  refine aj_intro (tbl := t_X3_eighth) (lv0 := [some (.ref 20), some (.int (nI c)), none, none]) (by decide) T_X3_eighth aj_f0 (Nat.le_of_ble_eq_true rfl) rfl ?_
  intro G hl C Z NX hnm hGL hGF
  have C : aj_C G cX3_eighth t_X3_eighth RX3 (aj_rm 4 0 0) 4 := C
  refine y_iload1 (q := 1) C 0 rfl rfl ?_
  refine y_cS1 (q := 4) C 1 rfl rfl ml_RX3_37 cd_X3_checkCell sv_X3_checkCell (by decide) (by decide) (Nat.le_of_ble_eq_true rfl) (s_X3_checkCell0 hc8 ?_)
  show aj_X G 4 _ _ _ _ _ _ _ _ _
  refine x_iconst (q := 5) C 2 (n := (0)) (v := (0)) rfl rfl rfl ?_
  refine y_istore2 (q := 6) C 3 rfl rfl (Nat.le_of_ble_eq_true rfl) rfl ?_
  refine x_iconst (q := 7) C 4 (n := (0)) (v := nI 0) rfl rfl rfl ?_
  refine y_istore3 (q := 8) C 5 rfl rfl (Nat.le_of_ble_eq_true rfl) rfl ?_
  have lp8 : ∀ (m j : Nat) (r : Int32) (I1 : Nat → Nat → Int32), j ≤ 16 → 16 ≤ j + 2 * m → eqO [163] I I1 → aj_X G 8 [some (.ref 20), some (.int (nI c)), some (.int r), some (.int (nI j))] [] I1 J V N L 0 0 := by
    intro m
    induction m with
    | zero =>
      intro j r I1 h16 hj hE
      refine y_iload3 (q := 9) C 6 rfl rfl ?_
      refine x_iconst (q := 10) C 7 (n := (1)) (v := nI 1) rfl rfl rfl ?_
      refine x_iadd (q := 11) C 8 rfl rfl ?_
      rw [nI_add]
      refine x_marks (q := 14) C 9 rfl rfl gs_RX3_133 ?_
      refine x_mlen (q := 15) C 10 rfl rfl ?_
      refine x_icmp_ge (q := 18) (t := 64) C 11 rfl (by decide) rfl (fun c1 => ?_) (fun c1 => ?_)
      · skip
        refine y_iload2 (q := 65) C 36 rfl rfl ?_
        exact x_ireturn C Z 37 rfl rfl rfl (hK r I1 hE)
      · skip
        exact absurd (show nI 16 ≤ nI (j + 1) from nI_le (by omega) (by omega)) c1
    | succ m ih =>
      intro j r I1 h16 hj hE
      refine y_iload3 (q := 9) C 6 rfl rfl ?_
      refine x_iconst (q := 10) C 7 (n := (1)) (v := nI 1) rfl rfl rfl ?_
      refine x_iadd (q := 11) C 8 rfl rfl ?_
      rw [nI_add]
      refine x_marks (q := 14) C 9 rfl rfl gs_RX3_133 ?_
      refine x_mlen (q := 15) C 10 rfl rfl ?_
      refine x_icmp_ge (q := 18) (t := 64) C 11 rfl (by decide) rfl (fun c2 => ?_) (fun c2 => ?_)
      · skip
        refine y_iload2 (q := 65) C 36 rfl rfl ?_
        exact x_ireturn C Z 37 rfl rfl rfl (hK r I1 hE)
      · skip
        have hjl : j + 1 < 16 := by
          rcases Nat.lt_or_ge (j + 1) 16 with w | w
          · exact w
          · exact absurd (show nI 16 ≤ nI (j + 1) from nI_le w (by omega)) (by assumption)
        refine y_aload0 (q := 19) C 12 rfl rfl ?_
        refine x_getR (q := 22) C 13 rfl rfl fl_RX3_27 (bv_4_4 hB) (fun _ _ => rfl) (by first | assumption | rfl | decide | exact bL hB _ (by decide) | exact vc3 hB (by omega) | exact vcL hB (by omega)) (by first | assumption | rfl | decide | exact bL hB _ (by decide) | exact vc3 hB (by omega) | exact vcL hB (by omega)) ?_
        refine x_marks (q := 25) C 14 rfl rfl gs_RX3_133 ?_
        refine y_iload3 (q := 26) C 15 rfl rfl ?_
        refine x_mald (q := 27) C 16 rfl rfl (vp_in_nI (by omega) (by decide)) (show aj_mk (nI j).toNatClampNeg = Value.int (mkI j) from by rw [nI_clamp (by omega)]; rfl) ?_
        refine x_marks (q := 30) C 17 rfl rfl gs_RX3_133 ?_
        refine y_iload3 (q := 31) C 18 rfl rfl ?_
        refine x_iconst (q := 32) C 19 (n := (1)) (v := nI 1) rfl rfl rfl ?_
        refine x_iadd (q := 33) C 20 rfl rfl ?_
        rw [nI_add]
        refine x_mald (q := 34) C 21 rfl rfl (vp_in_nI (by omega) (by decide)) (show aj_mk (nI (j + 1)).toNatClampNeg = Value.int (mkI (j + 1)) from by rw [nI_clamp (by omega)]; rfl) ?_
        refine x_iconst (q := 35) C 22 (n := (0)) (v := (0)) rfl rfl rfl ?_
        refine y_cV3 (q := 38) C 23 rfl rfl ml_RX3_45 cd_X2_become cv_X2_become (by first | exact ⟨by decide, rfl⟩ | exact vcR hB (by omega)) (by first | assumption | rfl | decide | exact bL hB _ (by decide) | exact vc3 hB (by omega) | exact vcL hB (by omega)) (by decide) (by decide) (Nat.le_of_ble_eq_true rfl) (s_X2_become (by first | assumption | rfl | decide | exact bL hB _ (by decide) | exact vc3 hB (by omega) | exact vcL hB (by omega)) (by first | assumption | rfl | decide | exact bL hB _ (by decide) | exact vc3 hB (by omega) | exact vcL hB (by omega)) ?_)
        show aj_X G 38 _ _ _ _ _ _ _ _ _
        refine y_aload0 (q := 39) C 24 rfl rfl ?_
        refine x_getR (q := 42) C 25 rfl rfl fl_RX3_11 (bv_4_0 hB) (fun _ _ => rfl) (by first | assumption | rfl | decide | exact bL hB _ (by decide) | exact vc3 hB (by omega) | exact vcL hB (by omega)) (by first | assumption | rfl | decide | exact bL hB _ (by decide) | exact vc3 hB (by omega) | exact vcL hB (by omega)) ?_
        refine y_iload1 (q := 43) C 26 rfl rfl ?_
        refine x_aald (q := 44) C 27 rfl rfl (by first | assumption | rfl | decide | exact bL hB _ (by decide) | exact vc3 hB (by omega) | exact vcL hB (by omega)) (by first | assumption | rfl | decide | exact bL hB _ (by decide) | exact vc3 hB (by omega) | exact vcL hB (by omega)) (by (first | rw [bn24 hB] | rw [bn40 hB] | rw [bn56 hB] | rw [bn72 hB] | rw [bn27 hB] | rw [bn43 hB] | rw [bn25 hB] | rw [bn41 hB] | rw [bn88 hB] | rw [bn104 hB] | rw [bn120 hB] | rw [bn136 hB] | rw [bn152 hB] | rw [bn168 hB]); first | assumption | exact vp_in_nI (by omega) (by decide)) (by rw [nI_clamp (by omega)]; exact vcV hB (by omega)) ?_
        refine y_aload0 (q := 45) C 28 rfl rfl ?_
        refine x_getR (q := 48) C 29 rfl rfl fl_RX3_27 (bv_4_4 hB) (fun _ _ => rfl) (by first | assumption | rfl | decide | exact bL hB _ (by decide) | exact vc3 hB (by omega) | exact vcL hB (by omega)) (by first | assumption | rfl | decide | exact bL hB _ (by decide) | exact vc3 hB (by omega) | exact vcL hB (by omega)) ?_
        refine y_cV1 (q := 51) C 30 rfl rfl ml_RX3_88 cd_X2_orderTo cv_X2_orderTo (by first | exact ⟨by decide, rfl⟩ | exact vcR hB (by omega)) (by first | assumption | rfl | decide | exact bL hB _ (by decide) | exact vc3 hB (by omega) | exact vcL hB (by omega)) (by decide) (by decide) (Nat.le_of_ble_eq_true rfl) (s_X2_orderTo (by first | assumption | rfl | decide | exact bL hB _ (by decide) | exact vc3 hB (by omega) | exact vcL hB (by omega)) (by first | assumption | rfl | decide | exact bL hB _ (by decide) | exact vc3 hB (by omega) | exact vcL hB (by omega)) (by first | assumption | rfl | decide | exact bL hB _ (by decide) | exact vc3 hB (by omega) | exact vcL hB (by omega)) (by first | assumption | rfl | decide | exact bL hB _ (by decide) | exact vc3 hB (by omega) | exact vcL hB (by omega)) ?_)
        show aj_X G 51 _ _ _ _ _ _ _ _ _
        refine x_iconst (q := 52) C 31 (n := (-1)) (v := (-1)) rfl rfl rfl ?_
        refine x_icmp_eq (q := 55) (t := 58) C 32 rfl (by decide) rfl (fun c3 => ?_) (fun c3 => ?_)
        · skip
          refine y_iinc3 (q := 61) C 34 rfl rfl (v := nI (j + 2)) (by rw [show (Int32.ofInt 2) = nI 2 from rfl]; exact nI_add j 2) (Nat.le_of_ble_eq_true rfl) rfl ?_
          refine x_goto (t := 8) C 35 rfl (by decide) ?_
          exact ih (j + 2) _ _ (by omega) (by omega) (eqO.tr hE (stB_eq (by decide)))
        · skip
          refine y_iinc2 (q := 58) C 33 rfl rfl rfl (Nat.le_of_ble_eq_true rfl) rfl ?_
          refine y_iinc3 (q := 61) C 34 rfl rfl (v := nI (j + 2)) (by rw [show (Int32.ofInt 2) = nI 2 from rfl]; exact nI_add j 2) (Nat.le_of_ble_eq_true rfl) rfl ?_
          refine x_goto (t := 8) C 35 rfl (by decide) ?_
          exact ih (j + 2) _ _ (by omega) (by omega) (eqO.tr hE (stB_eq (by decide)))
  exact lp8 8 0 0 I (by omega) (by omega) eqO.rf
set_option maxRecDepth 100000 in
set_option maxHeartbeats 800000 in
theorem s_X3_find {l : Launch} {I : Nat → Nat → Int32} {J : Nat → Nat → Int64} {V : Nat → Nat → Option Nat} {N : Nat → Nat} {L : List Nat} {K : aj_K} {x : Int32} {b : Bool} (hB : bV V N L) (hXO : (ckI x) = false → K (.inr "java/lang/IndexOutOfBoundsException") I J V N L) (hK : ∀ c : Nat, c < 8 → x = nI c → ∀ j : Nat, j < 8 → ((∃ i, i < 8 ∧ j = cdN b i ∧ pO I (vc V (cdN b i)) (vc V c) = 0 ∧ ∀ q, q < i → ¬ pO I (vc V (cdN b q)) (vc V c) = 0) ∨ ∀ q, q < 8 → ¬ pO I (vc V (cdN b q)) (vc V c) = 0) → K (.inl (some (.int (nI j)))) I J V N L) : aj_M l yX3_find (aj_wc yX3_find cX3_find 5 (some .int)) (aj_rm 4 1 6) [] [.ref 20, .int x, .int (bI b)] I J V N L K := by
  refine aj_intro (tbl := t_X3_find) (lv0 := [some (.ref 20), some (.int x), some (.int (bI b)), none, none]) (by decide) T_X3_find aj_f0 (Nat.le_of_ble_eq_true rfl) rfl ?_
  intro G hl C Z NX hnm hGL hGF
  have C : aj_C G cX3_find t_X3_find RX3 (aj_rm 4 1 6) 5 := C
  refine y_iload1 (q := 1) C 0 rfl rfl ?_
  refine y_dS1 (q := 4) C 1 rfl rfl ml_RX3_37 cd_X3_checkCell sv_X3_checkCell (by decide) (by decide) (Nat.le_of_ble_eq_true rfl) (bc' := 0) (bs' := 0) rfl rfl (s_X3_checkCell (fun c hc8 ec => ?_) (fun hn1 => x_out C Z NX (hXO hn1)))
  show aj_X G 4 _ _ _ _ _ _ _ _ _
  subst ec
  refine x_iconst (q := 5) C 2 (n := (0)) (v := nI 0) rfl rfl rfl ?_
  refine y_istore3 (q := 6) C 3 rfl rfl (Nat.le_of_ble_eq_true rfl) rfl ?_
  have lp6 : ∀ (m j : Nat) (z4 : Option Value), j + m = 8 → (∀ q, q < j → ¬ pO I (vc V (cdN b q)) (vc V c) = 0) → aj_X G 6 [some (.ref 20), some (.int (nI c)), some (.int (bI b)), some (.int (nI j)), z4] [] I J V N L 0 0 := by
    intro m
    induction m with
    | zero =>
      intro j z4 hj hp
      refine y_iload3 (q := 7) C 4 rfl rfl ?_
      refine x_bipush (q := 9) C 5 (n := (8)) (v := nI 8) rfl rfl rfl ?_
      refine x_icmp_ge (q := 12) (t := 54) C 6 rfl (by decide) rfl (fun c1 => ?_) (fun c1 => ?_)
      · skip
        refine y_iload1 (q := 55) C 29 rfl rfl ?_
        exact x_ireturn C Z 30 rfl rfl rfl (hK c hc8 rfl c hc8 (Or.inr fun q hq => hp q (by omega)))
      · skip
        exact absurd (nI_le (by omega) (by omega)) c1
    | succ m ih =>
      intro j z4 hj hp
      refine y_iload3 (q := 7) C 4 rfl rfl ?_
      refine x_bipush (q := 9) C 5 (n := (8)) (v := nI 8) rfl rfl rfl ?_
      refine x_icmp_ge (q := 12) (t := 54) C 6 rfl (by decide) rfl (fun c2 => ?_) (fun c2 => ?_)
      · skip
        exact absurd c2 (nI_ge (by omega) (by omega))
      · skip
        refine y_iload2 (q := 13) C 7 rfl rfl ?_
        refine x_if_eqB (q := 16) (t := 23) C 8 rfl (by decide) rfl (fun c3 => ?_) (fun c3 => ?_)
        · skip
          refine y_iload3 (q := 24) C 13 rfl rfl ?_
          refine y_istore4 (q := 26) C 14 rfl rfl (Nat.le_of_ble_eq_true rfl) rfl ?_
          refine y_aload0 (q := 27) C 15 rfl rfl ?_
          refine x_getR (q := 30) C 16 rfl rfl fl_RX3_11 (bv_4_0 hB) (fun _ _ => rfl) (by first | assumption | rfl | decide | exact bL hB _ (by decide) | exact vc3 hB (by omega) | exact vcL hB (by omega)) (by first | assumption | rfl | decide | exact bL hB _ (by decide) | exact vc3 hB (by omega) | exact vcL hB (by omega)) ?_
          refine y_iload4 (q := 32) C 17 rfl rfl ?_
          refine x_aald (q := 33) C 18 rfl rfl (by first | assumption | rfl | decide | exact bL hB _ (by decide) | exact vc3 hB (by omega) | exact vcL hB (by omega)) (by first | assumption | rfl | decide | exact bL hB _ (by decide) | exact vc3 hB (by omega) | exact vcL hB (by omega)) (by (first | rw [bn24 hB] | rw [bn40 hB] | rw [bn56 hB] | rw [bn72 hB] | rw [bn27 hB] | rw [bn43 hB] | rw [bn25 hB] | rw [bn41 hB] | rw [bn88 hB] | rw [bn104 hB] | rw [bn120 hB] | rw [bn136 hB] | rw [bn152 hB] | rw [bn168 hB]); first | assumption | exact vp_in_nI (by omega) (by decide)) (by rw [nI_clamp (by omega)]; exact vcV hB (by omega)) ?_
          refine y_aload0 (q := 34) C 19 rfl rfl ?_
          refine x_getR (q := 37) C 20 rfl rfl fl_RX3_11 (bv_4_0 hB) (fun _ _ => rfl) (by first | assumption | rfl | decide | exact bL hB _ (by decide) | exact vc3 hB (by omega) | exact vcL hB (by omega)) (by first | assumption | rfl | decide | exact bL hB _ (by decide) | exact vc3 hB (by omega) | exact vcL hB (by omega)) ?_
          refine y_iload1 (q := 38) C 21 rfl rfl ?_
          refine x_aald (q := 39) C 22 rfl rfl (by first | assumption | rfl | decide | exact bL hB _ (by decide) | exact vc3 hB (by omega) | exact vcL hB (by omega)) (by first | assumption | rfl | decide | exact bL hB _ (by decide) | exact vc3 hB (by omega) | exact vcL hB (by omega)) (by (first | rw [bn24 hB] | rw [bn40 hB] | rw [bn56 hB] | rw [bn72 hB] | rw [bn27 hB] | rw [bn43 hB] | rw [bn25 hB] | rw [bn41 hB] | rw [bn88 hB] | rw [bn104 hB] | rw [bn120 hB] | rw [bn136 hB] | rw [bn152 hB] | rw [bn168 hB]); first | assumption | exact vp_in_nI (by omega) (by decide)) (by rw [nI_clamp (by omega)]; exact vcV hB (by omega)) ?_
          refine y_cV1 (q := 42) C 23 rfl rfl ml_RX3_88 cd_X2_orderTo cv_X2_orderTo (by first | exact ⟨by decide, rfl⟩ | exact vcR hB (by omega)) (by first | assumption | rfl | decide | exact bL hB _ (by decide) | exact vc3 hB (by omega) | exact vcL hB (by omega)) (by decide) (by decide) (Nat.le_of_ble_eq_true rfl) (s_X2_orderTo (by first | assumption | rfl | decide | exact bL hB _ (by decide) | exact vc3 hB (by omega) | exact vcL hB (by omega)) (by first | assumption | rfl | decide | exact bL hB _ (by decide) | exact vc3 hB (by omega) | exact vcL hB (by omega)) (by first | assumption | rfl | decide | exact bL hB _ (by decide) | exact vc3 hB (by omega) | exact vcL hB (by omega)) (by first | assumption | rfl | decide | exact bL hB _ (by decide) | exact vc3 hB (by omega) | exact vcL hB (by omega)) ?_)
          show aj_X G 42 _ _ _ _ _ _ _ _ _
          refine x_if_ne (q := 45) (t := 48) C 24 rfl (by decide) rfl (fun c4 => ?_) (fun c4 => ?_)
          · skip
            refine y_iinc3 (q := 51) C 27 rfl rfl (nI_1 j) (Nat.le_of_ble_eq_true rfl) rfl ?_
            refine x_goto (t := 6) C 28 rfl (by decide) ?_
            exact ih (j + 1) _ (by omega) (lt_snoc hp (by rw [show cdN b j = j from if_neg (by rw [show b = false by assumption]; decide)]; assumption))
          · skip
            refine y_iload4 (q := 47) C 25 rfl rfl ?_
            exact x_ireturn C Z 26 rfl rfl rfl (aj_lf (hK c hc8 rfl (cdN b j) (by unfold cdN; split <;> omega) (Or.inl ⟨j, by omega, rfl, by rw [(show cdN b j = j from if_neg (by rw [show b = false by assumption]; decide))]; assumption, hp⟩)) (congrArg nI (show cdN b j = j from if_neg (by rw [show b = false by assumption]; decide))))
        · skip
          refine x_bipush (q := 18) C 9 (n := (7)) (v := nI 7) rfl rfl rfl ?_
          refine y_iload3 (q := 19) C 10 rfl rfl ?_
          refine x_isub (q := 20) C 11 rfl rfl ?_
          rw [pk_sub (by omega)]
          refine x_goto (t := 24) C 12 rfl (by decide) ?_
          refine y_istore4 (q := 26) C 14 rfl rfl (Nat.le_of_ble_eq_true rfl) rfl ?_
          refine y_aload0 (q := 27) C 15 rfl rfl ?_
          refine x_getR (q := 30) C 16 rfl rfl fl_RX3_11 (bv_4_0 hB) (fun _ _ => rfl) (by first | assumption | rfl | decide | exact bL hB _ (by decide) | exact vc3 hB (by omega) | exact vcL hB (by omega)) (by first | assumption | rfl | decide | exact bL hB _ (by decide) | exact vc3 hB (by omega) | exact vcL hB (by omega)) ?_
          refine y_iload4 (q := 32) C 17 rfl rfl ?_
          refine x_aald (q := 33) C 18 rfl rfl (by first | assumption | rfl | decide | exact bL hB _ (by decide) | exact vc3 hB (by omega) | exact vcL hB (by omega)) (by first | assumption | rfl | decide | exact bL hB _ (by decide) | exact vc3 hB (by omega) | exact vcL hB (by omega)) (by (first | rw [bn24 hB] | rw [bn40 hB] | rw [bn56 hB] | rw [bn72 hB] | rw [bn27 hB] | rw [bn43 hB] | rw [bn25 hB] | rw [bn41 hB] | rw [bn88 hB] | rw [bn104 hB] | rw [bn120 hB] | rw [bn136 hB] | rw [bn152 hB] | rw [bn168 hB]); first | assumption | exact vp_in_nI (by omega) (by decide)) (by rw [nI_clamp (by omega)]; exact vcV hB (by omega)) ?_
          refine y_aload0 (q := 34) C 19 rfl rfl ?_
          refine x_getR (q := 37) C 20 rfl rfl fl_RX3_11 (bv_4_0 hB) (fun _ _ => rfl) (by first | assumption | rfl | decide | exact bL hB _ (by decide) | exact vc3 hB (by omega) | exact vcL hB (by omega)) (by first | assumption | rfl | decide | exact bL hB _ (by decide) | exact vc3 hB (by omega) | exact vcL hB (by omega)) ?_
          refine y_iload1 (q := 38) C 21 rfl rfl ?_
          refine x_aald (q := 39) C 22 rfl rfl (by first | assumption | rfl | decide | exact bL hB _ (by decide) | exact vc3 hB (by omega) | exact vcL hB (by omega)) (by first | assumption | rfl | decide | exact bL hB _ (by decide) | exact vc3 hB (by omega) | exact vcL hB (by omega)) (by (first | rw [bn24 hB] | rw [bn40 hB] | rw [bn56 hB] | rw [bn72 hB] | rw [bn27 hB] | rw [bn43 hB] | rw [bn25 hB] | rw [bn41 hB] | rw [bn88 hB] | rw [bn104 hB] | rw [bn120 hB] | rw [bn136 hB] | rw [bn152 hB] | rw [bn168 hB]); first | assumption | exact vp_in_nI (by omega) (by decide)) (by rw [nI_clamp (by omega)]; exact vcV hB (by omega)) ?_
          refine y_cV1 (q := 42) C 23 rfl rfl ml_RX3_88 cd_X2_orderTo cv_X2_orderTo (by first | exact ⟨by decide, rfl⟩ | exact vcR hB (by omega)) (by first | assumption | rfl | decide | exact bL hB _ (by decide) | exact vc3 hB (by omega) | exact vcL hB (by omega)) (by decide) (by decide) (Nat.le_of_ble_eq_true rfl) (s_X2_orderTo (by first | assumption | rfl | decide | exact bL hB _ (by decide) | exact vc3 hB (by omega) | exact vcL hB (by omega)) (by first | assumption | rfl | decide | exact bL hB _ (by decide) | exact vc3 hB (by omega) | exact vcL hB (by omega)) (by first | assumption | rfl | decide | exact bL hB _ (by decide) | exact vc3 hB (by omega) | exact vcL hB (by omega)) (by first | assumption | rfl | decide | exact bL hB _ (by decide) | exact vc3 hB (by omega) | exact vcL hB (by omega)) ?_)
          show aj_X G 42 _ _ _ _ _ _ _ _ _
          refine x_if_ne (q := 45) (t := 48) C 24 rfl (by decide) rfl (fun c5 => ?_) (fun c5 => ?_)
          · skip
            refine y_iinc3 (q := 51) C 27 rfl rfl (nI_1 j) (Nat.le_of_ble_eq_true rfl) rfl ?_
            refine x_goto (t := 6) C 28 rfl (by decide) ?_
            exact ih (j + 1) _ (by omega) (lt_snoc hp (by rw [show cdN b j = 7 - j from if_pos (by assumption)]; assumption))
          · skip
            refine y_iload4 (q := 47) C 25 rfl rfl ?_
            exact x_ireturn C Z 26 rfl rfl rfl (aj_lf (hK c hc8 rfl (cdN b j) (by unfold cdN; split <;> omega) (Or.inl ⟨j, by omega, rfl, by rw [(show cdN b j = 7 - j from if_pos (by assumption))]; assumption, hp⟩)) (congrArg nI (show cdN b j = 7 - j from if_pos (by assumption))))
  exact lp6 8 0 _ (by omega) (fun q hq => absurd hq (Nat.not_lt_zero q))
set_option maxRecDepth 100000 in
set_option maxHeartbeats 800000 in
theorem s_X3_find0 {l : Launch} {I : Nat → Nat → Int32} {J : Nat → Nat → Int64} {V : Nat → Nat → Option Nat} {N : Nat → Nat} {L : List Nat} {K : aj_K} {c : Nat} {b : Bool} (hc8 : c < 8) (hB : bV V N L) (hK : ∀ j : Nat, j < 8 → K (.inl (some (.int (nI j)))) I J V N L) : aj_M l yX3_find (aj_wc yX3_find cX3_find 5 (some .int)) (aj_rm 4 0 0) [] [.ref 20, .int (nI c), .int (bI b)] I J V N L K := by
  refine aj_intro (tbl := t_X3_find) (lv0 := [some (.ref 20), some (.int (nI c)), some (.int (bI b)), none, none]) (by decide) T_X3_find aj_f0 (Nat.le_of_ble_eq_true rfl) rfl ?_
  intro G hl C Z NX hnm hGL hGF
  have C : aj_C G cX3_find t_X3_find RX3 (aj_rm 4 0 0) 5 := C
  refine y_iload1 (q := 1) C 0 rfl rfl ?_
  refine y_cS1 (q := 4) C 1 rfl rfl ml_RX3_37 cd_X3_checkCell sv_X3_checkCell (by decide) (by decide) (Nat.le_of_ble_eq_true rfl) (s_X3_checkCell0 hc8 ?_)
  show aj_X G 4 _ _ _ _ _ _ _ _ _
  refine x_iconst (q := 5) C 2 (n := (0)) (v := nI 0) rfl rfl rfl ?_
  refine y_istore3 (q := 6) C 3 rfl rfl (Nat.le_of_ble_eq_true rfl) rfl ?_
  have lp6 : ∀ (m j : Nat) (z4 : Option Value), j + m = 8 → (∀ q, q < j → ¬ pO I (vc V (cdN b q)) (vc V c) = 0) → aj_X G 6 [some (.ref 20), some (.int (nI c)), some (.int (bI b)), some (.int (nI j)), z4] [] I J V N L 0 0 := by
    intro m
    induction m with
    | zero =>
      intro j z4 hj hp
      refine y_iload3 (q := 7) C 4 rfl rfl ?_
      refine x_bipush (q := 9) C 5 (n := (8)) (v := nI 8) rfl rfl rfl ?_
      refine x_icmp_ge (q := 12) (t := 54) C 6 rfl (by decide) rfl (fun c1 => ?_) (fun c1 => ?_)
      · skip
        refine y_iload1 (q := 55) C 29 rfl rfl ?_
        exact x_ireturn C Z 30 rfl rfl rfl (hK c hc8)
      · skip
        exact absurd (nI_le (by omega) (by omega)) c1
    | succ m ih =>
      intro j z4 hj hp
      refine y_iload3 (q := 7) C 4 rfl rfl ?_
      refine x_bipush (q := 9) C 5 (n := (8)) (v := nI 8) rfl rfl rfl ?_
      refine x_icmp_ge (q := 12) (t := 54) C 6 rfl (by decide) rfl (fun c2 => ?_) (fun c2 => ?_)
      · skip
        exact absurd c2 (nI_ge (by omega) (by omega))
      · skip
        refine y_iload2 (q := 13) C 7 rfl rfl ?_
        refine x_if_eqB (q := 16) (t := 23) C 8 rfl (by decide) rfl (fun c3 => ?_) (fun c3 => ?_)
        · skip
          refine y_iload3 (q := 24) C 13 rfl rfl ?_
          refine y_istore4 (q := 26) C 14 rfl rfl (Nat.le_of_ble_eq_true rfl) rfl ?_
          refine y_aload0 (q := 27) C 15 rfl rfl ?_
          refine x_getR (q := 30) C 16 rfl rfl fl_RX3_11 (bv_4_0 hB) (fun _ _ => rfl) (by first | assumption | rfl | decide | exact bL hB _ (by decide) | exact vc3 hB (by omega) | exact vcL hB (by omega)) (by first | assumption | rfl | decide | exact bL hB _ (by decide) | exact vc3 hB (by omega) | exact vcL hB (by omega)) ?_
          refine y_iload4 (q := 32) C 17 rfl rfl ?_
          refine x_aald (q := 33) C 18 rfl rfl (by first | assumption | rfl | decide | exact bL hB _ (by decide) | exact vc3 hB (by omega) | exact vcL hB (by omega)) (by first | assumption | rfl | decide | exact bL hB _ (by decide) | exact vc3 hB (by omega) | exact vcL hB (by omega)) (by (first | rw [bn24 hB] | rw [bn40 hB] | rw [bn56 hB] | rw [bn72 hB] | rw [bn27 hB] | rw [bn43 hB] | rw [bn25 hB] | rw [bn41 hB] | rw [bn88 hB] | rw [bn104 hB] | rw [bn120 hB] | rw [bn136 hB] | rw [bn152 hB] | rw [bn168 hB]); first | assumption | exact vp_in_nI (by omega) (by decide)) (by rw [nI_clamp (by omega)]; exact vcV hB (by omega)) ?_
          refine y_aload0 (q := 34) C 19 rfl rfl ?_
          refine x_getR (q := 37) C 20 rfl rfl fl_RX3_11 (bv_4_0 hB) (fun _ _ => rfl) (by first | assumption | rfl | decide | exact bL hB _ (by decide) | exact vc3 hB (by omega) | exact vcL hB (by omega)) (by first | assumption | rfl | decide | exact bL hB _ (by decide) | exact vc3 hB (by omega) | exact vcL hB (by omega)) ?_
          refine y_iload1 (q := 38) C 21 rfl rfl ?_
          refine x_aald (q := 39) C 22 rfl rfl (by first | assumption | rfl | decide | exact bL hB _ (by decide) | exact vc3 hB (by omega) | exact vcL hB (by omega)) (by first | assumption | rfl | decide | exact bL hB _ (by decide) | exact vc3 hB (by omega) | exact vcL hB (by omega)) (by (first | rw [bn24 hB] | rw [bn40 hB] | rw [bn56 hB] | rw [bn72 hB] | rw [bn27 hB] | rw [bn43 hB] | rw [bn25 hB] | rw [bn41 hB] | rw [bn88 hB] | rw [bn104 hB] | rw [bn120 hB] | rw [bn136 hB] | rw [bn152 hB] | rw [bn168 hB]); first | assumption | exact vp_in_nI (by omega) (by decide)) (by rw [nI_clamp (by omega)]; exact vcV hB (by omega)) ?_
          refine y_cV1 (q := 42) C 23 rfl rfl ml_RX3_88 cd_X2_orderTo cv_X2_orderTo (by first | exact ⟨by decide, rfl⟩ | exact vcR hB (by omega)) (by first | assumption | rfl | decide | exact bL hB _ (by decide) | exact vc3 hB (by omega) | exact vcL hB (by omega)) (by decide) (by decide) (Nat.le_of_ble_eq_true rfl) (s_X2_orderTo (by first | assumption | rfl | decide | exact bL hB _ (by decide) | exact vc3 hB (by omega) | exact vcL hB (by omega)) (by first | assumption | rfl | decide | exact bL hB _ (by decide) | exact vc3 hB (by omega) | exact vcL hB (by omega)) (by first | assumption | rfl | decide | exact bL hB _ (by decide) | exact vc3 hB (by omega) | exact vcL hB (by omega)) (by first | assumption | rfl | decide | exact bL hB _ (by decide) | exact vc3 hB (by omega) | exact vcL hB (by omega)) ?_)
          show aj_X G 42 _ _ _ _ _ _ _ _ _
          refine x_if_ne (q := 45) (t := 48) C 24 rfl (by decide) rfl (fun c4 => ?_) (fun c4 => ?_)
          · skip
            refine y_iinc3 (q := 51) C 27 rfl rfl (nI_1 j) (Nat.le_of_ble_eq_true rfl) rfl ?_
            refine x_goto (t := 6) C 28 rfl (by decide) ?_
            exact ih (j + 1) _ (by omega) (lt_snoc hp (by rw [show cdN b j = j from if_neg (by rw [show b = false by assumption]; decide)]; assumption))
          · skip
            refine y_iload4 (q := 47) C 25 rfl rfl ?_
            exact x_ireturn C Z 26 rfl rfl rfl (hK _ (by omega))
        · skip
          refine x_bipush (q := 18) C 9 (n := (7)) (v := nI 7) rfl rfl rfl ?_
          refine y_iload3 (q := 19) C 10 rfl rfl ?_
          refine x_isub (q := 20) C 11 rfl rfl ?_
          rw [pk_sub (by omega)]
          refine x_goto (t := 24) C 12 rfl (by decide) ?_
          refine y_istore4 (q := 26) C 14 rfl rfl (Nat.le_of_ble_eq_true rfl) rfl ?_
          refine y_aload0 (q := 27) C 15 rfl rfl ?_
          refine x_getR (q := 30) C 16 rfl rfl fl_RX3_11 (bv_4_0 hB) (fun _ _ => rfl) (by first | assumption | rfl | decide | exact bL hB _ (by decide) | exact vc3 hB (by omega) | exact vcL hB (by omega)) (by first | assumption | rfl | decide | exact bL hB _ (by decide) | exact vc3 hB (by omega) | exact vcL hB (by omega)) ?_
          refine y_iload4 (q := 32) C 17 rfl rfl ?_
          refine x_aald (q := 33) C 18 rfl rfl (by first | assumption | rfl | decide | exact bL hB _ (by decide) | exact vc3 hB (by omega) | exact vcL hB (by omega)) (by first | assumption | rfl | decide | exact bL hB _ (by decide) | exact vc3 hB (by omega) | exact vcL hB (by omega)) (by (first | rw [bn24 hB] | rw [bn40 hB] | rw [bn56 hB] | rw [bn72 hB] | rw [bn27 hB] | rw [bn43 hB] | rw [bn25 hB] | rw [bn41 hB] | rw [bn88 hB] | rw [bn104 hB] | rw [bn120 hB] | rw [bn136 hB] | rw [bn152 hB] | rw [bn168 hB]); first | assumption | exact vp_in_nI (by omega) (by decide)) (by rw [nI_clamp (by omega)]; exact vcV hB (by omega)) ?_
          refine y_aload0 (q := 34) C 19 rfl rfl ?_
          refine x_getR (q := 37) C 20 rfl rfl fl_RX3_11 (bv_4_0 hB) (fun _ _ => rfl) (by first | assumption | rfl | decide | exact bL hB _ (by decide) | exact vc3 hB (by omega) | exact vcL hB (by omega)) (by first | assumption | rfl | decide | exact bL hB _ (by decide) | exact vc3 hB (by omega) | exact vcL hB (by omega)) ?_
          refine y_iload1 (q := 38) C 21 rfl rfl ?_
          refine x_aald (q := 39) C 22 rfl rfl (by first | assumption | rfl | decide | exact bL hB _ (by decide) | exact vc3 hB (by omega) | exact vcL hB (by omega)) (by first | assumption | rfl | decide | exact bL hB _ (by decide) | exact vc3 hB (by omega) | exact vcL hB (by omega)) (by (first | rw [bn24 hB] | rw [bn40 hB] | rw [bn56 hB] | rw [bn72 hB] | rw [bn27 hB] | rw [bn43 hB] | rw [bn25 hB] | rw [bn41 hB] | rw [bn88 hB] | rw [bn104 hB] | rw [bn120 hB] | rw [bn136 hB] | rw [bn152 hB] | rw [bn168 hB]); first | assumption | exact vp_in_nI (by omega) (by decide)) (by rw [nI_clamp (by omega)]; exact vcV hB (by omega)) ?_
          refine y_cV1 (q := 42) C 23 rfl rfl ml_RX3_88 cd_X2_orderTo cv_X2_orderTo (by first | exact ⟨by decide, rfl⟩ | exact vcR hB (by omega)) (by first | assumption | rfl | decide | exact bL hB _ (by decide) | exact vc3 hB (by omega) | exact vcL hB (by omega)) (by decide) (by decide) (Nat.le_of_ble_eq_true rfl) (s_X2_orderTo (by first | assumption | rfl | decide | exact bL hB _ (by decide) | exact vc3 hB (by omega) | exact vcL hB (by omega)) (by first | assumption | rfl | decide | exact bL hB _ (by decide) | exact vc3 hB (by omega) | exact vcL hB (by omega)) (by first | assumption | rfl | decide | exact bL hB _ (by decide) | exact vc3 hB (by omega) | exact vcL hB (by omega)) (by first | assumption | rfl | decide | exact bL hB _ (by decide) | exact vc3 hB (by omega) | exact vcL hB (by omega)) ?_)
          show aj_X G 42 _ _ _ _ _ _ _ _ _
          refine x_if_ne (q := 45) (t := 48) C 24 rfl (by decide) rfl (fun c5 => ?_) (fun c5 => ?_)
          · skip
            refine y_iinc3 (q := 51) C 27 rfl rfl (nI_1 j) (Nat.le_of_ble_eq_true rfl) rfl ?_
            refine x_goto (t := 6) C 28 rfl (by decide) ?_
            exact ih (j + 1) _ (by omega) (lt_snoc hp (by rw [show cdN b j = 7 - j from if_pos (by assumption)]; assumption))
          · skip
            refine y_iload4 (q := 47) C 25 rfl rfl ?_
            exact x_ireturn C Z 26 rfl rfl rfl (hK _ (by omega))
  exact lp6 8 0 _ (by omega) (fun q hq => absurd hq (Nat.not_lt_zero q))
set_option maxRecDepth 100000 in
set_option maxHeartbeats 800000 in
theorem s_X3_sinkIntoSorted {l : Launch} {I : Nat → Nat → Int32} {J : Nat → Nat → Int64} {V : Nat → Nat → Option Nat} {N : Nat → Nat} {L : List Nat} {K : aj_K} {c : Nat} {b : Bool} (hc8 : c < 8) (hB : bV V N L) (hK : ∀ V1 (a : Nat), bV V1 N L → (∀ i, i ≠ 27 → V1 i = V i) → a ≤ c → (∀ p, V1 27 p = insV (V 27) c a p) → (∀ p, a ≤ p → p < c → pO I (vc V c) (vc V p) = sgW b) → (a ≠ 0 → ¬ pO I (vc V c) (vc V (a - 1)) = sgW b) → K (.inl none) I J V1 N L) : aj_M l yX3_sinkIntoSorted (aj_wc yX3_sinkIntoSorted cX3_sinkIntoSorted 6 none) (aj_rm 3 0 0) [] [.ref 20, .int (nI c), .int (bI b)] I J V N L K := by
  refine aj_intro (tbl := t_X3_sinkIntoSorted) (lv0 := [some (.ref 20), some (.int (nI c)), some (.int (bI b)), none, none, none]) (by decide) T_X3_sinkIntoSorted aj_f0 (Nat.le_of_ble_eq_true rfl) rfl ?_
  intro G hl C Z NX hnm hGL hGF
  have C : aj_C G cX3_sinkIntoSorted t_X3_sinkIntoSorted RX3 (aj_rm 3 0 0) 6 := C
  refine y_aload0 (q := 1) C 0 rfl rfl ?_
  refine x_getR (q := 4) C 1 rfl rfl fl_RX3_11 (bv_4_0 hB) (fun _ _ => rfl) (by first | assumption | rfl | decide | exact bL hB _ (by decide) | exact vc3 hB (by omega) | exact vcL hB (by omega) | exact bL hB1 _ (by decide) | exact vc3 hB1 (by omega) | exact vcL hB1 (by omega)) (by first | assumption | rfl | decide | exact bL hB _ (by decide) | exact vc3 hB (by omega) | exact vcL hB (by omega) | exact bL hB1 _ (by decide) | exact vc3 hB1 (by omega) | exact vcL hB1 (by omega)) ?_
  refine y_iload1 (q := 5) C 2 rfl rfl ?_
  refine x_aald (q := 6) C 3 rfl rfl (by first | assumption | rfl | decide | exact bL hB _ (by decide) | exact vc3 hB (by omega) | exact vcL hB (by omega) | exact bL hB1 _ (by decide) | exact vc3 hB1 (by omega) | exact vcL hB1 (by omega)) (by first | assumption | rfl | decide | exact bL hB _ (by decide) | exact vc3 hB (by omega) | exact vcL hB (by omega) | exact bL hB1 _ (by decide) | exact vc3 hB1 (by omega) | exact vcL hB1 (by omega)) (by (first | rw [bn24 hB] | rw [bn40 hB] | rw [bn56 hB] | rw [bn72 hB] | rw [bn27 hB] | rw [bn43 hB] | rw [bn25 hB] | rw [bn41 hB] | rw [bn88 hB] | rw [bn104 hB] | rw [bn120 hB] | rw [bn136 hB] | rw [bn152 hB] | rw [bn168 hB]); first | assumption | exact vp_in_nI (by omega) (by decide)) (by rw [nI_clamp (by omega)]; exact vcV hB (by omega)) ?_
  refine y_astore3 (q := 7) C 4 rfl rfl (Nat.le_of_ble_eq_true rfl) rfl ?_
  refine y_iload2 (q := 8) C 5 rfl rfl ?_
  refine x_if_eqB (q := 11) (t := 15) C 6 rfl (by decide) rfl (fun c1 => ?_) (fun c1 => ?_)
  · skip
    refine x_iconst (q := 16) C 9 (n := (-1)) (v := (-1)) rfl rfl rfl ?_
    refine y_istore4 (q := 18) C 10 rfl rfl (Nat.le_of_ble_eq_true rfl) rfl ?_
    obtain ⟨w, hw⟩ : ∃ w : Int32, w = -1 := ⟨_, rfl⟩
    rw [← hw]
    have hw2 : w = sgW b := by rw [hw, show b = false by assumption]; rfl
    refine y_iload1 (q := 19) C 11 rfl rfl ?_
    refine y_istore5 (q := 21) C 12 rfl rfl (Nat.le_of_ble_eq_true rfl) rfl ?_
    have lp21 : ∀ (m a : Nat) (V1 : Nat → Nat → Option Nat), a = m → a ≤ c → (∀ p, V1 27 p = if a < p ∧ p ≤ c then V 27 (p - 1) else V 27 p) → (∀ p, a ≤ p → p < c → pO I (vc V c) (vc V p) = w) → bV V1 N L → (∀ i, i ≠ 27 → V1 i = V i) → aj_X G 21 [some (.ref 20), some (.int (nI c)), some (.int (bI b)), some (.ref (vc V c)), some (.int w), some (.int (nI a))] [] I J V1 N L 0 0 := by
      intro m
      induction m with
      | zero =>
        intro a V1 ha hac hq hw1 hB1 hv1
        refine y_iload5 (q := 23) C 13 rfl rfl ?_
        refine x_if_le (q := 26) (t := 66) C 14 rfl (by decide) rfl (fun c2 => ?_) (fun c2 => ?_)
        · skip
          refine y_aload0 (q := 67) C 37 rfl rfl ?_
          refine x_getR (q := 70) C 38 rfl rfl fl_RX3_11 (bv_4_0 hB1) (fun _ _ => rfl) (by first | assumption | rfl | decide | exact bL hB _ (by decide) | exact vc3 hB (by omega) | exact vcL hB (by omega) | exact bL hB1 _ (by decide) | exact vc3 hB1 (by omega) | exact vcL hB1 (by omega)) (by first | assumption | rfl | decide | exact bL hB _ (by decide) | exact vc3 hB (by omega) | exact vcL hB (by omega) | exact bL hB1 _ (by decide) | exact vc3 hB1 (by omega) | exact vcL hB1 (by omega)) ?_
          refine y_iload5 (q := 72) C 39 rfl rfl ?_
          refine y_aload3 (q := 73) C 40 rfl rfl ?_
          refine x_aast (q := 74) C 41 rfl rfl (by first | assumption | rfl | decide | exact bL hB _ (by decide) | exact vc3 hB (by omega) | exact vcL hB (by omega) | exact bL hB1 _ (by decide) | exact vc3 hB1 (by omega) | exact vcL hB1 (by omega)) (by first | assumption | rfl | decide | exact bL hB _ (by decide) | exact vc3 hB (by omega) | exact vcL hB (by omega) | exact bL hB1 _ (by decide) | exact vc3 hB1 (by omega) | exact vcL hB1 (by omega)) (vc3 hB hc8) (vcL hB hc8) (by (first | rw [bn24 hB1] | rw [bn40 hB1] | rw [bn56 hB1] | rw [bn72 hB1] | rw [bn27 hB1] | rw [bn43 hB1] | rw [bn25 hB1] | rw [bn41 hB1] | rw [bn88 hB1] | rw [bn104 hB1] | rw [bn120 hB1] | rw [bn136 hB1] | rw [bn152 hB1] | rw [bn168 hB1]); first | assumption | exact vp_in_nI (by omega) (by decide)) ?_
          rw [nI_clamp (by omega)]
          exact x_return C Z 42 rfl rfl (hK _ a (bV.v hB1 (fun i h1 h2 => aj_u_o _ _ h1) (fun k hk => by
  by_cases z : k = a
  · subst z; exact ⟨_, aj_u_s _ _ _ _, vcM hB (by omega)⟩
  · rw [aj_u_k _ _ _ z]; exact hB1.2.2.2.2.2 k hk)) (fun i h1 => (aj_u_o _ _ h1).trans (hv1 i h1)) hac (fun p => by
  unfold insV
  by_cases z : p = a
  · subst z
    rw [aj_u_s, if_neg (Nat.lt_irrefl p), if_pos rfl]
    exact (vcV hB hc8).symm
  · rw [aj_u_k _ _ _ z, hq p]
    by_cases w1 : p < a
    · rw [if_pos w1, if_neg (by omega)]
    · rw [if_neg w1, if_neg z]
      exact aj_if (by omega)) (fun p h1 h2 => (hw1 p h1 h2).trans hw2) (fun h => absurd ha h))
        · skip
          exact absurd (by rw [ha]; decide) c2
      | succ m ih =>
        intro a V1 ha hac hq hw1 hB1 hv1
        refine y_iload5 (q := 23) C 13 rfl rfl ?_
        refine x_if_le (q := 26) (t := 66) C 14 rfl (by decide) rfl (fun c3 => ?_) (fun c3 => ?_)
        · skip
          exact absurd c3 (nI_nle (by omega) (by omega))
        · skip
          have hvm : vc V1 (a - 1) = vc V (a - 1) := vc_c ((hq (a - 1)).trans (if_neg (by omega)))
          refine y_aload3 (q := 27) C 15 rfl rfl ?_
          refine y_aload0 (q := 28) C 16 rfl rfl ?_
          refine x_getR (q := 31) C 17 rfl rfl fl_RX3_11 (bv_4_0 hB1) (fun _ _ => rfl) (by first | assumption | rfl | decide | exact bL hB _ (by decide) | exact vc3 hB (by omega) | exact vcL hB (by omega) | exact bL hB1 _ (by decide) | exact vc3 hB1 (by omega) | exact vcL hB1 (by omega)) (by first | assumption | rfl | decide | exact bL hB _ (by decide) | exact vc3 hB (by omega) | exact vcL hB (by omega) | exact bL hB1 _ (by decide) | exact vc3 hB1 (by omega) | exact vcL hB1 (by omega)) ?_
          refine y_iload5 (q := 33) C 18 rfl rfl ?_
          refine x_iconst (q := 34) C 19 (n := (1)) (v := nI 1) rfl rfl rfl ?_
          refine x_isub (q := 35) C 20 rfl rfl ?_
          rw [pk_sub (by omega)]
          refine x_aald (q := 36) C 21 rfl rfl (by first | assumption | rfl | decide | exact bL hB _ (by decide) | exact vc3 hB (by omega) | exact vcL hB (by omega) | exact bL hB1 _ (by decide) | exact vc3 hB1 (by omega) | exact vcL hB1 (by omega)) (by first | assumption | rfl | decide | exact bL hB _ (by decide) | exact vc3 hB (by omega) | exact vcL hB (by omega) | exact bL hB1 _ (by decide) | exact vc3 hB1 (by omega) | exact vcL hB1 (by omega)) (by (first | rw [bn24 hB1] | rw [bn40 hB1] | rw [bn56 hB1] | rw [bn72 hB1] | rw [bn27 hB1] | rw [bn43 hB1] | rw [bn25 hB1] | rw [bn41 hB1] | rw [bn88 hB1] | rw [bn104 hB1] | rw [bn120 hB1] | rw [bn136 hB1] | rw [bn152 hB1] | rw [bn168 hB1]); first | assumption | exact vp_in_nI (by omega) (by decide)) (by rw [nI_clamp (by omega)]; exact vcV hB1 (by omega)) ?_
          refine y_cV1 (q := 39) C 22 rfl rfl ml_RX3_88 cd_X2_orderTo cv_X2_orderTo (by first | exact ⟨by decide, rfl⟩ | exact vcR hB (by omega)) (by first | assumption | rfl | decide | exact bL hB _ (by decide) | exact vc3 hB (by omega) | exact vcL hB (by omega) | exact bL hB1 _ (by decide) | exact vc3 hB1 (by omega) | exact vcL hB1 (by omega)) (by decide) (by decide) (Nat.le_of_ble_eq_true rfl) (s_X2_orderTo (by first | assumption | rfl | decide | exact bL hB _ (by decide) | exact vc3 hB (by omega) | exact vcL hB (by omega) | exact bL hB1 _ (by decide) | exact vc3 hB1 (by omega) | exact vcL hB1 (by omega)) (by first | assumption | rfl | decide | exact bL hB _ (by decide) | exact vc3 hB (by omega) | exact vcL hB (by omega) | exact bL hB1 _ (by decide) | exact vc3 hB1 (by omega) | exact vcL hB1 (by omega)) (by first | assumption | rfl | decide | exact bL hB _ (by decide) | exact vc3 hB (by omega) | exact vcL hB (by omega) | exact bL hB1 _ (by decide) | exact vc3 hB1 (by omega) | exact vcL hB1 (by omega)) (by first | assumption | rfl | decide | exact bL hB _ (by decide) | exact vc3 hB (by omega) | exact vcL hB (by omega) | exact bL hB1 _ (by decide) | exact vc3 hB1 (by omega) | exact vcL hB1 (by omega)) ?_)
          show aj_X G 39 _ _ _ _ _ _ _ _ _
          refine y_iload4 (q := 41) C 23 rfl rfl ?_
          refine x_icmp_ne (q := 44) (t := 66) C 24 rfl (by decide) rfl (fun c4 => ?_) (fun c4 => ?_)
          · skip
            refine y_aload0 (q := 67) C 37 rfl rfl ?_
            refine x_getR (q := 70) C 38 rfl rfl fl_RX3_11 (bv_4_0 hB1) (fun _ _ => rfl) (by first | assumption | rfl | decide | exact bL hB _ (by decide) | exact vc3 hB (by omega) | exact vcL hB (by omega) | exact bL hB1 _ (by decide) | exact vc3 hB1 (by omega) | exact vcL hB1 (by omega)) (by first | assumption | rfl | decide | exact bL hB _ (by decide) | exact vc3 hB (by omega) | exact vcL hB (by omega) | exact bL hB1 _ (by decide) | exact vc3 hB1 (by omega) | exact vcL hB1 (by omega)) ?_
            refine y_iload5 (q := 72) C 39 rfl rfl ?_
            refine y_aload3 (q := 73) C 40 rfl rfl ?_
            refine x_aast (q := 74) C 41 rfl rfl (by first | assumption | rfl | decide | exact bL hB _ (by decide) | exact vc3 hB (by omega) | exact vcL hB (by omega) | exact bL hB1 _ (by decide) | exact vc3 hB1 (by omega) | exact vcL hB1 (by omega)) (by first | assumption | rfl | decide | exact bL hB _ (by decide) | exact vc3 hB (by omega) | exact vcL hB (by omega) | exact bL hB1 _ (by decide) | exact vc3 hB1 (by omega) | exact vcL hB1 (by omega)) (vc3 hB hc8) (vcL hB hc8) (by (first | rw [bn24 hB1] | rw [bn40 hB1] | rw [bn56 hB1] | rw [bn72 hB1] | rw [bn27 hB1] | rw [bn43 hB1] | rw [bn25 hB1] | rw [bn41 hB1] | rw [bn88 hB1] | rw [bn104 hB1] | rw [bn120 hB1] | rw [bn136 hB1] | rw [bn152 hB1] | rw [bn168 hB1]); first | assumption | exact vp_in_nI (by omega) (by decide)) ?_
            rw [nI_clamp (by omega)]
            exact x_return C Z 42 rfl rfl (hK _ a (bV.v hB1 (fun i h1 h2 => aj_u_o _ _ h1) (fun k hk => by
  by_cases z : k = a
  · subst z; exact ⟨_, aj_u_s _ _ _ _, vcM hB (by omega)⟩
  · rw [aj_u_k _ _ _ z]; exact hB1.2.2.2.2.2 k hk)) (fun i h1 => (aj_u_o _ _ h1).trans (hv1 i h1)) hac (fun p => by
  unfold insV
  by_cases z : p = a
  · subst z
    rw [aj_u_s, if_neg (Nat.lt_irrefl p), if_pos rfl]
    exact (vcV hB hc8).symm
  · rw [aj_u_k _ _ _ z, hq p]
    by_cases w1 : p < a
    · rw [if_pos w1, if_neg (by omega)]
    · rw [if_neg w1, if_neg z]
      exact aj_if (by omega)) (fun p h1 h2 => (hw1 p h1 h2).trans hw2) (fun _ => by rw [← hw2, ← hvm]; assumption))
          · skip
            refine y_aload0 (q := 45) C 25 rfl rfl ?_
            refine x_getR (q := 48) C 26 rfl rfl fl_RX3_11 (bv_4_0 hB1) (fun _ _ => rfl) (by first | assumption | rfl | decide | exact bL hB _ (by decide) | exact vc3 hB (by omega) | exact vcL hB (by omega) | exact bL hB1 _ (by decide) | exact vc3 hB1 (by omega) | exact vcL hB1 (by omega)) (by first | assumption | rfl | decide | exact bL hB _ (by decide) | exact vc3 hB (by omega) | exact vcL hB (by omega) | exact bL hB1 _ (by decide) | exact vc3 hB1 (by omega) | exact vcL hB1 (by omega)) ?_
            refine y_iload5 (q := 50) C 27 rfl rfl ?_
            refine y_aload0 (q := 51) C 28 rfl rfl ?_
            refine x_getR (q := 54) C 29 rfl rfl fl_RX3_11 (bv_4_0 hB1) (fun _ _ => rfl) (by first | assumption | rfl | decide | exact bL hB _ (by decide) | exact vc3 hB (by omega) | exact vcL hB (by omega) | exact bL hB1 _ (by decide) | exact vc3 hB1 (by omega) | exact vcL hB1 (by omega)) (by first | assumption | rfl | decide | exact bL hB _ (by decide) | exact vc3 hB (by omega) | exact vcL hB (by omega) | exact bL hB1 _ (by decide) | exact vc3 hB1 (by omega) | exact vcL hB1 (by omega)) ?_
            refine y_iload5 (q := 56) C 30 rfl rfl ?_
            refine x_iconst (q := 57) C 31 (n := (1)) (v := nI 1) rfl rfl rfl ?_
            refine x_isub (q := 58) C 32 rfl rfl ?_
            rw [pk_sub (by omega)]
            refine x_aald (q := 59) C 33 rfl rfl (by first | assumption | rfl | decide | exact bL hB _ (by decide) | exact vc3 hB (by omega) | exact vcL hB (by omega) | exact bL hB1 _ (by decide) | exact vc3 hB1 (by omega) | exact vcL hB1 (by omega)) (by first | assumption | rfl | decide | exact bL hB _ (by decide) | exact vc3 hB (by omega) | exact vcL hB (by omega) | exact bL hB1 _ (by decide) | exact vc3 hB1 (by omega) | exact vcL hB1 (by omega)) (by (first | rw [bn24 hB1] | rw [bn40 hB1] | rw [bn56 hB1] | rw [bn72 hB1] | rw [bn27 hB1] | rw [bn43 hB1] | rw [bn25 hB1] | rw [bn41 hB1] | rw [bn88 hB1] | rw [bn104 hB1] | rw [bn120 hB1] | rw [bn136 hB1] | rw [bn152 hB1] | rw [bn168 hB1]); first | assumption | exact vp_in_nI (by omega) (by decide)) (by rw [nI_clamp (by omega)]; exact vcV hB1 (by omega)) ?_
            refine x_aast (q := 60) C 34 rfl rfl (by first | assumption | rfl | decide | exact bL hB _ (by decide) | exact vc3 hB (by omega) | exact vcL hB (by omega) | exact bL hB1 _ (by decide) | exact vc3 hB1 (by omega) | exact vcL hB1 (by omega)) (by first | assumption | rfl | decide | exact bL hB _ (by decide) | exact vc3 hB (by omega) | exact vcL hB (by omega) | exact bL hB1 _ (by decide) | exact vc3 hB1 (by omega) | exact vcL hB1 (by omega)) (vc3 hB1 (by omega)) (vcL hB1 (by omega)) (by (first | rw [bn24 hB1] | rw [bn40 hB1] | rw [bn56 hB1] | rw [bn72 hB1] | rw [bn27 hB1] | rw [bn43 hB1] | rw [bn25 hB1] | rw [bn41 hB1] | rw [bn88 hB1] | rw [bn104 hB1] | rw [bn120 hB1] | rw [bn136 hB1] | rw [bn152 hB1] | rw [bn168 hB1]); first | assumption | exact vp_in_nI (by omega) (by decide)) ?_
            rw [nI_clamp (by omega)]
            refine y_iinc5 (q := 63) C 35 rfl rfl (v := nI m) (by rw [ha]; exact pk_m1 m) (Nat.le_of_ble_eq_true rfl) rfl ?_
            refine x_goto (t := 21) C 36 rfl (by decide) ?_
            exact ih m _ rfl (by omega) (fun p => by
              by_cases z : p = a
              · subst z
                rw [aj_u_s, hvm, if_pos (show m < p ∧ p ≤ c by omega)]
                exact (vcV hB (by omega)).symm
              · rw [aj_u_k _ _ _ z, hq p]
                exact aj_if (by omega)) (fun p h1 h2 => by
              by_cases z : p = m
              · rw [show p = a - 1 by omega, ← hvm]; assumption
              · exact hw1 p (by omega) h2) (bV.v hB1 (fun i h1 h2 => aj_u_o _ _ h1) (fun k hk => by
              by_cases z : k = a
              · subst z; exact ⟨_, aj_u_s _ _ _ _, vcM hB1 (by omega)⟩
              · rw [aj_u_k _ _ _ z]; exact hB1.2.2.2.2.2 k hk)) (fun i h1 => (aj_u_o _ _ h1).trans (hv1 i h1))
    exact lp21 c c V rfl (Nat.le_refl c) (fun p => (if_neg (by omega)).symm) (fun p h1 h2 => absurd h2 (by omega)) hB (fun _ _ => rfl)
  · skip
    refine x_iconst (q := 12) C 7 (n := (1)) (v := (1)) rfl rfl rfl ?_
    refine x_goto (t := 16) C 8 rfl (by decide) ?_
    refine y_istore4 (q := 18) C 10 rfl rfl (Nat.le_of_ble_eq_true rfl) rfl ?_
    obtain ⟨w, hw⟩ : ∃ w : Int32, w = 1 := ⟨_, rfl⟩
    rw [← hw]
    have hw2 : w = sgW b := by rw [hw, show b = true by assumption]; rfl
    refine y_iload1 (q := 19) C 11 rfl rfl ?_
    refine y_istore5 (q := 21) C 12 rfl rfl (Nat.le_of_ble_eq_true rfl) rfl ?_
    have lp21 : ∀ (m a : Nat) (V1 : Nat → Nat → Option Nat), a = m → a ≤ c → (∀ p, V1 27 p = if a < p ∧ p ≤ c then V 27 (p - 1) else V 27 p) → (∀ p, a ≤ p → p < c → pO I (vc V c) (vc V p) = w) → bV V1 N L → (∀ i, i ≠ 27 → V1 i = V i) → aj_X G 21 [some (.ref 20), some (.int (nI c)), some (.int (bI b)), some (.ref (vc V c)), some (.int w), some (.int (nI a))] [] I J V1 N L 0 0 := by
      intro m
      induction m with
      | zero =>
        intro a V1 ha hac hq hw1 hB1 hv1
        refine y_iload5 (q := 23) C 13 rfl rfl ?_
        refine x_if_le (q := 26) (t := 66) C 14 rfl (by decide) rfl (fun c5 => ?_) (fun c5 => ?_)
        · skip
          refine y_aload0 (q := 67) C 37 rfl rfl ?_
          refine x_getR (q := 70) C 38 rfl rfl fl_RX3_11 (bv_4_0 hB1) (fun _ _ => rfl) (by first | assumption | rfl | decide | exact bL hB _ (by decide) | exact vc3 hB (by omega) | exact vcL hB (by omega) | exact bL hB1 _ (by decide) | exact vc3 hB1 (by omega) | exact vcL hB1 (by omega)) (by first | assumption | rfl | decide | exact bL hB _ (by decide) | exact vc3 hB (by omega) | exact vcL hB (by omega) | exact bL hB1 _ (by decide) | exact vc3 hB1 (by omega) | exact vcL hB1 (by omega)) ?_
          refine y_iload5 (q := 72) C 39 rfl rfl ?_
          refine y_aload3 (q := 73) C 40 rfl rfl ?_
          refine x_aast (q := 74) C 41 rfl rfl (by first | assumption | rfl | decide | exact bL hB _ (by decide) | exact vc3 hB (by omega) | exact vcL hB (by omega) | exact bL hB1 _ (by decide) | exact vc3 hB1 (by omega) | exact vcL hB1 (by omega)) (by first | assumption | rfl | decide | exact bL hB _ (by decide) | exact vc3 hB (by omega) | exact vcL hB (by omega) | exact bL hB1 _ (by decide) | exact vc3 hB1 (by omega) | exact vcL hB1 (by omega)) (vc3 hB hc8) (vcL hB hc8) (by (first | rw [bn24 hB1] | rw [bn40 hB1] | rw [bn56 hB1] | rw [bn72 hB1] | rw [bn27 hB1] | rw [bn43 hB1] | rw [bn25 hB1] | rw [bn41 hB1] | rw [bn88 hB1] | rw [bn104 hB1] | rw [bn120 hB1] | rw [bn136 hB1] | rw [bn152 hB1] | rw [bn168 hB1]); first | assumption | exact vp_in_nI (by omega) (by decide)) ?_
          rw [nI_clamp (by omega)]
          exact x_return C Z 42 rfl rfl (hK _ a (bV.v hB1 (fun i h1 h2 => aj_u_o _ _ h1) (fun k hk => by
  by_cases z : k = a
  · subst z; exact ⟨_, aj_u_s _ _ _ _, vcM hB (by omega)⟩
  · rw [aj_u_k _ _ _ z]; exact hB1.2.2.2.2.2 k hk)) (fun i h1 => (aj_u_o _ _ h1).trans (hv1 i h1)) hac (fun p => by
  unfold insV
  by_cases z : p = a
  · subst z
    rw [aj_u_s, if_neg (Nat.lt_irrefl p), if_pos rfl]
    exact (vcV hB hc8).symm
  · rw [aj_u_k _ _ _ z, hq p]
    by_cases w1 : p < a
    · rw [if_pos w1, if_neg (by omega)]
    · rw [if_neg w1, if_neg z]
      exact aj_if (by omega)) (fun p h1 h2 => (hw1 p h1 h2).trans hw2) (fun h => absurd ha h))
        · skip
          exact absurd (by rw [ha]; decide) c5
      | succ m ih =>
        intro a V1 ha hac hq hw1 hB1 hv1
        refine y_iload5 (q := 23) C 13 rfl rfl ?_
        refine x_if_le (q := 26) (t := 66) C 14 rfl (by decide) rfl (fun c6 => ?_) (fun c6 => ?_)
        · skip
          exact absurd c6 (nI_nle (by omega) (by omega))
        · skip
          have hvm : vc V1 (a - 1) = vc V (a - 1) := vc_c ((hq (a - 1)).trans (if_neg (by omega)))
          refine y_aload3 (q := 27) C 15 rfl rfl ?_
          refine y_aload0 (q := 28) C 16 rfl rfl ?_
          refine x_getR (q := 31) C 17 rfl rfl fl_RX3_11 (bv_4_0 hB1) (fun _ _ => rfl) (by first | assumption | rfl | decide | exact bL hB _ (by decide) | exact vc3 hB (by omega) | exact vcL hB (by omega) | exact bL hB1 _ (by decide) | exact vc3 hB1 (by omega) | exact vcL hB1 (by omega)) (by first | assumption | rfl | decide | exact bL hB _ (by decide) | exact vc3 hB (by omega) | exact vcL hB (by omega) | exact bL hB1 _ (by decide) | exact vc3 hB1 (by omega) | exact vcL hB1 (by omega)) ?_
          refine y_iload5 (q := 33) C 18 rfl rfl ?_
          refine x_iconst (q := 34) C 19 (n := (1)) (v := nI 1) rfl rfl rfl ?_
          refine x_isub (q := 35) C 20 rfl rfl ?_
          rw [pk_sub (by omega)]
          refine x_aald (q := 36) C 21 rfl rfl (by first | assumption | rfl | decide | exact bL hB _ (by decide) | exact vc3 hB (by omega) | exact vcL hB (by omega) | exact bL hB1 _ (by decide) | exact vc3 hB1 (by omega) | exact vcL hB1 (by omega)) (by first | assumption | rfl | decide | exact bL hB _ (by decide) | exact vc3 hB (by omega) | exact vcL hB (by omega) | exact bL hB1 _ (by decide) | exact vc3 hB1 (by omega) | exact vcL hB1 (by omega)) (by (first | rw [bn24 hB1] | rw [bn40 hB1] | rw [bn56 hB1] | rw [bn72 hB1] | rw [bn27 hB1] | rw [bn43 hB1] | rw [bn25 hB1] | rw [bn41 hB1] | rw [bn88 hB1] | rw [bn104 hB1] | rw [bn120 hB1] | rw [bn136 hB1] | rw [bn152 hB1] | rw [bn168 hB1]); first | assumption | exact vp_in_nI (by omega) (by decide)) (by rw [nI_clamp (by omega)]; exact vcV hB1 (by omega)) ?_
          refine y_cV1 (q := 39) C 22 rfl rfl ml_RX3_88 cd_X2_orderTo cv_X2_orderTo (by first | exact ⟨by decide, rfl⟩ | exact vcR hB (by omega)) (by first | assumption | rfl | decide | exact bL hB _ (by decide) | exact vc3 hB (by omega) | exact vcL hB (by omega) | exact bL hB1 _ (by decide) | exact vc3 hB1 (by omega) | exact vcL hB1 (by omega)) (by decide) (by decide) (Nat.le_of_ble_eq_true rfl) (s_X2_orderTo (by first | assumption | rfl | decide | exact bL hB _ (by decide) | exact vc3 hB (by omega) | exact vcL hB (by omega) | exact bL hB1 _ (by decide) | exact vc3 hB1 (by omega) | exact vcL hB1 (by omega)) (by first | assumption | rfl | decide | exact bL hB _ (by decide) | exact vc3 hB (by omega) | exact vcL hB (by omega) | exact bL hB1 _ (by decide) | exact vc3 hB1 (by omega) | exact vcL hB1 (by omega)) (by first | assumption | rfl | decide | exact bL hB _ (by decide) | exact vc3 hB (by omega) | exact vcL hB (by omega) | exact bL hB1 _ (by decide) | exact vc3 hB1 (by omega) | exact vcL hB1 (by omega)) (by first | assumption | rfl | decide | exact bL hB _ (by decide) | exact vc3 hB (by omega) | exact vcL hB (by omega) | exact bL hB1 _ (by decide) | exact vc3 hB1 (by omega) | exact vcL hB1 (by omega)) ?_)
          show aj_X G 39 _ _ _ _ _ _ _ _ _
          refine y_iload4 (q := 41) C 23 rfl rfl ?_
          refine x_icmp_ne (q := 44) (t := 66) C 24 rfl (by decide) rfl (fun c7 => ?_) (fun c7 => ?_)
          · skip
            refine y_aload0 (q := 67) C 37 rfl rfl ?_
            refine x_getR (q := 70) C 38 rfl rfl fl_RX3_11 (bv_4_0 hB1) (fun _ _ => rfl) (by first | assumption | rfl | decide | exact bL hB _ (by decide) | exact vc3 hB (by omega) | exact vcL hB (by omega) | exact bL hB1 _ (by decide) | exact vc3 hB1 (by omega) | exact vcL hB1 (by omega)) (by first | assumption | rfl | decide | exact bL hB _ (by decide) | exact vc3 hB (by omega) | exact vcL hB (by omega) | exact bL hB1 _ (by decide) | exact vc3 hB1 (by omega) | exact vcL hB1 (by omega)) ?_
            refine y_iload5 (q := 72) C 39 rfl rfl ?_
            refine y_aload3 (q := 73) C 40 rfl rfl ?_
            refine x_aast (q := 74) C 41 rfl rfl (by first | assumption | rfl | decide | exact bL hB _ (by decide) | exact vc3 hB (by omega) | exact vcL hB (by omega) | exact bL hB1 _ (by decide) | exact vc3 hB1 (by omega) | exact vcL hB1 (by omega)) (by first | assumption | rfl | decide | exact bL hB _ (by decide) | exact vc3 hB (by omega) | exact vcL hB (by omega) | exact bL hB1 _ (by decide) | exact vc3 hB1 (by omega) | exact vcL hB1 (by omega)) (vc3 hB hc8) (vcL hB hc8) (by (first | rw [bn24 hB1] | rw [bn40 hB1] | rw [bn56 hB1] | rw [bn72 hB1] | rw [bn27 hB1] | rw [bn43 hB1] | rw [bn25 hB1] | rw [bn41 hB1] | rw [bn88 hB1] | rw [bn104 hB1] | rw [bn120 hB1] | rw [bn136 hB1] | rw [bn152 hB1] | rw [bn168 hB1]); first | assumption | exact vp_in_nI (by omega) (by decide)) ?_
            rw [nI_clamp (by omega)]
            exact x_return C Z 42 rfl rfl (hK _ a (bV.v hB1 (fun i h1 h2 => aj_u_o _ _ h1) (fun k hk => by
  by_cases z : k = a
  · subst z; exact ⟨_, aj_u_s _ _ _ _, vcM hB (by omega)⟩
  · rw [aj_u_k _ _ _ z]; exact hB1.2.2.2.2.2 k hk)) (fun i h1 => (aj_u_o _ _ h1).trans (hv1 i h1)) hac (fun p => by
  unfold insV
  by_cases z : p = a
  · subst z
    rw [aj_u_s, if_neg (Nat.lt_irrefl p), if_pos rfl]
    exact (vcV hB hc8).symm
  · rw [aj_u_k _ _ _ z, hq p]
    by_cases w1 : p < a
    · rw [if_pos w1, if_neg (by omega)]
    · rw [if_neg w1, if_neg z]
      exact aj_if (by omega)) (fun p h1 h2 => (hw1 p h1 h2).trans hw2) (fun _ => by rw [← hw2, ← hvm]; assumption))
          · skip
            refine y_aload0 (q := 45) C 25 rfl rfl ?_
            refine x_getR (q := 48) C 26 rfl rfl fl_RX3_11 (bv_4_0 hB1) (fun _ _ => rfl) (by first | assumption | rfl | decide | exact bL hB _ (by decide) | exact vc3 hB (by omega) | exact vcL hB (by omega) | exact bL hB1 _ (by decide) | exact vc3 hB1 (by omega) | exact vcL hB1 (by omega)) (by first | assumption | rfl | decide | exact bL hB _ (by decide) | exact vc3 hB (by omega) | exact vcL hB (by omega) | exact bL hB1 _ (by decide) | exact vc3 hB1 (by omega) | exact vcL hB1 (by omega)) ?_
            refine y_iload5 (q := 50) C 27 rfl rfl ?_
            refine y_aload0 (q := 51) C 28 rfl rfl ?_
            refine x_getR (q := 54) C 29 rfl rfl fl_RX3_11 (bv_4_0 hB1) (fun _ _ => rfl) (by first | assumption | rfl | decide | exact bL hB _ (by decide) | exact vc3 hB (by omega) | exact vcL hB (by omega) | exact bL hB1 _ (by decide) | exact vc3 hB1 (by omega) | exact vcL hB1 (by omega)) (by first | assumption | rfl | decide | exact bL hB _ (by decide) | exact vc3 hB (by omega) | exact vcL hB (by omega) | exact bL hB1 _ (by decide) | exact vc3 hB1 (by omega) | exact vcL hB1 (by omega)) ?_
            refine y_iload5 (q := 56) C 30 rfl rfl ?_
            refine x_iconst (q := 57) C 31 (n := (1)) (v := nI 1) rfl rfl rfl ?_
            refine x_isub (q := 58) C 32 rfl rfl ?_
            rw [pk_sub (by omega)]
            refine x_aald (q := 59) C 33 rfl rfl (by first | assumption | rfl | decide | exact bL hB _ (by decide) | exact vc3 hB (by omega) | exact vcL hB (by omega) | exact bL hB1 _ (by decide) | exact vc3 hB1 (by omega) | exact vcL hB1 (by omega)) (by first | assumption | rfl | decide | exact bL hB _ (by decide) | exact vc3 hB (by omega) | exact vcL hB (by omega) | exact bL hB1 _ (by decide) | exact vc3 hB1 (by omega) | exact vcL hB1 (by omega)) (by (first | rw [bn24 hB1] | rw [bn40 hB1] | rw [bn56 hB1] | rw [bn72 hB1] | rw [bn27 hB1] | rw [bn43 hB1] | rw [bn25 hB1] | rw [bn41 hB1] | rw [bn88 hB1] | rw [bn104 hB1] | rw [bn120 hB1] | rw [bn136 hB1] | rw [bn152 hB1] | rw [bn168 hB1]); first | assumption | exact vp_in_nI (by omega) (by decide)) (by rw [nI_clamp (by omega)]; exact vcV hB1 (by omega)) ?_
            refine x_aast (q := 60) C 34 rfl rfl (by first | assumption | rfl | decide | exact bL hB _ (by decide) | exact vc3 hB (by omega) | exact vcL hB (by omega) | exact bL hB1 _ (by decide) | exact vc3 hB1 (by omega) | exact vcL hB1 (by omega)) (by first | assumption | rfl | decide | exact bL hB _ (by decide) | exact vc3 hB (by omega) | exact vcL hB (by omega) | exact bL hB1 _ (by decide) | exact vc3 hB1 (by omega) | exact vcL hB1 (by omega)) (vc3 hB1 (by omega)) (vcL hB1 (by omega)) (by (first | rw [bn24 hB1] | rw [bn40 hB1] | rw [bn56 hB1] | rw [bn72 hB1] | rw [bn27 hB1] | rw [bn43 hB1] | rw [bn25 hB1] | rw [bn41 hB1] | rw [bn88 hB1] | rw [bn104 hB1] | rw [bn120 hB1] | rw [bn136 hB1] | rw [bn152 hB1] | rw [bn168 hB1]); first | assumption | exact vp_in_nI (by omega) (by decide)) ?_
            rw [nI_clamp (by omega)]
            refine y_iinc5 (q := 63) C 35 rfl rfl (v := nI m) (by rw [ha]; exact pk_m1 m) (Nat.le_of_ble_eq_true rfl) rfl ?_
            refine x_goto (t := 21) C 36 rfl (by decide) ?_
            exact ih m _ rfl (by omega) (fun p => by
              by_cases z : p = a
              · subst z
                rw [aj_u_s, hvm, if_pos (show m < p ∧ p ≤ c by omega)]
                exact (vcV hB (by omega)).symm
              · rw [aj_u_k _ _ _ z, hq p]
                exact aj_if (by omega)) (fun p h1 h2 => by
              by_cases z : p = m
              · rw [show p = a - 1 by omega, ← hvm]; assumption
              · exact hw1 p (by omega) h2) (bV.v hB1 (fun i h1 h2 => aj_u_o _ _ h1) (fun k hk => by
              by_cases z : k = a
              · subst z; exact ⟨_, aj_u_s _ _ _ _, vcM hB1 (by omega)⟩
              · rw [aj_u_k _ _ _ z]; exact hB1.2.2.2.2.2 k hk)) (fun i h1 => (aj_u_o _ _ h1).trans (hv1 i h1))
    exact lp21 c c V rfl (Nat.le_refl c) (fun p => (if_neg (by omega)).symm) (fun p h1 h2 => absurd h2 (by omega)) hB (fun _ _ => rfl)
