set_option maxRecDepth 100000 in
set_option maxHeartbeats 800000 in
theorem s_X1_cross {l : Launch} {I : Nat → Nat → Int32} {J : Nat → Nat → Int64} {V : Nat → Nat → Option Nat} {N : Nat → Nat} {L : List Nat} {K : aj_K} {i j k : Nat} (hi : i < 13) (hj : j < 13) (hk : k < 13) (hB : bV V N L) (hK : K (.inl (some (.int (pCr (I 24 i) (I 40 i) (I 24 j) (I 40 j) (I 24 k) (I 40 k))))) I J V N L) : aj_M l yX1_cross (aj_wc yX1_cross cX1_cross 4 (some .int)) (aj_rm 0 0 0) [] [.ref 18, .int (nI i), .int (nI j), .int (nI k)] I J V N L K := by
  refine aj_intro (tbl := t_X1_cross) (lv0 := [some (.ref 18), some (.int (nI i)), some (.int (nI j)), some (.int (nI k))]) (by decide) T_X1_cross aj_f0 (Nat.le_of_ble_eq_true rfl) rfl ?_
  intro G hl C Z NX hnm hGL hGF
  have C : aj_C G cX1_cross t_X1_cross RX1 (aj_rm 0 0 0) 4 := C
  refine y_aload0 (q := 1) C 0 rfl rfl ?_
  refine x_getR (q := 4) C 1 rfl rfl fl_RX1_9 (bv_2_0 hB) (fun _ _ => rfl) (by first | assumption | rfl | decide | exact bL hB _ (by decide)) (by first | assumption | rfl | decide | exact bL hB _ (by decide)) ?_
  refine y_iload2 (q := 5) C 2 rfl rfl ?_
  refine x_iald (q := 6) C 3 rfl rfl (by first | assumption | rfl | decide | exact bL hB _ (by decide)) (by first | assumption | rfl | decide | exact bL hB _ (by decide)) (by (first | rw [bn24 hB] | rw [bn40 hB] | rw [bn56 hB] | rw [bn72 hB] | rw [bn27 hB] | rw [bn43 hB] | rw [bn25 hB] | rw [bn41 hB] | rw [bn88 hB] | rw [bn104 hB] | rw [bn120 hB] | rw [bn136 hB] | rw [bn152 hB] | rw [bn168 hB]); first | assumption | exact vp_in_nI (by omega) (by decide)) ?_
  rw [nI_clamp (by omega)]
  refine y_aload0 (q := 7) C 4 rfl rfl ?_
  refine x_getR (q := 10) C 5 rfl rfl fl_RX1_9 (bv_2_0 hB) (fun _ _ => rfl) (by first | assumption | rfl | decide | exact bL hB _ (by decide)) (by first | assumption | rfl | decide | exact bL hB _ (by decide)) ?_
  refine y_iload1 (q := 11) C 6 rfl rfl ?_
  refine x_iald (q := 12) C 7 rfl rfl (by first | assumption | rfl | decide | exact bL hB _ (by decide)) (by first | assumption | rfl | decide | exact bL hB _ (by decide)) (by (first | rw [bn24 hB] | rw [bn40 hB] | rw [bn56 hB] | rw [bn72 hB] | rw [bn27 hB] | rw [bn43 hB] | rw [bn25 hB] | rw [bn41 hB] | rw [bn88 hB] | rw [bn104 hB] | rw [bn120 hB] | rw [bn136 hB] | rw [bn152 hB] | rw [bn168 hB]); first | assumption | exact vp_in_nI (by omega) (by decide)) ?_
  rw [nI_clamp (by omega)]
  refine x_isub (q := 13) C 8 rfl rfl ?_
  refine y_aload0 (q := 14) C 9 rfl rfl ?_
  refine x_getR (q := 17) C 10 rfl rfl fl_RX1_13 (bv_2_1 hB) (fun _ _ => rfl) (by first | assumption | rfl | decide | exact bL hB _ (by decide)) (by first | assumption | rfl | decide | exact bL hB _ (by decide)) ?_
  refine y_iload3 (q := 18) C 11 rfl rfl ?_
  refine x_iald (q := 19) C 12 rfl rfl (by first | assumption | rfl | decide | exact bL hB _ (by decide)) (by first | assumption | rfl | decide | exact bL hB _ (by decide)) (by (first | rw [bn24 hB] | rw [bn40 hB] | rw [bn56 hB] | rw [bn72 hB] | rw [bn27 hB] | rw [bn43 hB] | rw [bn25 hB] | rw [bn41 hB] | rw [bn88 hB] | rw [bn104 hB] | rw [bn120 hB] | rw [bn136 hB] | rw [bn152 hB] | rw [bn168 hB]); first | assumption | exact vp_in_nI (by omega) (by decide)) ?_
  rw [nI_clamp (by omega)]
  refine y_aload0 (q := 20) C 13 rfl rfl ?_
  refine x_getR (q := 23) C 14 rfl rfl fl_RX1_13 (bv_2_1 hB) (fun _ _ => rfl) (by first | assumption | rfl | decide | exact bL hB _ (by decide)) (by first | assumption | rfl | decide | exact bL hB _ (by decide)) ?_
  refine y_iload1 (q := 24) C 15 rfl rfl ?_
  refine x_iald (q := 25) C 16 rfl rfl (by first | assumption | rfl | decide | exact bL hB _ (by decide)) (by first | assumption | rfl | decide | exact bL hB _ (by decide)) (by (first | rw [bn24 hB] | rw [bn40 hB] | rw [bn56 hB] | rw [bn72 hB] | rw [bn27 hB] | rw [bn43 hB] | rw [bn25 hB] | rw [bn41 hB] | rw [bn88 hB] | rw [bn104 hB] | rw [bn120 hB] | rw [bn136 hB] | rw [bn152 hB] | rw [bn168 hB]); first | assumption | exact vp_in_nI (by omega) (by decide)) ?_
  rw [nI_clamp (by omega)]
  refine x_isub (q := 26) C 17 rfl rfl ?_
  refine x_imul (q := 27) C 18 rfl rfl ?_
  refine y_aload0 (q := 28) C 19 rfl rfl ?_
  refine x_getR (q := 31) C 20 rfl rfl fl_RX1_13 (bv_2_1 hB) (fun _ _ => rfl) (by first | assumption | rfl | decide | exact bL hB _ (by decide)) (by first | assumption | rfl | decide | exact bL hB _ (by decide)) ?_
  refine y_iload2 (q := 32) C 21 rfl rfl ?_
  refine x_iald (q := 33) C 22 rfl rfl (by first | assumption | rfl | decide | exact bL hB _ (by decide)) (by first | assumption | rfl | decide | exact bL hB _ (by decide)) (by (first | rw [bn24 hB] | rw [bn40 hB] | rw [bn56 hB] | rw [bn72 hB] | rw [bn27 hB] | rw [bn43 hB] | rw [bn25 hB] | rw [bn41 hB] | rw [bn88 hB] | rw [bn104 hB] | rw [bn120 hB] | rw [bn136 hB] | rw [bn152 hB] | rw [bn168 hB]); first | assumption | exact vp_in_nI (by omega) (by decide)) ?_
  rw [nI_clamp (by omega)]
  refine y_aload0 (q := 34) C 23 rfl rfl ?_
  refine x_getR (q := 37) C 24 rfl rfl fl_RX1_13 (bv_2_1 hB) (fun _ _ => rfl) (by first | assumption | rfl | decide | exact bL hB _ (by decide)) (by first | assumption | rfl | decide | exact bL hB _ (by decide)) ?_
  refine y_iload1 (q := 38) C 25 rfl rfl ?_
  refine x_iald (q := 39) C 26 rfl rfl (by first | assumption | rfl | decide | exact bL hB _ (by decide)) (by first | assumption | rfl | decide | exact bL hB _ (by decide)) (by (first | rw [bn24 hB] | rw [bn40 hB] | rw [bn56 hB] | rw [bn72 hB] | rw [bn27 hB] | rw [bn43 hB] | rw [bn25 hB] | rw [bn41 hB] | rw [bn88 hB] | rw [bn104 hB] | rw [bn120 hB] | rw [bn136 hB] | rw [bn152 hB] | rw [bn168 hB]); first | assumption | exact vp_in_nI (by omega) (by decide)) ?_
  rw [nI_clamp (by omega)]
  refine x_isub (q := 40) C 27 rfl rfl ?_
  refine y_aload0 (q := 41) C 28 rfl rfl ?_
  refine x_getR (q := 44) C 29 rfl rfl fl_RX1_9 (bv_2_0 hB) (fun _ _ => rfl) (by first | assumption | rfl | decide | exact bL hB _ (by decide)) (by first | assumption | rfl | decide | exact bL hB _ (by decide)) ?_
  refine y_iload3 (q := 45) C 30 rfl rfl ?_
  refine x_iald (q := 46) C 31 rfl rfl (by first | assumption | rfl | decide | exact bL hB _ (by decide)) (by first | assumption | rfl | decide | exact bL hB _ (by decide)) (by (first | rw [bn24 hB] | rw [bn40 hB] | rw [bn56 hB] | rw [bn72 hB] | rw [bn27 hB] | rw [bn43 hB] | rw [bn25 hB] | rw [bn41 hB] | rw [bn88 hB] | rw [bn104 hB] | rw [bn120 hB] | rw [bn136 hB] | rw [bn152 hB] | rw [bn168 hB]); first | assumption | exact vp_in_nI (by omega) (by decide)) ?_
  rw [nI_clamp (by omega)]
  refine y_aload0 (q := 47) C 32 rfl rfl ?_
  refine x_getR (q := 50) C 33 rfl rfl fl_RX1_9 (bv_2_0 hB) (fun _ _ => rfl) (by first | assumption | rfl | decide | exact bL hB _ (by decide)) (by first | assumption | rfl | decide | exact bL hB _ (by decide)) ?_
  refine y_iload1 (q := 51) C 34 rfl rfl ?_
  refine x_iald (q := 52) C 35 rfl rfl (by first | assumption | rfl | decide | exact bL hB _ (by decide)) (by first | assumption | rfl | decide | exact bL hB _ (by decide)) (by (first | rw [bn24 hB] | rw [bn40 hB] | rw [bn56 hB] | rw [bn72 hB] | rw [bn27 hB] | rw [bn43 hB] | rw [bn25 hB] | rw [bn41 hB] | rw [bn88 hB] | rw [bn104 hB] | rw [bn120 hB] | rw [bn136 hB] | rw [bn152 hB] | rw [bn168 hB]); first | assumption | exact vp_in_nI (by omega) (by decide)) ?_
  rw [nI_clamp (by omega)]
  refine x_isub (q := 53) C 36 rfl rfl ?_
  refine x_imul (q := 54) C 37 rfl rfl ?_
  refine x_isub (q := 55) C 38 rfl rfl ?_
  exact x_ireturn C Z 39 rfl rfl rfl (hK)
set_option maxRecDepth 100000 in
set_option maxHeartbeats 800000 in
theorem s_X1_dot {l : Launch} {I : Nat → Nat → Int32} {J : Nat → Nat → Int64} {V : Nat → Nat → Option Nat} {N : Nat → Nat} {L : List Nat} {K : aj_K} {i j k : Nat} (hi : i < 13) (hj : j < 13) (hk : k < 13) (hB : bV V N L) (hK : K (.inl (some (.int (pDt (I 24 i) (I 40 i) (I 24 j) (I 40 j) (I 24 k) (I 40 k))))) I J V N L) : aj_M l yX1_dot (aj_wc yX1_dot cX1_dot 4 (some .int)) (aj_rm 0 0 0) [] [.ref 18, .int (nI i), .int (nI j), .int (nI k)] I J V N L K := by
  refine aj_intro (tbl := t_X1_dot) (lv0 := [some (.ref 18), some (.int (nI i)), some (.int (nI j)), some (.int (nI k))]) (by decide) T_X1_dot aj_f0 (Nat.le_of_ble_eq_true rfl) rfl ?_
  intro G hl C Z NX hnm hGL hGF
  have C : aj_C G cX1_dot t_X1_dot RX1 (aj_rm 0 0 0) 4 := C
  refine y_aload0 (q := 1) C 0 rfl rfl ?_
  refine x_getR (q := 4) C 1 rfl rfl fl_RX1_9 (bv_2_0 hB) (fun _ _ => rfl) (by first | assumption | rfl | decide | exact bL hB _ (by decide)) (by first | assumption | rfl | decide | exact bL hB _ (by decide)) ?_
  refine y_iload2 (q := 5) C 2 rfl rfl ?_
  refine x_iald (q := 6) C 3 rfl rfl (by first | assumption | rfl | decide | exact bL hB _ (by decide)) (by first | assumption | rfl | decide | exact bL hB _ (by decide)) (by (first | rw [bn24 hB] | rw [bn40 hB] | rw [bn56 hB] | rw [bn72 hB] | rw [bn27 hB] | rw [bn43 hB] | rw [bn25 hB] | rw [bn41 hB] | rw [bn88 hB] | rw [bn104 hB] | rw [bn120 hB] | rw [bn136 hB] | rw [bn152 hB] | rw [bn168 hB]); first | assumption | exact vp_in_nI (by omega) (by decide)) ?_
  rw [nI_clamp (by omega)]
  refine y_aload0 (q := 7) C 4 rfl rfl ?_
  refine x_getR (q := 10) C 5 rfl rfl fl_RX1_9 (bv_2_0 hB) (fun _ _ => rfl) (by first | assumption | rfl | decide | exact bL hB _ (by decide)) (by first | assumption | rfl | decide | exact bL hB _ (by decide)) ?_
  refine y_iload1 (q := 11) C 6 rfl rfl ?_
  refine x_iald (q := 12) C 7 rfl rfl (by first | assumption | rfl | decide | exact bL hB _ (by decide)) (by first | assumption | rfl | decide | exact bL hB _ (by decide)) (by (first | rw [bn24 hB] | rw [bn40 hB] | rw [bn56 hB] | rw [bn72 hB] | rw [bn27 hB] | rw [bn43 hB] | rw [bn25 hB] | rw [bn41 hB] | rw [bn88 hB] | rw [bn104 hB] | rw [bn120 hB] | rw [bn136 hB] | rw [bn152 hB] | rw [bn168 hB]); first | assumption | exact vp_in_nI (by omega) (by decide)) ?_
  rw [nI_clamp (by omega)]
  refine x_isub (q := 13) C 8 rfl rfl ?_
  refine y_aload0 (q := 14) C 9 rfl rfl ?_
  refine x_getR (q := 17) C 10 rfl rfl fl_RX1_9 (bv_2_0 hB) (fun _ _ => rfl) (by first | assumption | rfl | decide | exact bL hB _ (by decide)) (by first | assumption | rfl | decide | exact bL hB _ (by decide)) ?_
  refine y_iload3 (q := 18) C 11 rfl rfl ?_
  refine x_iald (q := 19) C 12 rfl rfl (by first | assumption | rfl | decide | exact bL hB _ (by decide)) (by first | assumption | rfl | decide | exact bL hB _ (by decide)) (by (first | rw [bn24 hB] | rw [bn40 hB] | rw [bn56 hB] | rw [bn72 hB] | rw [bn27 hB] | rw [bn43 hB] | rw [bn25 hB] | rw [bn41 hB] | rw [bn88 hB] | rw [bn104 hB] | rw [bn120 hB] | rw [bn136 hB] | rw [bn152 hB] | rw [bn168 hB]); first | assumption | exact vp_in_nI (by omega) (by decide)) ?_
  rw [nI_clamp (by omega)]
  refine y_aload0 (q := 20) C 13 rfl rfl ?_
  refine x_getR (q := 23) C 14 rfl rfl fl_RX1_9 (bv_2_0 hB) (fun _ _ => rfl) (by first | assumption | rfl | decide | exact bL hB _ (by decide)) (by first | assumption | rfl | decide | exact bL hB _ (by decide)) ?_
  refine y_iload1 (q := 24) C 15 rfl rfl ?_
  refine x_iald (q := 25) C 16 rfl rfl (by first | assumption | rfl | decide | exact bL hB _ (by decide)) (by first | assumption | rfl | decide | exact bL hB _ (by decide)) (by (first | rw [bn24 hB] | rw [bn40 hB] | rw [bn56 hB] | rw [bn72 hB] | rw [bn27 hB] | rw [bn43 hB] | rw [bn25 hB] | rw [bn41 hB] | rw [bn88 hB] | rw [bn104 hB] | rw [bn120 hB] | rw [bn136 hB] | rw [bn152 hB] | rw [bn168 hB]); first | assumption | exact vp_in_nI (by omega) (by decide)) ?_
  rw [nI_clamp (by omega)]
  refine x_isub (q := 26) C 17 rfl rfl ?_
  refine x_imul (q := 27) C 18 rfl rfl ?_
  refine y_aload0 (q := 28) C 19 rfl rfl ?_
  refine x_getR (q := 31) C 20 rfl rfl fl_RX1_13 (bv_2_1 hB) (fun _ _ => rfl) (by first | assumption | rfl | decide | exact bL hB _ (by decide)) (by first | assumption | rfl | decide | exact bL hB _ (by decide)) ?_
  refine y_iload2 (q := 32) C 21 rfl rfl ?_
  refine x_iald (q := 33) C 22 rfl rfl (by first | assumption | rfl | decide | exact bL hB _ (by decide)) (by first | assumption | rfl | decide | exact bL hB _ (by decide)) (by (first | rw [bn24 hB] | rw [bn40 hB] | rw [bn56 hB] | rw [bn72 hB] | rw [bn27 hB] | rw [bn43 hB] | rw [bn25 hB] | rw [bn41 hB] | rw [bn88 hB] | rw [bn104 hB] | rw [bn120 hB] | rw [bn136 hB] | rw [bn152 hB] | rw [bn168 hB]); first | assumption | exact vp_in_nI (by omega) (by decide)) ?_
  rw [nI_clamp (by omega)]
  refine y_aload0 (q := 34) C 23 rfl rfl ?_
  refine x_getR (q := 37) C 24 rfl rfl fl_RX1_13 (bv_2_1 hB) (fun _ _ => rfl) (by first | assumption | rfl | decide | exact bL hB _ (by decide)) (by first | assumption | rfl | decide | exact bL hB _ (by decide)) ?_
  refine y_iload1 (q := 38) C 25 rfl rfl ?_
  refine x_iald (q := 39) C 26 rfl rfl (by first | assumption | rfl | decide | exact bL hB _ (by decide)) (by first | assumption | rfl | decide | exact bL hB _ (by decide)) (by (first | rw [bn24 hB] | rw [bn40 hB] | rw [bn56 hB] | rw [bn72 hB] | rw [bn27 hB] | rw [bn43 hB] | rw [bn25 hB] | rw [bn41 hB] | rw [bn88 hB] | rw [bn104 hB] | rw [bn120 hB] | rw [bn136 hB] | rw [bn152 hB] | rw [bn168 hB]); first | assumption | exact vp_in_nI (by omega) (by decide)) ?_
  rw [nI_clamp (by omega)]
  refine x_isub (q := 40) C 27 rfl rfl ?_
  refine y_aload0 (q := 41) C 28 rfl rfl ?_
  refine x_getR (q := 44) C 29 rfl rfl fl_RX1_13 (bv_2_1 hB) (fun _ _ => rfl) (by first | assumption | rfl | decide | exact bL hB _ (by decide)) (by first | assumption | rfl | decide | exact bL hB _ (by decide)) ?_
  refine y_iload3 (q := 45) C 30 rfl rfl ?_
  refine x_iald (q := 46) C 31 rfl rfl (by first | assumption | rfl | decide | exact bL hB _ (by decide)) (by first | assumption | rfl | decide | exact bL hB _ (by decide)) (by (first | rw [bn24 hB] | rw [bn40 hB] | rw [bn56 hB] | rw [bn72 hB] | rw [bn27 hB] | rw [bn43 hB] | rw [bn25 hB] | rw [bn41 hB] | rw [bn88 hB] | rw [bn104 hB] | rw [bn120 hB] | rw [bn136 hB] | rw [bn152 hB] | rw [bn168 hB]); first | assumption | exact vp_in_nI (by omega) (by decide)) ?_
  rw [nI_clamp (by omega)]
  refine y_aload0 (q := 47) C 32 rfl rfl ?_
  refine x_getR (q := 50) C 33 rfl rfl fl_RX1_13 (bv_2_1 hB) (fun _ _ => rfl) (by first | assumption | rfl | decide | exact bL hB _ (by decide)) (by first | assumption | rfl | decide | exact bL hB _ (by decide)) ?_
  refine y_iload1 (q := 51) C 34 rfl rfl ?_
  refine x_iald (q := 52) C 35 rfl rfl (by first | assumption | rfl | decide | exact bL hB _ (by decide)) (by first | assumption | rfl | decide | exact bL hB _ (by decide)) (by (first | rw [bn24 hB] | rw [bn40 hB] | rw [bn56 hB] | rw [bn72 hB] | rw [bn27 hB] | rw [bn43 hB] | rw [bn25 hB] | rw [bn41 hB] | rw [bn88 hB] | rw [bn104 hB] | rw [bn120 hB] | rw [bn136 hB] | rw [bn152 hB] | rw [bn168 hB]); first | assumption | exact vp_in_nI (by omega) (by decide)) ?_
  rw [nI_clamp (by omega)]
  refine x_isub (q := 53) C 36 rfl rfl ?_
  refine x_imul (q := 54) C 37 rfl rfl ?_
  refine x_iadd (q := 55) C 38 rfl rfl ?_
  exact x_ireturn C Z 39 rfl rfl rfl (hK)
set_option maxRecDepth 100000 in
set_option maxHeartbeats 800000 in
theorem s_X1_distance {l : Launch} {I : Nat → Nat → Int32} {J : Nat → Nat → Int64} {V : Nat → Nat → Option Nat} {N : Nat → Nat} {L : List Nat} {K : aj_K} {i j : Nat} (hi : i < 13) (hj : j < 13) (hB : bV V N L) (hK : K (.inl (some (.int (pDs (I 24 i) (I 40 i) (I 24 j) (I 40 j))))) I J V N L) : aj_M l yX1_distance (aj_wc yX1_distance cX1_distance 5 (some .int)) (aj_rm 0 0 0) [] [.ref 18, .int (nI i), .int (nI j)] I J V N L K := by
  refine aj_intro (tbl := t_X1_distance) (lv0 := [some (.ref 18), some (.int (nI i)), some (.int (nI j)), none, none]) (by decide) T_X1_distance aj_f0 (Nat.le_of_ble_eq_true rfl) rfl ?_
  intro G hl C Z NX hnm hGL hGF
  have C : aj_C G cX1_distance t_X1_distance RX1 (aj_rm 0 0 0) 5 := C
  refine y_aload0 (q := 1) C 0 rfl rfl ?_
  refine x_getR (q := 4) C 1 rfl rfl fl_RX1_9 (bv_2_0 hB) (fun _ _ => rfl) (by first | assumption | rfl | decide | exact bL hB _ (by decide)) (by first | assumption | rfl | decide | exact bL hB _ (by decide)) ?_
  refine y_iload2 (q := 5) C 2 rfl rfl ?_
  refine x_iald (q := 6) C 3 rfl rfl (by first | assumption | rfl | decide | exact bL hB _ (by decide)) (by first | assumption | rfl | decide | exact bL hB _ (by decide)) (by (first | rw [bn24 hB] | rw [bn40 hB] | rw [bn56 hB] | rw [bn72 hB] | rw [bn27 hB] | rw [bn43 hB] | rw [bn25 hB] | rw [bn41 hB] | rw [bn88 hB] | rw [bn104 hB] | rw [bn120 hB] | rw [bn136 hB] | rw [bn152 hB] | rw [bn168 hB]); first | assumption | exact vp_in_nI (by omega) (by decide)) ?_
  rw [nI_clamp (by omega)]
  refine y_aload0 (q := 7) C 4 rfl rfl ?_
  refine x_getR (q := 10) C 5 rfl rfl fl_RX1_9 (bv_2_0 hB) (fun _ _ => rfl) (by first | assumption | rfl | decide | exact bL hB _ (by decide)) (by first | assumption | rfl | decide | exact bL hB _ (by decide)) ?_
  refine y_iload1 (q := 11) C 6 rfl rfl ?_
  refine x_iald (q := 12) C 7 rfl rfl (by first | assumption | rfl | decide | exact bL hB _ (by decide)) (by first | assumption | rfl | decide | exact bL hB _ (by decide)) (by (first | rw [bn24 hB] | rw [bn40 hB] | rw [bn56 hB] | rw [bn72 hB] | rw [bn27 hB] | rw [bn43 hB] | rw [bn25 hB] | rw [bn41 hB] | rw [bn88 hB] | rw [bn104 hB] | rw [bn120 hB] | rw [bn136 hB] | rw [bn152 hB] | rw [bn168 hB]); first | assumption | exact vp_in_nI (by omega) (by decide)) ?_
  rw [nI_clamp (by omega)]
  refine x_isub (q := 13) C 8 rfl rfl ?_
  refine y_istore3 (q := 14) C 9 rfl rfl (Nat.le_of_ble_eq_true rfl) rfl ?_
  refine y_aload0 (q := 15) C 10 rfl rfl ?_
  refine x_getR (q := 18) C 11 rfl rfl fl_RX1_13 (bv_2_1 hB) (fun _ _ => rfl) (by first | assumption | rfl | decide | exact bL hB _ (by decide)) (by first | assumption | rfl | decide | exact bL hB _ (by decide)) ?_
  refine y_iload2 (q := 19) C 12 rfl rfl ?_
  refine x_iald (q := 20) C 13 rfl rfl (by first | assumption | rfl | decide | exact bL hB _ (by decide)) (by first | assumption | rfl | decide | exact bL hB _ (by decide)) (by (first | rw [bn24 hB] | rw [bn40 hB] | rw [bn56 hB] | rw [bn72 hB] | rw [bn27 hB] | rw [bn43 hB] | rw [bn25 hB] | rw [bn41 hB] | rw [bn88 hB] | rw [bn104 hB] | rw [bn120 hB] | rw [bn136 hB] | rw [bn152 hB] | rw [bn168 hB]); first | assumption | exact vp_in_nI (by omega) (by decide)) ?_
  rw [nI_clamp (by omega)]
  refine y_aload0 (q := 21) C 14 rfl rfl ?_
  refine x_getR (q := 24) C 15 rfl rfl fl_RX1_13 (bv_2_1 hB) (fun _ _ => rfl) (by first | assumption | rfl | decide | exact bL hB _ (by decide)) (by first | assumption | rfl | decide | exact bL hB _ (by decide)) ?_
  refine y_iload1 (q := 25) C 16 rfl rfl ?_
  refine x_iald (q := 26) C 17 rfl rfl (by first | assumption | rfl | decide | exact bL hB _ (by decide)) (by first | assumption | rfl | decide | exact bL hB _ (by decide)) (by (first | rw [bn24 hB] | rw [bn40 hB] | rw [bn56 hB] | rw [bn72 hB] | rw [bn27 hB] | rw [bn43 hB] | rw [bn25 hB] | rw [bn41 hB] | rw [bn88 hB] | rw [bn104 hB] | rw [bn120 hB] | rw [bn136 hB] | rw [bn152 hB] | rw [bn168 hB]); first | assumption | exact vp_in_nI (by omega) (by decide)) ?_
  rw [nI_clamp (by omega)]
  refine x_isub (q := 27) C 18 rfl rfl ?_
  refine y_istore4 (q := 29) C 19 rfl rfl (Nat.le_of_ble_eq_true rfl) rfl ?_
  refine y_iload3 (q := 30) C 20 rfl rfl ?_
  refine y_iload3 (q := 31) C 21 rfl rfl ?_
  refine x_imul (q := 32) C 22 rfl rfl ?_
  refine y_iload4 (q := 34) C 23 rfl rfl ?_
  refine y_iload4 (q := 36) C 24 rfl rfl ?_
  refine x_imul (q := 37) C 25 rfl rfl ?_
  refine x_iadd (q := 38) C 26 rfl rfl ?_
  exact x_ireturn C Z 27 rfl rfl rfl (hK)
set_option maxRecDepth 100000 in
set_option maxHeartbeats 800000 in
theorem s_X1_following {l : Launch} {I : Nat → Nat → Int32} {J : Nat → Nat → Int64} {V : Nat → Nat → Option Nat} {N : Nat → Nat} {L : List Nat} {K : aj_K} {a n : Nat} (ha : a < 1000) (hn : n < 1000) (hK : K (.inl (some (.int (nI (if a + 1 < n then a + 1 else 0))))) I J V N L) : aj_M l yX1_following (aj_wc yX1_following cX1_following 2 (some .int)) (aj_rm 0 0 0) [] [.int (nI a), .int (nI n)] I J V N L K := by
  refine aj_intro (tbl := t_X1_following) (lv0 := [some (.int (nI a)), some (.int (nI n))]) (by decide) T_X1_following aj_f0 (Nat.le_of_ble_eq_true rfl) rfl ?_
  intro G hl C Z NX hnm hGL hGF
  have C : aj_C G cX1_following t_X1_following RX1 (aj_rm 0 0 0) 2 := C
  refine y_iload0 (q := 1) C 0 rfl rfl ?_
  refine x_iconst (q := 2) C 1 (n := (1)) (v := (1)) rfl rfl rfl ?_
  refine x_iadd (q := 3) C 2 rfl rfl ?_
  refine y_iload1 (q := 4) C 3 rfl rfl ?_
  refine x_icmp_ge (q := 7) (t := 13) C 4 rfl (by decide) rfl (fun c1 => ?_) (fun c1 => ?_)
  · skip
    refine x_iconst (q := 14) C 9 (n := (0)) (v := (0)) rfl rfl rfl ?_
    exact x_ireturn C Z 10 rfl rfl rfl (aj_lf hK (by rw [if_neg (fun z => absurd c1 (by rw [nI_1]; exact nI_ge z (by omega)))]; rfl))
  · skip
    refine y_iload0 (q := 8) C 5 rfl rfl ?_
    refine x_iconst (q := 9) C 6 (n := (1)) (v := (1)) rfl rfl rfl ?_
    refine x_iadd (q := 10) C 7 rfl rfl ?_
    refine x_goto (t := 14) C 8 rfl (by decide) ?_
    exact x_ireturn C Z 10 rfl rfl rfl (aj_lf hK (by rw [if_pos (by by_cases z : a + 1 < n; exact z; exact absurd (by rw [nI_1]; exact nI_le (by omega) (by omega)) c1)]; exact (nI_1 a).symm))
set_option maxRecDepth 100000 in
set_option maxHeartbeats 800000 in
theorem s_X1_stepBetween {l : Launch} {I : Nat → Nat → Int32} {J : Nat → Nat → Int64} {V : Nat → Nat → Option Nat} {N : Nat → Nat} {L : List Nat} {K : aj_K} {a i j : Nat} (ha : a % 16 = 3) (haL : a ∈ L) (hi : i < 13) (hj : j < 13) (hB : bV V N L) (hK : K (.inl none) (stB I a (I 24 j - I 24 i) (I 40 j - I 40 i) 0) J V N L) : aj_M l yX1_stepBetween (aj_wc yX1_stepBetween cX1_stepBetween 4 none) (aj_rm 1 0 0) [] [.ref 18, .ref a, .int (nI i), .int (nI j)] I J V N L K := by
  refine aj_intro (tbl := t_X1_stepBetween) (lv0 := [some (.ref 18), some (.ref a), some (.int (nI i)), some (.int (nI j))]) (by decide) T_X1_stepBetween aj_f0 (Nat.le_of_ble_eq_true rfl) rfl ?_
  intro G hl C Z NX hnm hGL hGF
  have C : aj_C G cX1_stepBetween t_X1_stepBetween RX1 (aj_rm 1 0 0) 4 := C
  refine y_aload1 (q := 1) C 0 rfl rfl ?_
  refine y_aload0 (q := 2) C 1 rfl rfl ?_
  refine x_getR (q := 5) C 2 rfl rfl fl_RX1_9 (bv_2_0 hB) (fun _ _ => rfl) (by first | assumption | rfl | decide | exact bL hB _ (by decide)) (by first | assumption | rfl | decide | exact bL hB _ (by decide)) ?_
  refine y_iload3 (q := 6) C 3 rfl rfl ?_
  refine x_iald (q := 7) C 4 rfl rfl (by first | assumption | rfl | decide | exact bL hB _ (by decide)) (by first | assumption | rfl | decide | exact bL hB _ (by decide)) (by (first | rw [bn24 hB] | rw [bn40 hB] | rw [bn56 hB] | rw [bn72 hB] | rw [bn27 hB] | rw [bn43 hB] | rw [bn25 hB] | rw [bn41 hB] | rw [bn88 hB] | rw [bn104 hB] | rw [bn120 hB] | rw [bn136 hB] | rw [bn152 hB] | rw [bn168 hB]); first | assumption | exact vp_in_nI (by omega) (by decide)) ?_
  rw [nI_clamp (by omega)]
  refine y_aload0 (q := 8) C 5 rfl rfl ?_
  refine x_getR (q := 11) C 6 rfl rfl fl_RX1_9 (bv_2_0 hB) (fun _ _ => rfl) (by first | assumption | rfl | decide | exact bL hB _ (by decide)) (by first | assumption | rfl | decide | exact bL hB _ (by decide)) ?_
  refine y_iload2 (q := 12) C 7 rfl rfl ?_
  refine x_iald (q := 13) C 8 rfl rfl (by first | assumption | rfl | decide | exact bL hB _ (by decide)) (by first | assumption | rfl | decide | exact bL hB _ (by decide)) (by (first | rw [bn24 hB] | rw [bn40 hB] | rw [bn56 hB] | rw [bn72 hB] | rw [bn27 hB] | rw [bn43 hB] | rw [bn25 hB] | rw [bn41 hB] | rw [bn88 hB] | rw [bn104 hB] | rw [bn120 hB] | rw [bn136 hB] | rw [bn152 hB] | rw [bn168 hB]); first | assumption | exact vp_in_nI (by omega) (by decide)) ?_
  rw [nI_clamp (by omega)]
  refine x_isub (q := 14) C 9 rfl rfl ?_
  refine y_aload0 (q := 15) C 10 rfl rfl ?_
  refine x_getR (q := 18) C 11 rfl rfl fl_RX1_13 (bv_2_1 hB) (fun _ _ => rfl) (by first | assumption | rfl | decide | exact bL hB _ (by decide)) (by first | assumption | rfl | decide | exact bL hB _ (by decide)) ?_
  refine y_iload3 (q := 19) C 12 rfl rfl ?_
  refine x_iald (q := 20) C 13 rfl rfl (by first | assumption | rfl | decide | exact bL hB _ (by decide)) (by first | assumption | rfl | decide | exact bL hB _ (by decide)) (by (first | rw [bn24 hB] | rw [bn40 hB] | rw [bn56 hB] | rw [bn72 hB] | rw [bn27 hB] | rw [bn43 hB] | rw [bn25 hB] | rw [bn41 hB] | rw [bn88 hB] | rw [bn104 hB] | rw [bn120 hB] | rw [bn136 hB] | rw [bn152 hB] | rw [bn168 hB]); first | assumption | exact vp_in_nI (by omega) (by decide)) ?_
  rw [nI_clamp (by omega)]
  refine y_aload0 (q := 21) C 14 rfl rfl ?_
  refine x_getR (q := 24) C 15 rfl rfl fl_RX1_13 (bv_2_1 hB) (fun _ _ => rfl) (by first | assumption | rfl | decide | exact bL hB _ (by decide)) (by first | assumption | rfl | decide | exact bL hB _ (by decide)) ?_
  refine y_iload2 (q := 25) C 16 rfl rfl ?_
  refine x_iald (q := 26) C 17 rfl rfl (by first | assumption | rfl | decide | exact bL hB _ (by decide)) (by first | assumption | rfl | decide | exact bL hB _ (by decide)) (by (first | rw [bn24 hB] | rw [bn40 hB] | rw [bn56 hB] | rw [bn72 hB] | rw [bn27 hB] | rw [bn43 hB] | rw [bn25 hB] | rw [bn41 hB] | rw [bn88 hB] | rw [bn104 hB] | rw [bn120 hB] | rw [bn136 hB] | rw [bn152 hB] | rw [bn168 hB]); first | assumption | exact vp_in_nI (by omega) (by decide)) ?_
  rw [nI_clamp (by omega)]
  refine x_isub (q := 27) C 18 rfl rfl ?_
  refine x_iconst (q := 28) C 19 (n := (0)) (v := (0)) rfl rfl rfl ?_
  refine y_cV3 (q := 31) C 20 rfl rfl ml_RX1_39 cd_X2_become cv_X2_become ⟨by rw [ha]; decide, by rw [ha]; rfl⟩ (by first | assumption | rfl | decide | exact bL hB _ (by decide)) (by decide) (by decide) (Nat.le_of_ble_eq_true rfl) (s_X2_become (by first | assumption | rfl | decide | exact bL hB _ (by decide)) (by first | assumption | rfl | decide | exact bL hB _ (by decide)) ?_)
  show aj_X G 31 _ _ _ _ _ _ _ _ _
  exact x_return C Z 21 rfl rfl (hK)
set_option maxRecDepth 100000 in
set_option maxHeartbeats 800000 in
theorem s_X1_takeSteps {l : Launch} {I : Nat → Nat → Int32} {J : Nat → Nat → Int64} {V : Nat → Nat → Option Nat} {N : Nat → Nat} {L : List Nat} {K : aj_K} {i j k : Nat} (hi : i < 13) (hj : j < 13) (hk : k < 13) (hB : bV V N L) (hK : K (.inl none) (tS I (I 24 j - I 24 i) (I 40 j - I 40 i) (I 24 k - I 24 i) (I 40 k - I 40 i)) J V N L) : aj_M l yX1_takeSteps (aj_wc yX1_takeSteps cX1_takeSteps 4 none) (aj_rm 1 0 0) [] [.ref 18, .int (nI i), .int (nI j), .int (nI k)] I J V N L K := by
  refine aj_intro (tbl := t_X1_takeSteps) (lv0 := [some (.ref 18), some (.int (nI i)), some (.int (nI j)), some (.int (nI k))]) (by decide) T_X1_takeSteps aj_f0 (Nat.le_of_ble_eq_true rfl) rfl ?_
  intro G hl C Z NX hnm hGL hGF
  have C : aj_C G cX1_takeSteps t_X1_takeSteps RX1 (aj_rm 1 0 0) 4 := C
  refine y_aload0 (q := 1) C 0 rfl rfl ?_
  refine x_getR (q := 4) C 1 rfl rfl fl_RX1_25 (bv_2_7 hB) (fun _ _ => rfl) (by first | assumption | rfl | decide | exact bL hB _ (by decide)) (by first | assumption | rfl | decide | exact bL hB _ (by decide)) ?_
  refine y_aload0 (q := 5) C 2 rfl rfl ?_
  refine x_getR (q := 8) C 3 rfl rfl fl_RX1_9 (bv_2_0 hB) (fun _ _ => rfl) (by first | assumption | rfl | decide | exact bL hB _ (by decide)) (by first | assumption | rfl | decide | exact bL hB _ (by decide)) ?_
  refine y_iload2 (q := 9) C 4 rfl rfl ?_
  refine x_iald (q := 10) C 5 rfl rfl (by first | assumption | rfl | decide | exact bL hB _ (by decide)) (by first | assumption | rfl | decide | exact bL hB _ (by decide)) (by (first | rw [bn24 hB] | rw [bn40 hB] | rw [bn56 hB] | rw [bn72 hB] | rw [bn27 hB] | rw [bn43 hB] | rw [bn25 hB] | rw [bn41 hB] | rw [bn88 hB] | rw [bn104 hB] | rw [bn120 hB] | rw [bn136 hB] | rw [bn152 hB] | rw [bn168 hB]); first | assumption | exact vp_in_nI (by omega) (by decide)) ?_
  rw [nI_clamp (by omega)]
  refine y_aload0 (q := 11) C 6 rfl rfl ?_
  refine x_getR (q := 14) C 7 rfl rfl fl_RX1_9 (bv_2_0 hB) (fun _ _ => rfl) (by first | assumption | rfl | decide | exact bL hB _ (by decide)) (by first | assumption | rfl | decide | exact bL hB _ (by decide)) ?_
  refine y_iload1 (q := 15) C 8 rfl rfl ?_
  refine x_iald (q := 16) C 9 rfl rfl (by first | assumption | rfl | decide | exact bL hB _ (by decide)) (by first | assumption | rfl | decide | exact bL hB _ (by decide)) (by (first | rw [bn24 hB] | rw [bn40 hB] | rw [bn56 hB] | rw [bn72 hB] | rw [bn27 hB] | rw [bn43 hB] | rw [bn25 hB] | rw [bn41 hB] | rw [bn88 hB] | rw [bn104 hB] | rw [bn120 hB] | rw [bn136 hB] | rw [bn152 hB] | rw [bn168 hB]); first | assumption | exact vp_in_nI (by omega) (by decide)) ?_
  rw [nI_clamp (by omega)]
  refine x_isub (q := 17) C 10 rfl rfl ?_
  refine y_aload0 (q := 18) C 11 rfl rfl ?_
  refine x_getR (q := 21) C 12 rfl rfl fl_RX1_13 (bv_2_1 hB) (fun _ _ => rfl) (by first | assumption | rfl | decide | exact bL hB _ (by decide)) (by first | assumption | rfl | decide | exact bL hB _ (by decide)) ?_
  refine y_iload2 (q := 22) C 13 rfl rfl ?_
  refine x_iald (q := 23) C 14 rfl rfl (by first | assumption | rfl | decide | exact bL hB _ (by decide)) (by first | assumption | rfl | decide | exact bL hB _ (by decide)) (by (first | rw [bn24 hB] | rw [bn40 hB] | rw [bn56 hB] | rw [bn72 hB] | rw [bn27 hB] | rw [bn43 hB] | rw [bn25 hB] | rw [bn41 hB] | rw [bn88 hB] | rw [bn104 hB] | rw [bn120 hB] | rw [bn136 hB] | rw [bn152 hB] | rw [bn168 hB]); first | assumption | exact vp_in_nI (by omega) (by decide)) ?_
  rw [nI_clamp (by omega)]
  refine y_aload0 (q := 24) C 15 rfl rfl ?_
  refine x_getR (q := 27) C 16 rfl rfl fl_RX1_13 (bv_2_1 hB) (fun _ _ => rfl) (by first | assumption | rfl | decide | exact bL hB _ (by decide)) (by first | assumption | rfl | decide | exact bL hB _ (by decide)) ?_
  refine y_iload1 (q := 28) C 17 rfl rfl ?_
  refine x_iald (q := 29) C 18 rfl rfl (by first | assumption | rfl | decide | exact bL hB _ (by decide)) (by first | assumption | rfl | decide | exact bL hB _ (by decide)) (by (first | rw [bn24 hB] | rw [bn40 hB] | rw [bn56 hB] | rw [bn72 hB] | rw [bn27 hB] | rw [bn43 hB] | rw [bn25 hB] | rw [bn41 hB] | rw [bn88 hB] | rw [bn104 hB] | rw [bn120 hB] | rw [bn136 hB] | rw [bn152 hB] | rw [bn168 hB]); first | assumption | exact vp_in_nI (by omega) (by decide)) ?_
  rw [nI_clamp (by omega)]
  refine x_isub (q := 30) C 19 rfl rfl ?_
  refine x_iconst (q := 31) C 20 (n := (0)) (v := (0)) rfl rfl rfl ?_
  refine y_cV3 (q := 34) C 21 rfl rfl ml_RX1_39 cd_X2_become cv_X2_become ⟨by decide, rfl⟩ (by first | assumption | rfl | decide | exact bL hB _ (by decide)) (by decide) (by decide) (Nat.le_of_ble_eq_true rfl) (s_X2_become (by first | assumption | rfl | decide | exact bL hB _ (by decide)) (by first | assumption | rfl | decide | exact bL hB _ (by decide)) ?_)
  show aj_X G 34 _ _ _ _ _ _ _ _ _
  refine y_aload0 (q := 35) C 22 rfl rfl ?_
  refine x_getR (q := 38) C 23 rfl rfl fl_RX1_29 (bv_2_8 hB) (fun _ _ => rfl) (by first | assumption | rfl | decide | exact bL hB _ (by decide)) (by first | assumption | rfl | decide | exact bL hB _ (by decide)) ?_
  refine y_aload0 (q := 39) C 24 rfl rfl ?_
  refine x_getR (q := 42) C 25 rfl rfl fl_RX1_9 (bv_2_0 hB) (fun _ _ => rfl) (by first | assumption | rfl | decide | exact bL hB _ (by decide)) (by first | assumption | rfl | decide | exact bL hB _ (by decide)) ?_
  refine y_iload3 (q := 43) C 26 rfl rfl ?_
  refine x_iald (q := 44) C 27 rfl rfl (by first | assumption | rfl | decide | exact bL hB _ (by decide)) (by first | assumption | rfl | decide | exact bL hB _ (by decide)) (by (first | rw [bn24 hB] | rw [bn40 hB] | rw [bn56 hB] | rw [bn72 hB] | rw [bn27 hB] | rw [bn43 hB] | rw [bn25 hB] | rw [bn41 hB] | rw [bn88 hB] | rw [bn104 hB] | rw [bn120 hB] | rw [bn136 hB] | rw [bn152 hB] | rw [bn168 hB]); first | assumption | exact vp_in_nI (by omega) (by decide)) ?_
  rw [nI_clamp (by omega)]
  rw [stB_o (by decide)]
  refine y_aload0 (q := 45) C 28 rfl rfl ?_
  refine x_getR (q := 48) C 29 rfl rfl fl_RX1_9 (bv_2_0 hB) (fun _ _ => rfl) (by first | assumption | rfl | decide | exact bL hB _ (by decide)) (by first | assumption | rfl | decide | exact bL hB _ (by decide)) ?_
  refine y_iload1 (q := 49) C 30 rfl rfl ?_
  refine x_iald (q := 50) C 31 rfl rfl (by first | assumption | rfl | decide | exact bL hB _ (by decide)) (by first | assumption | rfl | decide | exact bL hB _ (by decide)) (by (first | rw [bn24 hB] | rw [bn40 hB] | rw [bn56 hB] | rw [bn72 hB] | rw [bn27 hB] | rw [bn43 hB] | rw [bn25 hB] | rw [bn41 hB] | rw [bn88 hB] | rw [bn104 hB] | rw [bn120 hB] | rw [bn136 hB] | rw [bn152 hB] | rw [bn168 hB]); first | assumption | exact vp_in_nI (by omega) (by decide)) ?_
  rw [nI_clamp (by omega)]
  rw [stB_o (by decide)]
  refine x_isub (q := 51) C 32 rfl rfl ?_
  refine y_aload0 (q := 52) C 33 rfl rfl ?_
  refine x_getR (q := 55) C 34 rfl rfl fl_RX1_13 (bv_2_1 hB) (fun _ _ => rfl) (by first | assumption | rfl | decide | exact bL hB _ (by decide)) (by first | assumption | rfl | decide | exact bL hB _ (by decide)) ?_
  refine y_iload3 (q := 56) C 35 rfl rfl ?_
  refine x_iald (q := 57) C 36 rfl rfl (by first | assumption | rfl | decide | exact bL hB _ (by decide)) (by first | assumption | rfl | decide | exact bL hB _ (by decide)) (by (first | rw [bn24 hB] | rw [bn40 hB] | rw [bn56 hB] | rw [bn72 hB] | rw [bn27 hB] | rw [bn43 hB] | rw [bn25 hB] | rw [bn41 hB] | rw [bn88 hB] | rw [bn104 hB] | rw [bn120 hB] | rw [bn136 hB] | rw [bn152 hB] | rw [bn168 hB]); first | assumption | exact vp_in_nI (by omega) (by decide)) ?_
  rw [nI_clamp (by omega)]
  rw [stB_o (by decide)]
  refine y_aload0 (q := 58) C 37 rfl rfl ?_
  refine x_getR (q := 61) C 38 rfl rfl fl_RX1_13 (bv_2_1 hB) (fun _ _ => rfl) (by first | assumption | rfl | decide | exact bL hB _ (by decide)) (by first | assumption | rfl | decide | exact bL hB _ (by decide)) ?_
  refine y_iload1 (q := 62) C 39 rfl rfl ?_
  refine x_iald (q := 63) C 40 rfl rfl (by first | assumption | rfl | decide | exact bL hB _ (by decide)) (by first | assumption | rfl | decide | exact bL hB _ (by decide)) (by (first | rw [bn24 hB] | rw [bn40 hB] | rw [bn56 hB] | rw [bn72 hB] | rw [bn27 hB] | rw [bn43 hB] | rw [bn25 hB] | rw [bn41 hB] | rw [bn88 hB] | rw [bn104 hB] | rw [bn120 hB] | rw [bn136 hB] | rw [bn152 hB] | rw [bn168 hB]); first | assumption | exact vp_in_nI (by omega) (by decide)) ?_
  rw [nI_clamp (by omega)]
  rw [stB_o (by decide)]
  refine x_isub (q := 64) C 41 rfl rfl ?_
  refine x_iconst (q := 65) C 42 (n := (0)) (v := (0)) rfl rfl rfl ?_
  refine y_cV3 (q := 68) C 43 rfl rfl ml_RX1_39 cd_X2_become cv_X2_become ⟨by decide, rfl⟩ (by first | assumption | rfl | decide | exact bL hB _ (by decide)) (by decide) (by decide) (Nat.le_of_ble_eq_true rfl) (s_X2_become (by first | assumption | rfl | decide | exact bL hB _ (by decide)) (by first | assumption | rfl | decide | exact bL hB _ (by decide)) ?_)
  show aj_X G 68 _ _ _ _ _ _ _ _ _
  exact x_return C Z 44 rfl rfl (hK)
set_option maxRecDepth 100000 in
set_option maxHeartbeats 800000 in
theorem s_X1_orderFrom {l : Launch} {I : Nat → Nat → Int32} {J : Nat → Nat → Int64} {V : Nat → Nat → Option Nat} {N : Nat → Nat} {L : List Nat} {K : aj_K} {i j k : Nat} (hi : i < 13) (hj : j < 13) (hk : k < 13) (hB : bV V N L) (hK : K (.inl (some (.int (pOW (I 24 j - I 24 i) (I 40 j - I 40 i) (I 24 k - I 24 i) (I 40 k - I 40 i))))) (tS I (I 24 j - I 24 i) (I 40 j - I 40 i) (I 24 k - I 24 i) (I 40 k - I 40 i)) J V N L) : aj_M l yX1_orderFrom (aj_wc yX1_orderFrom cX1_orderFrom 4 (some .int)) (aj_rm 2 0 0) [] [.ref 18, .int (nI i), .int (nI j), .int (nI k)] I J V N L K := by
  refine aj_intro (tbl := t_X1_orderFrom) (lv0 := [some (.ref 18), some (.int (nI i)), some (.int (nI j)), some (.int (nI k))]) (by decide) T_X1_orderFrom aj_f0 (Nat.le_of_ble_eq_true rfl) rfl ?_
  intro G hl C Z NX hnm hGL hGF
  have C : aj_C G cX1_orderFrom t_X1_orderFrom RX1 (aj_rm 2 0 0) 4 := C
  refine y_aload0 (q := 1) C 0 rfl rfl ?_
  refine y_iload1 (q := 2) C 1 rfl rfl ?_
  refine y_iload2 (q := 3) C 2 rfl rfl ?_
  refine y_iload3 (q := 4) C 3 rfl rfl ?_
  refine y_cV3 (q := 7) C 4 rfl rfl ml_RX1_60 cd_X1_takeSteps cv_X1_takeSteps ⟨by decide, rfl⟩ (by first | assumption | rfl | decide | exact bL hB _ (by decide)) (by decide) (by decide) (Nat.le_of_ble_eq_true rfl) (s_X1_takeSteps (by first | assumption | rfl | decide | exact bL hB _ (by decide)) (by first | assumption | rfl | decide | exact bL hB _ (by decide)) (by first | assumption | rfl | decide | exact bL hB _ (by decide)) (by first | assumption | rfl | decide | exact bL hB _ (by decide)) ?_)
  show aj_X G 7 _ _ _ _ _ _ _ _ _
  refine y_aload0 (q := 8) C 5 rfl rfl ?_
  refine x_getR (q := 11) C 6 rfl rfl fl_RX1_25 (bv_2_7 hB) (fun _ _ => rfl) (by first | assumption | rfl | decide | exact bL hB _ (by decide)) (by first | assumption | rfl | decide | exact bL hB _ (by decide)) ?_
  refine y_aload0 (q := 12) C 7 rfl rfl ?_
  refine x_getR (q := 15) C 8 rfl rfl fl_RX1_29 (bv_2_8 hB) (fun _ _ => rfl) (by first | assumption | rfl | decide | exact bL hB _ (by decide)) (by first | assumption | rfl | decide | exact bL hB _ (by decide)) ?_
  refine y_cV1 (q := 18) C 9 rfl rfl ml_RX1_63 cd_X2_orderTo cv_X2_orderTo ⟨by decide, rfl⟩ (by first | assumption | rfl | decide | exact bL hB _ (by decide)) (by decide) (by decide) (Nat.le_of_ble_eq_true rfl) (s_X2_orderTo (by first | assumption | rfl | decide | exact bL hB _ (by decide)) (by first | assumption | rfl | decide | exact bL hB _ (by decide)) (by first | assumption | rfl | decide | exact bL hB _ (by decide)) (by first | assumption | rfl | decide | exact bL hB _ (by decide)) ?_)
  show aj_X G 18 _ _ _ _ _ _ _ _ _
  exact x_ireturn C Z 10 rfl rfl rfl (aj_lf hK tS_ord.symm)
set_option maxRecDepth 100000 in
set_option maxHeartbeats 800000 in
theorem s_X1_comesBefore {l : Launch} {I : Nat → Nat → Int32} {J : Nat → Nat → Int64} {V : Nat → Nat → Option Nat} {N : Nat → Nat} {L : List Nat} {K : aj_K} {j k : Nat} (hj : j < 13) (hk : k < 13) (hB : bV V N L) (hK : K (.inl (some (.int (bI (pCB (I 24 12) (I 40 12) (I 24 j) (I 40 j) (I 24 k) (I 40 k)))))) (tS I (I 24 j - I 24 12) (I 40 j - I 40 12) (I 24 k - I 24 12) (I 40 k - I 40 12)) J V N L) : aj_M l yX1_comesBefore (aj_wc yX1_comesBefore cX1_comesBefore 4 (some .boolean)) (aj_rm 2 0 0) [] [.ref 18, .int (nI j), .int (nI k)] I J V N L K := by
  refine aj_intro (tbl := t_X1_comesBefore) (lv0 := [some (.ref 18), some (.int (nI j)), some (.int (nI k)), none]) (by decide) T_X1_comesBefore aj_f0 (Nat.le_of_ble_eq_true rfl) rfl ?_
  intro G hl C Z NX hnm hGL hGF
  have C : aj_C G cX1_comesBefore t_X1_comesBefore RX1 (aj_rm 2 0 0) 4 := C
  refine y_aload0 (q := 1) C 0 rfl rfl ?_
  refine x_bipush (q := 3) C 1 (n := (12)) (v := nI 12) rfl rfl rfl ?_
  refine y_iload1 (q := 4) C 2 rfl rfl ?_
  refine y_iload2 (q := 5) C 3 rfl rfl ?_
  refine y_cV3 (q := 8) C 4 rfl rfl ml_RX1_60 cd_X1_takeSteps cv_X1_takeSteps ⟨by decide, rfl⟩ (by first | assumption | rfl | decide | exact bL hB _ (by decide)) (by decide) (by decide) (Nat.le_of_ble_eq_true rfl) (s_X1_takeSteps (i := 12) (by decide) hj hk hB ?_)
  show aj_X G 8 _ _ _ _ _ _ _ _ _
  refine y_aload0 (q := 9) C 5 rfl rfl ?_
  refine x_getR (q := 12) C 6 rfl rfl fl_RX1_25 (bv_2_7 hB) (fun _ _ => rfl) (by first | assumption | rfl | decide | exact bL hB _ (by decide)) (by first | assumption | rfl | decide | exact bL hB _ (by decide)) ?_
  refine y_aload0 (q := 13) C 7 rfl rfl ?_
  refine x_getR (q := 16) C 8 rfl rfl fl_RX1_29 (bv_2_8 hB) (fun _ _ => rfl) (by first | assumption | rfl | decide | exact bL hB _ (by decide)) (by first | assumption | rfl | decide | exact bL hB _ (by decide)) ?_
  refine y_cV1 (q := 19) C 9 rfl rfl ml_RX1_63 cd_X2_orderTo cv_X2_orderTo ⟨by decide, rfl⟩ (by first | assumption | rfl | decide | exact bL hB _ (by decide)) (by decide) (by decide) (Nat.le_of_ble_eq_true rfl) (s_X2_orderTo (by first | assumption | rfl | decide | exact bL hB _ (by decide)) (by first | assumption | rfl | decide | exact bL hB _ (by decide)) (by first | assumption | rfl | decide | exact bL hB _ (by decide)) (by first | assumption | rfl | decide | exact bL hB _ (by decide)) ?_)
  rw [tS_ord]
  show aj_X G 19 _ _ _ _ _ _ _ _ _
  refine y_istore3 (q := 20) C 10 rfl rfl (Nat.le_of_ble_eq_true rfl) rfl ?_
  refine y_iload3 (q := 21) C 11 rfl rfl ?_
  refine x_if_lt (q := 24) (t := 45) C 12 rfl (by decide) rfl (fun c1 => ?_) (fun c1 => ?_)
  · skip
    refine x_iconst (q := 46) C 24 (n := (1)) (v := (1)) rfl rfl rfl ?_
    refine x_goto (t := 50) C 25 rfl (by decide) ?_
    exact x_ireturn C Z 27 rfl rfl (by first | rfl | exact bI_nar _) (aj_lf hK (by clear hK C Z; (try simp only [tS_o (show 24 ≠ 179 by decide) (show 24 ≠ 195 by decide), tS_o (show 40 ≠ 179 by decide) (show 40 ≠ 195 by decide)] at *); simp_all [pCB, bI_0, bI_1, ← Int32.not_le, ← Int64.not_le]))
  · skip
    refine y_iload3 (q := 25) C 13 rfl rfl ?_
    refine x_if_ne (q := 28) (t := 49) C 14 rfl (by decide) rfl (fun c2 => ?_) (fun c2 => ?_)
    · skip
      refine x_iconst (q := 50) C 26 (n := (0)) (v := (0)) rfl rfl rfl ?_
      exact x_ireturn C Z 27 rfl rfl (by first | rfl | exact bI_nar _) (aj_lf hK (by clear hK C Z; (try simp only [tS_o (show 24 ≠ 179 by decide) (show 24 ≠ 195 by decide), tS_o (show 40 ≠ 179 by decide) (show 40 ≠ 195 by decide)] at *); simp_all [pCB, bI_0, bI_1, ← Int32.not_le, ← Int64.not_le]))
    · skip
      refine y_aload0 (q := 29) C 15 rfl rfl ?_
      refine x_bipush (q := 31) C 16 (n := (12)) (v := nI 12) rfl rfl rfl ?_
      refine y_iload1 (q := 32) C 17 rfl rfl ?_
      refine y_cV2 (q := 35) C 18 rfl rfl ml_RX1_52 cd_X1_distance cv_X1_distance ⟨by decide, rfl⟩ (by first | assumption | rfl | decide | exact bL hB _ (by decide)) (by decide) (by decide) (Nat.le_of_ble_eq_true rfl) (s_X1_distance (i := 12) (by decide) hj hB ?_)
      show aj_X G 35 _ _ _ _ _ _ _ _ _
      refine y_aload0 (q := 36) C 19 rfl rfl ?_
      refine x_bipush (q := 38) C 20 (n := (12)) (v := nI 12) rfl rfl rfl ?_
      refine y_iload2 (q := 39) C 21 rfl rfl ?_
      refine y_cV2 (q := 42) C 22 rfl rfl ml_RX1_52 cd_X1_distance cv_X1_distance ⟨by decide, rfl⟩ (by first | assumption | rfl | decide | exact bL hB _ (by decide)) (by decide) (by decide) (Nat.le_of_ble_eq_true rfl) (s_X1_distance (i := 12) (by decide) hk hB ?_)
      show aj_X G 42 _ _ _ _ _ _ _ _ _
      refine x_icmp_ge (q := 45) (t := 49) C 23 rfl (by decide) rfl (fun c3 => ?_) (fun c3 => ?_)
      · skip
        refine x_iconst (q := 50) C 26 (n := (0)) (v := (0)) rfl rfl rfl ?_
        exact x_ireturn C Z 27 rfl rfl (by first | rfl | exact bI_nar _) (aj_lf hK (by clear hK C Z; (try simp only [tS_o (show 24 ≠ 179 by decide) (show 24 ≠ 195 by decide), tS_o (show 40 ≠ 179 by decide) (show 40 ≠ 195 by decide)] at *); simp_all [pCB, bI_0, bI_1, ← Int32.not_le, ← Int64.not_le]))
      · skip
        refine x_iconst (q := 46) C 24 (n := (1)) (v := (1)) rfl rfl rfl ?_
        refine x_goto (t := 50) C 25 rfl (by decide) ?_
        exact x_ireturn C Z 27 rfl rfl (by first | rfl | exact bI_nar _) (aj_lf hK (by clear hK C Z; (try simp only [tS_o (show 24 ≠ 179 by decide) (show 24 ≠ 195 by decide), tS_o (show 40 ≠ 179 by decide) (show 40 ≠ 195 by decide)] at *); simp_all [pCB, bI_0, bI_1, ← Int32.not_le, ← Int64.not_le]))
