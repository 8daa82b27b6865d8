set_option maxRecDepth 100000 in
set_option maxHeartbeats 800000 in
theorem s_X5_area {l : Launch} {I : Nat → Nat → Int32} {J : Nat → Nat → Int64} {V : Nat → Nat → Option Nat} {N : Nat → Nat} {L : List Nat} {K : aj_K} {a t : Nat} (ha : a % 16 = 8) (haL : a ∈ L) (ht : t ≤ 12) (hN : N a = t) (hV : aV I a t) (hB : bV V N L) (hK : ∀ r : Int32, K (.inl (some (.int r))) I J V N L) : aj_M l yX5_area (aj_wc yX5_area cX5_area 5 (some .int)) (aj_rm 1 0 0) [] [.ref 22, .ref a] I J V N L K := by
  refine aj_intro (tbl := t_X5_area) (lv0 := [some (.ref 22), some (.ref a), none, none, none]) (by decide) T_X5_area aj_f0 (Nat.le_of_ble_eq_true rfl) rfl ?_
  intro G hl C Z NX hnm hGL hGF
  have C : aj_C G cX5_area t_X5_area RX5 (aj_rm 1 0 0) 5 := C
  refine x_iconst (q := 1) C 0 (n := (0)) (v := (0)) rfl rfl rfl ?_
  refine y_istore2 (q := 2) C 1 rfl rfl (Nat.le_of_ble_eq_true rfl) rfl ?_
  refine x_iconst (q := 3) C 2 (n := (0)) (v := nI 0) rfl rfl rfl ?_
  refine y_istore3 (q := 4) C 3 rfl rfl (Nat.le_of_ble_eq_true rfl) rfl ?_
  have lp4 : ∀ (m i : Nat) (s : Int32) (z : Option Value), i + m = t → aj_X G 4 [some (.ref 22), some (.ref a), some (.int s), some (.int (nI i)), z] [] I J V N L 0 0 := by
    intro m
    induction m with
    | zero =>
      intro i s z hi
      refine y_iload3 (q := 5) C 4 rfl rfl ?_
      refine y_aload1 (q := 6) C 5 rfl rfl ?_
      refine x_alen (q := 7) C 6 rfl rfl (by first | assumption | rfl | decide | omega | exact bL hB _ (by decide)) (by first | assumption | rfl | decide | omega | exact bL hB _ (by decide)) ?_
      rw [show Int32.ofNat (N a) = nI t from by rw [hN]; rfl]
      refine x_icmp_ge (q := 10) (t := 62) C 7 rfl (by decide) rfl (fun c1 => ?_) (fun c1 => ?_)
      · skip
        refine y_iload2 (q := 63) C 43 rfl rfl ?_
        exact x_ireturn C Z 44 rfl rfl rfl (hK _)
      · skip
        exact absurd (nI_le (by omega) (by omega)) c1
    | succ m ih =>
      intro i s z hi
      refine y_iload3 (q := 5) C 4 rfl rfl ?_
      refine y_aload1 (q := 6) C 5 rfl rfl ?_
      refine x_alen (q := 7) C 6 rfl rfl (by first | assumption | rfl | decide | omega | exact bL hB _ (by decide)) (by first | assumption | rfl | decide | omega | exact bL hB _ (by decide)) ?_
      rw [show Int32.ofNat (N a) = nI t from by rw [hN]; rfl]
      refine x_icmp_ge (q := 10) (t := 62) C 7 rfl (by decide) rfl (fun c2 => ?_) (fun c2 => ?_)
      · skip
        exact absurd c2 (nI_ge (by omega) (by omega))
      · skip
        refine y_aload1 (q := 11) C 8 rfl rfl ?_
        refine y_iload3 (q := 12) C 9 rfl rfl ?_
        refine x_iconst (q := 13) C 10 (n := (1)) (v := (1)) rfl rfl rfl ?_
        refine x_iadd (q := 14) C 11 rfl rfl ?_
        rw [nI_1]
        refine y_aload1 (q := 15) C 12 rfl rfl ?_
        refine x_alen (q := 16) C 13 rfl rfl (by first | assumption | rfl | decide | omega | exact bL hB _ (by decide)) (by first | assumption | rfl | decide | omega | exact bL hB _ (by decide)) ?_
        rw [show Int32.ofNat (N a) = nI t from by rw [hN]; rfl]
        refine x_irem (q := 17) C 14 (nI_nz (by omega) (by omega)) rfl rfl ?_
        rw [nI_rm (by omega) (by omega)]
        have hq := Nat.mod_lt (i + 1) (show 0 < t by omega)
        generalize (i + 1) % t = q at hq ⊢
        refine x_iald (q := 18) C 15 rfl rfl (by first | assumption | rfl | decide | omega | exact bL hB _ (by decide)) (by first | assumption | rfl | decide | omega | exact bL hB _ (by decide)) (by rw [hN]; exact vp_in_nI hq (by omega)) ?_
        rw [nI_clamp (by omega)]
        obtain ⟨b, hb, eb⟩ := hV q hq
        rw [eb]
        refine y_istore4 (q := 20) C 16 rfl rfl (Nat.le_of_ble_eq_true rfl) rfl ?_
        refine y_iload2 (q := 21) C 17 rfl rfl ?_
        refine y_aload0 (q := 22) C 18 rfl rfl ?_
        refine x_getR (q := 25) C 19 rfl rfl fl_RX5_23 (bv_6_5 hB) (fun _ _ => rfl) (by first | assumption | rfl | decide | omega | exact bL hB _ (by decide)) (by first | assumption | rfl | decide | omega | exact bL hB _ (by decide)) ?_
        refine y_aload1 (q := 26) C 20 rfl rfl ?_
        refine y_iload3 (q := 27) C 21 rfl rfl ?_
        refine x_iald (q := 28) C 22 rfl rfl (by first | assumption | rfl | decide | omega | exact bL hB _ (by decide)) (by first | assumption | rfl | decide | omega | exact bL hB _ (by decide)) (by rw [hN]; exact vp_in_nI (by omega) (by omega)) ?_
        rw [nI_clamp (by omega)]
        obtain ⟨c, hc, ec⟩ := hV i (by omega)
        rw [ec]
        refine x_iald (q := 29) C 23 rfl rfl (by first | assumption | rfl | decide | omega | exact bL hB _ (by decide)) (by first | assumption | rfl | decide | omega | exact bL hB _ (by decide)) (by (first | rw [bn24 hB] | rw [bn40 hB] | rw [bn56 hB] | rw [bn72 hB] | rw [bn27 hB] | rw [bn43 hB] | rw [bn25 hB] | rw [bn41 hB] | rw [bn88 hB] | rw [bn104 hB] | rw [bn120 hB] | rw [bn136 hB] | rw [bn152 hB] | rw [bn168 hB]); first | assumption | exact vp_in_nI (by omega) (by decide)) ?_
        rw [nI_clamp (by omega)]
        refine y_aload0 (q := 30) C 24 rfl rfl ?_
        refine x_getR (q := 33) C 25 rfl rfl fl_RX5_26 (bv_6_6 hB) (fun _ _ => rfl) (by first | assumption | rfl | decide | omega | exact bL hB _ (by decide)) (by first | assumption | rfl | decide | omega | exact bL hB _ (by decide)) ?_
        refine y_aload1 (q := 34) C 26 rfl rfl ?_
        refine y_iload3 (q := 35) C 27 rfl rfl ?_
        refine x_iald (q := 36) C 28 rfl rfl (by first | assumption | rfl | decide | omega | exact bL hB _ (by decide)) (by first | assumption | rfl | decide | omega | exact bL hB _ (by decide)) (by rw [hN]; exact vp_in_nI (by omega) (by omega)) ?_
        rw [nI_clamp (by omega)]
        obtain ⟨d, hd, ed⟩ := hV i (by omega)
        rw [ed]
        refine x_iald (q := 37) C 29 rfl rfl (by first | assumption | rfl | decide | omega | exact bL hB _ (by decide)) (by first | assumption | rfl | decide | omega | exact bL hB _ (by decide)) (by (first | rw [bn24 hB] | rw [bn40 hB] | rw [bn56 hB] | rw [bn72 hB] | rw [bn27 hB] | rw [bn43 hB] | rw [bn25 hB] | rw [bn41 hB] | rw [bn88 hB] | rw [bn104 hB] | rw [bn120 hB] | rw [bn136 hB] | rw [bn152 hB] | rw [bn168 hB]); first | assumption | exact vp_in_nI (by omega) (by decide)) ?_
        rw [nI_clamp (by omega)]
        refine y_aload0 (q := 38) C 30 rfl rfl ?_
        refine x_getR (q := 41) C 31 rfl rfl fl_RX5_23 (bv_6_5 hB) (fun _ _ => rfl) (by first | assumption | rfl | decide | omega | exact bL hB _ (by decide)) (by first | assumption | rfl | decide | omega | exact bL hB _ (by decide)) ?_
        refine y_iload4 (q := 43) C 32 rfl rfl ?_
        refine x_iald (q := 44) C 33 rfl rfl (by first | assumption | rfl | decide | omega | exact bL hB _ (by decide)) (by first | assumption | rfl | decide | omega | exact bL hB _ (by decide)) (by (first | rw [bn24 hB] | rw [bn40 hB] | rw [bn56 hB] | rw [bn72 hB] | rw [bn27 hB] | rw [bn43 hB] | rw [bn25 hB] | rw [bn41 hB] | rw [bn88 hB] | rw [bn104 hB] | rw [bn120 hB] | rw [bn136 hB] | rw [bn152 hB] | rw [bn168 hB]); first | assumption | exact vp_in_nI (by omega) (by decide)) ?_
        rw [nI_clamp (by omega)]
        refine y_aload0 (q := 45) C 34 rfl rfl ?_
        refine x_getR (q := 48) C 35 rfl rfl fl_RX5_26 (bv_6_6 hB) (fun _ _ => rfl) (by first | assumption | rfl | decide | omega | exact bL hB _ (by decide)) (by first | assumption | rfl | decide | omega | exact bL hB _ (by decide)) ?_
        refine y_iload4 (q := 50) C 36 rfl rfl ?_
        refine x_iald (q := 51) C 37 rfl rfl (by first | assumption | rfl | decide | omega | exact bL hB _ (by decide)) (by first | assumption | rfl | decide | omega | exact bL hB _ (by decide)) (by (first | rw [bn24 hB] | rw [bn40 hB] | rw [bn56 hB] | rw [bn72 hB] | rw [bn27 hB] | rw [bn43 hB] | rw [bn25 hB] | rw [bn41 hB] | rw [bn88 hB] | rw [bn104 hB] | rw [bn120 hB] | rw [bn136 hB] | rw [bn152 hB] | rw [bn168 hB]); first | assumption | exact vp_in_nI (by omega) (by decide)) ?_
        rw [nI_clamp (by omega)]
        refine y_cS4 (q := 54) C 38 rfl rfl ml_RX5_51 cd_X5_cross sv_X5_cross (by decide) (by decide) (Nat.le_of_ble_eq_true rfl) (s_X5_cross ?_)
        show aj_X G 54 _ _ _ _ _ _ _ _ _
        refine x_iadd (q := 55) C 39 rfl rfl ?_
        refine y_istore2 (q := 56) C 40 rfl rfl (Nat.le_of_ble_eq_true rfl) rfl ?_
        refine y_iinc3 (q := 59) C 41 rfl rfl (nI_1 i) (Nat.le_of_ble_eq_true rfl) rfl ?_
        refine x_goto (t := 4) C 42 rfl (by decide) ?_
        exact ih (i + 1) _ _ (by omega)
  exact lp4 t 0 _ _ (by omega)
set_option maxRecDepth 100000 in
set_option maxHeartbeats 800000 in
theorem s_X5_swept {l : Launch} {I : Nat → Nat → Int32} {J : Nat → Nat → Int64} {V : Nat → Nat → Option Nat} {N : Nat → Nat} {L : List Nat} {K : aj_K} {a t : Nat} (ha : a % 16 = 8) (haL : a ∈ L) (ht : t ≤ 12) (hN : N a = t) (hV : aV I a t) (hB : bV V N L) (hK : ∀ r : Int32, K (.inl (some (.int r))) I J V N L) : aj_M l yX5_swept (aj_wc yX5_swept cX5_swept 4 (some .int)) (aj_rm 2 0 0) [] [.ref 22, .ref a] I J V N L K := by
  refine aj_intro (tbl := t_X5_swept) (lv0 := [some (.ref 22), some (.ref a), none, none]) (by decide) T_X5_swept aj_f0 (Nat.le_of_ble_eq_true rfl) rfl ?_
  intro G hl C Z NX hnm hGL hGF
  have C : aj_C G cX5_swept t_X5_swept RX5 (aj_rm 2 0 0) 4 := C
  refine x_iconst (q := 1) C 0 (n := (0)) (v := (0)) rfl rfl rfl ?_
  refine y_istore2 (q := 2) C 1 rfl rfl (Nat.le_of_ble_eq_true rfl) rfl ?_
  refine x_iconst (q := 3) C 2 (n := (0)) (v := nI 0) rfl rfl rfl ?_
  refine y_istore3 (q := 4) C 3 rfl rfl (Nat.le_of_ble_eq_true rfl) rfl ?_
  have lp4 : ∀ (m i : Nat) (s : Int32), i + m = t → aj_X G 4 [some (.ref 22), some (.ref a), some (.int s), some (.int (nI i))] [] I J V N L 0 0 := by
    intro m
    induction m with
    | zero =>
      intro i s hi
      refine y_iload3 (q := 5) C 4 rfl rfl ?_
      refine y_aload1 (q := 6) C 5 rfl rfl ?_
      refine x_alen (q := 7) C 6 rfl rfl (by first | assumption | rfl | decide | omega | exact bL hB _ (by decide)) (by first | assumption | rfl | decide | omega | exact bL hB _ (by decide)) ?_
      rw [show Int32.ofNat (N a) = nI t from by rw [hN]; rfl]
      refine x_icmp_ge (q := 10) (t := 34) C 7 rfl (by decide) rfl (fun c1 => ?_) (fun c1 => ?_)
      · skip
        refine y_iload2 (q := 35) C 26 rfl rfl ?_
        exact x_ireturn C Z 27 rfl rfl rfl (hK _)
      · skip
        exact absurd (nI_le (by omega) (by omega)) c1
    | succ m ih =>
      intro i s hi
      refine y_iload3 (q := 5) C 4 rfl rfl ?_
      refine y_aload1 (q := 6) C 5 rfl rfl ?_
      refine x_alen (q := 7) C 6 rfl rfl (by first | assumption | rfl | decide | omega | exact bL hB _ (by decide)) (by first | assumption | rfl | decide | omega | exact bL hB _ (by decide)) ?_
      rw [show Int32.ofNat (N a) = nI t from by rw [hN]; rfl]
      refine x_icmp_ge (q := 10) (t := 34) C 7 rfl (by decide) rfl (fun c2 => ?_) (fun c2 => ?_)
      · skip
        exact absurd c2 (nI_ge (by omega) (by omega))
      · skip
        refine y_iload2 (q := 11) C 8 rfl rfl ?_
        refine y_aload0 (q := 12) C 9 rfl rfl ?_
        refine y_aload1 (q := 13) C 10 rfl rfl ?_
        refine y_iload3 (q := 14) C 11 rfl rfl ?_
        refine x_iald (q := 15) C 12 rfl rfl (by first | assumption | rfl | decide | omega | exact bL hB _ (by decide)) (by first | assumption | rfl | decide | omega | exact bL hB _ (by decide)) (by rw [hN]; exact vp_in_nI (by omega) (by omega)) ?_
        rw [nI_clamp (by omega)]
        obtain ⟨c, hc, ec⟩ := hV i (by omega)
        rw [ec]
        refine y_aload1 (q := 16) C 13 rfl rfl ?_
        refine y_iload3 (q := 17) C 14 rfl rfl ?_
        refine x_iconst (q := 18) C 15 (n := (1)) (v := (1)) rfl rfl rfl ?_
        refine x_iadd (q := 19) C 16 rfl rfl ?_
        rw [nI_1]
        refine y_aload1 (q := 20) C 17 rfl rfl ?_
        refine x_alen (q := 21) C 18 rfl rfl (by first | assumption | rfl | decide | omega | exact bL hB _ (by decide)) (by first | assumption | rfl | decide | omega | exact bL hB _ (by decide)) ?_
        rw [show Int32.ofNat (N a) = nI t from by rw [hN]; rfl]
        refine x_irem (q := 22) C 19 (nI_nz (by omega) (by omega)) rfl rfl ?_
        rw [nI_rm (by omega) (by omega)]
        have hq := Nat.mod_lt (i + 1) (show 0 < t by omega)
        generalize (i + 1) % t = q at hq ⊢
        refine x_iald (q := 23) C 20 rfl rfl (by first | assumption | rfl | decide | omega | exact bL hB _ (by decide)) (by first | assumption | rfl | decide | omega | exact bL hB _ (by decide)) (by rw [hN]; exact vp_in_nI hq (by omega)) ?_
        rw [nI_clamp (by omega)]
        obtain ⟨b, hb, eb⟩ := hV q hq
        rw [eb]
        refine y_cV2 (q := 26) C 21 rfl rfl ml_RX5_242 cd_X5_outCross cv_X5_outCross ⟨by decide, rfl⟩ (by first | assumption | rfl | decide | omega | exact bL hB _ (by decide)) (by decide) (by decide) (Nat.le_of_ble_eq_true rfl) (s_X5_outCross (by first | assumption | rfl | decide | omega | exact bL hB _ (by decide)) (by first | assumption | rfl | decide | omega | exact bL hB _ (by decide)) (by first | assumption | rfl | decide | omega | exact bL hB _ (by decide)) ?_)
        intro r
        show aj_X G 26 _ _ _ _ _ _ _ _ _
        refine x_iadd (q := 27) C 22 rfl rfl ?_
        refine y_istore2 (q := 28) C 23 rfl rfl (Nat.le_of_ble_eq_true rfl) rfl ?_
        refine y_iinc3 (q := 31) C 24 rfl rfl (nI_1 i) (Nat.le_of_ble_eq_true rfl) rfl ?_
        refine x_goto (t := 4) C 25 rfl (by decide) ?_
        exact ih (i + 1) _ (by omega)
  exact lp4 t 0 _ (by omega)
set_option maxRecDepth 100000 in
set_option maxHeartbeats 800000 in
theorem s_X5_isStarred {l : Launch} {I : Nat → Nat → Int32} {J : Nat → Nat → Int64} {V : Nat → Nat → Option Nat} {N : Nat → Nat} {L : List Nat} {K : aj_K} {a t : Nat} (ha : a % 16 = 8) (haL : a ∈ L) (ht : t ≤ 12) (hN : N a = t) (hV : aV I a t) (hB : bV V N L) (hK : ∀ b : Bool, K (.inl (some (.int (bI b)))) I J V N L) : aj_M l yX5_isStarred (aj_wc yX5_isStarred cX5_isStarred 5 (some .boolean)) (aj_rm 4 0 0) [] [.ref 22, .ref a] I J V N L K := by
  refine aj_intro (tbl := t_X5_isStarred) (lv0 := [some (.ref 22), some (.ref a), none, none, none]) (by decide) T_X5_isStarred aj_f0 (Nat.le_of_ble_eq_true rfl) rfl ?_
  intro G hl C Z NX hnm hGL hGF
  have C : aj_C G cX5_isStarred t_X5_isStarred RX5 (aj_rm 4 0 0) 5 := C
  refine x_iconst (q := 1) C 0 (n := (0)) (v := bI false) rfl rfl rfl ?_
  refine y_istore2 (q := 2) C 1 rfl rfl (Nat.le_of_ble_eq_true rfl) rfl ?_
  refine x_iconst (q := 3) C 2 (n := (0)) (v := nI 0) rfl rfl rfl ?_
  refine y_istore3 (q := 4) C 3 rfl rfl (Nat.le_of_ble_eq_true rfl) rfl ?_
  have lp4 : ∀ (m i : Nat) (s : Bool) (z : Option Value), i + m = t → aj_X G 4 [some (.ref 22), some (.ref a), some (.int (bI s)), some (.int (nI i)), z] [] I J V N L 0 0 := by
    intro m
    induction m with
    | zero =>
      intro i s z hi
      refine y_iload3 (q := 5) C 4 rfl rfl ?_
      refine y_aload1 (q := 6) C 5 rfl rfl ?_
      refine x_alen (q := 7) C 6 rfl rfl (by first | assumption | rfl | decide | omega | exact bL hB _ (by decide)) (by first | assumption | rfl | decide | omega | exact bL hB _ (by decide)) ?_
      rw [show Int32.ofNat (N a) = nI t from by rw [hN]; rfl]
      refine x_icmp_ge (q := 10) (t := 57) C 7 rfl (by decide) rfl (fun c1 => ?_) (fun c1 => ?_)
      · skip
        refine y_iload2 (q := 58) C 38 rfl rfl ?_
        exact x_ireturn C Z 39 rfl rfl (by first | rfl | exact bI_nar _) (hK s)
      · skip
        exact absurd (nI_le (by omega) (by omega)) c1
    | succ m ih =>
      intro i s z hi
      refine y_iload3 (q := 5) C 4 rfl rfl ?_
      refine y_aload1 (q := 6) C 5 rfl rfl ?_
      refine x_alen (q := 7) C 6 rfl rfl (by first | assumption | rfl | decide | omega | exact bL hB _ (by decide)) (by first | assumption | rfl | decide | omega | exact bL hB _ (by decide)) ?_
      rw [show Int32.ofNat (N a) = nI t from by rw [hN]; rfl]
      refine x_icmp_ge (q := 10) (t := 57) C 7 rfl (by decide) rfl (fun c2 => ?_) (fun c2 => ?_)
      · skip
        exact absurd c2 (nI_ge (by omega) (by omega))
      · skip
        refine y_aload1 (q := 11) C 8 rfl rfl ?_
        refine y_iload3 (q := 12) C 9 rfl rfl ?_
        refine x_iconst (q := 13) C 10 (n := (1)) (v := (1)) rfl rfl rfl ?_
        refine x_iadd (q := 14) C 11 rfl rfl ?_
        rw [nI_1]
        refine y_aload1 (q := 15) C 12 rfl rfl ?_
        refine x_alen (q := 16) C 13 rfl rfl (by first | assumption | rfl | decide | omega | exact bL hB _ (by decide)) (by first | assumption | rfl | decide | omega | exact bL hB _ (by decide)) ?_
        rw [show Int32.ofNat (N a) = nI t from by rw [hN]; rfl]
        refine x_irem (q := 17) C 14 (nI_nz (by omega) (by omega)) rfl rfl ?_
        rw [nI_rm (by omega) (by omega)]
        have hq := Nat.mod_lt (i + 1) (show 0 < t by omega)
        generalize (i + 1) % t = q at hq ⊢
        refine x_iald (q := 18) C 15 rfl rfl (by first | assumption | rfl | decide | omega | exact bL hB _ (by decide)) (by first | assumption | rfl | decide | omega | exact bL hB _ (by decide)) (by rw [hN]; exact vp_in_nI hq (by omega)) ?_
        rw [nI_clamp (by omega)]
        obtain ⟨b, hb, eb⟩ := hV q hq
        rw [eb]
        refine y_istore4 (q := 20) C 16 rfl rfl (Nat.le_of_ble_eq_true rfl) rfl ?_
        refine y_aload0 (q := 21) C 17 rfl rfl ?_
        refine y_aload1 (q := 22) C 18 rfl rfl ?_
        refine y_iload3 (q := 23) C 19 rfl rfl ?_
        refine x_iald (q := 24) C 20 rfl rfl (by first | assumption | rfl | decide | omega | exact bL hB _ (by decide)) (by first | assumption | rfl | decide | omega | exact bL hB _ (by decide)) (by rw [hN]; exact vp_in_nI (by omega) (by omega)) ?_
        rw [nI_clamp (by omega)]
        obtain ⟨c, hc, ec⟩ := hV i (by omega)
        rw [ec]
        refine y_iload4 (q := 26) C 21 rfl rfl ?_
        refine y_cV2 (q := 29) C 22 rfl rfl ml_RX5_211 cd_X5_outOrder cv_X5_outOrder ⟨by decide, rfl⟩ (by first | assumption | rfl | decide | omega | exact bL hB _ (by decide)) (by decide) (by decide) (Nat.le_of_ble_eq_true rfl) (s_X5_outOrder (by first | assumption | rfl | decide | omega | exact bL hB _ (by decide)) (by first | assumption | rfl | decide | omega | exact bL hB _ (by decide)) (by first | assumption | rfl | decide | omega | exact bL hB _ (by decide)) ?_)
        intro r
        show aj_X G 29 _ _ _ _ _ _ _ _ _
        refine x_if_ne (q := 32) (t := 35) C 23 rfl (by decide) rfl (fun c3 => ?_) (fun c3 => ?_)
        · skip
          refine x_iconst (q := 36) C 25 (n := (1)) (v := bI true) rfl rfl rfl ?_
          refine y_istore2 (q := 37) C 26 rfl rfl (Nat.le_of_ble_eq_true rfl) rfl ?_
          refine y_aload0 (q := 38) C 27 rfl rfl ?_
          refine y_aload1 (q := 39) C 28 rfl rfl ?_
          refine y_iload3 (q := 40) C 29 rfl rfl ?_
          refine x_iald (q := 41) C 30 rfl rfl (by first | assumption | rfl | decide | omega | exact bL hB _ (by decide)) (by first | assumption | rfl | decide | omega | exact bL hB _ (by decide)) (by rw [hN]; exact vp_in_nI (by omega) (by omega)) ?_
          rw [nI_clamp (by omega)]
          obtain ⟨d, hd, ed⟩ := hV i (by omega)
          rw [ed]
          refine y_iload4 (q := 43) C 31 rfl rfl ?_
          refine y_cV2 (q := 46) C 32 rfl rfl ml_RX5_242 cd_X5_outCross cv_X5_outCross ⟨by decide, rfl⟩ (by first | assumption | rfl | decide | omega | exact bL hB _ (by decide)) (by decide) (by decide) (Nat.le_of_ble_eq_true rfl) (s_X5_outCross (by first | assumption | rfl | decide | omega | exact bL hB _ (by decide)) (by first | assumption | rfl | decide | omega | exact bL hB _ (by decide)) (by first | assumption | rfl | decide | omega | exact bL hB _ (by decide)) ?_)
          intro r
          show aj_X G 46 _ _ _ _ _ _ _ _ _
          refine x_if_gt (q := 49) (t := 51) C 33 rfl (by decide) rfl (fun c4 => ?_) (fun c4 => ?_)
          · skip
            refine y_iinc3 (q := 54) C 36 rfl rfl (nI_1 i) (Nat.le_of_ble_eq_true rfl) rfl ?_
            refine x_goto (t := 4) C 37 rfl (by decide) ?_
            exact ih (i + 1) _ _ (by omega)
          · skip
            refine x_iconst (q := 50) C 34 (n := (0)) (v := (0)) rfl rfl rfl ?_
            exact x_ireturn C Z 35 rfl rfl (by first | rfl | exact bI_nar _) (hK false)
        · skip
          refine x_goto (t := 51) C 24 rfl (by decide) ?_
          refine y_iinc3 (q := 54) C 36 rfl rfl (nI_1 i) (Nat.le_of_ble_eq_true rfl) rfl ?_
          refine x_goto (t := 4) C 37 rfl (by decide) ?_
          exact ih (i + 1) _ _ (by omega)
  exact lp4 t 0 _ _ (by omega)
set_option maxRecDepth 100000 in
set_option maxHeartbeats 800000 in
theorem s_X5_isRim {l : Launch} {I : Nat → Nat → Int32} {J : Nat → Nat → Int64} {V : Nat → Nat → Option Nat} {N : Nat → Nat} {L : List Nat} {K : aj_K} {i j : Nat} (hi : i < 12) (hj : j < 12) {n : Nat} (hn : n ≤ 12) (he : I 22 7 = nI n) (hB : bV V N L) (hK : ∀ b : Bool, K (.inl (some (.int (bI b)))) I J V N L) : aj_M l yX5_isRim (aj_wc yX5_isRim cX5_isRim 5 (some .boolean)) (aj_rm 2 0 0) [] [.ref 22, .int (nI i), .int (nI j)] I J V N L K := by
  refine aj_intro (tbl := t_X5_isRim) (lv0 := [some (.ref 22), some (.int (nI i)), some (.int (nI j)), none, none]) (by decide) T_X5_isRim aj_f0 (Nat.le_of_ble_eq_true rfl) rfl ?_
  intro G hl C Z NX hnm hGL hGF
  have C : aj_C G cX5_isRim t_X5_isRim RX5 (aj_rm 2 0 0) 5 := C
  refine x_iconst (q := 1) C 0 (n := (0)) (v := nI 0) rfl rfl rfl ?_
  refine y_istore3 (q := 2) C 1 rfl rfl (Nat.le_of_ble_eq_true rfl) rfl ?_
  have lp2 : ∀ (m k : Nat) (z : Option Value), k + m = n → aj_X G 2 [some (.ref 22), some (.int (nI i)), some (.int (nI j)), some (.int (nI k)), z] [] I J V N L 0 0 := by
    intro m
    induction m with
    | zero =>
      intro k z hk
      refine y_iload3 (q := 3) C 2 rfl rfl ?_
      refine y_aload0 (q := 4) C 3 rfl rfl ?_
      refine x_getI (q := 7) C 4 rfl rfl fl_RX5_44 (fun _ _ => rfl) (by first | assumption | rfl | decide | omega | exact bL hB _ (by decide)) (by first | assumption | rfl | decide | omega | exact bL hB _ (by decide)) ?_
      rw [he]
      refine x_icmp_ge (q := 10) (t := 103) C 5 rfl (by decide) rfl (fun c1 => ?_) (fun c1 => ?_)
      · skip
        refine x_iconst (q := 104) C 62 (n := (1)) (v := (1)) rfl rfl rfl ?_
        exact x_ireturn C Z 63 rfl rfl rfl (hK true)
      · skip
        exact absurd (nI_le (by omega) (by omega)) c1
    | succ m ih =>
      intro k z hk
      refine y_iload3 (q := 3) C 2 rfl rfl ?_
      refine y_aload0 (q := 4) C 3 rfl rfl ?_
      refine x_getI (q := 7) C 4 rfl rfl fl_RX5_44 (fun _ _ => rfl) (by first | assumption | rfl | decide | omega | exact bL hB _ (by decide)) (by first | assumption | rfl | decide | omega | exact bL hB _ (by decide)) ?_
      rw [he]
      refine x_icmp_ge (q := 10) (t := 103) C 5 rfl (by decide) rfl (fun c2 => ?_) (fun c2 => ?_)
      · skip
        exact absurd c2 (nI_ge (by omega) (by omega))
      · skip
        refine y_iload3 (q := 11) C 6 rfl rfl ?_
        refine y_iload1 (q := 12) C 7 rfl rfl ?_
        refine x_icmp_ne (q := 15) (t := 18) C 8 rfl (by decide) rfl (fun c3 => ?_) (fun c3 => ?_)
        · skip
          refine y_aload0 (q := 19) C 10 rfl rfl ?_
          refine y_iload1 (q := 20) C 11 rfl rfl ?_
          refine y_iload2 (q := 21) C 12 rfl rfl ?_
          refine y_iload3 (q := 22) C 13 rfl rfl ?_
          refine y_cV3 (q := 25) C 14 rfl rfl ml_RX5_202 cd_X5_turn cv_X5_turn ⟨by decide, rfl⟩ (by first | assumption | rfl | decide | omega | exact bL hB _ (by decide)) (by decide) (by decide) (Nat.le_of_ble_eq_true rfl) (s_X5_turn (by first | assumption | rfl | decide | omega | exact bL hB _ (by decide)) (by first | assumption | rfl | decide | omega | exact bL hB _ (by decide)) (by first | assumption | rfl | decide | omega | exact bL hB _ (by decide)) (by first | assumption | rfl | decide | omega | exact bL hB _ (by decide)) ?_)
          show aj_X G 25 _ _ _ _ _ _ _ _ _
          refine y_istore4 (q := 27) C 15 rfl rfl (Nat.le_of_ble_eq_true rfl) rfl ?_
          refine y_iload4 (q := 29) C 16 rfl rfl ?_
          refine x_if_lt (q := 32) (t := 95) C 17 rfl (by decide) rfl (fun c4 => ?_) (fun c4 => ?_)
          · skip
            refine x_iconst (q := 96) C 58 (n := (0)) (v := (0)) rfl rfl rfl ?_
            exact x_ireturn C Z 59 rfl rfl rfl (hK false)
          · skip
            refine y_iload4 (q := 34) C 18 rfl rfl ?_
            refine x_if_ne (q := 37) (t := 97) C 19 rfl (by decide) rfl (fun c5 => ?_) (fun c5 => ?_)
            · skip
              refine y_iinc3 (q := 100) C 60 rfl rfl (nI_1 k) (Nat.le_of_ble_eq_true rfl) rfl ?_
              refine x_goto (t := 2) C 61 rfl (by decide) ?_
              exact ih (k + 1) _ (by omega)
            · skip
              refine y_aload0 (q := 38) C 20 rfl rfl ?_
              refine x_getR (q := 41) C 21 rfl rfl fl_RX5_23 (bv_6_5 hB) (fun _ _ => rfl) (by first | assumption | rfl | decide | omega | exact bL hB _ (by decide)) (by first | assumption | rfl | decide | omega | exact bL hB _ (by decide)) ?_
              refine y_iload2 (q := 42) C 22 rfl rfl ?_
              refine x_iald (q := 43) C 23 rfl rfl (by first | assumption | rfl | decide | omega | exact bL hB _ (by decide)) (by first | assumption | rfl | decide | omega | exact bL hB _ (by decide)) (by (first | rw [bn24 hB] | rw [bn40 hB] | rw [bn56 hB] | rw [bn72 hB] | rw [bn27 hB] | rw [bn43 hB] | rw [bn25 hB] | rw [bn41 hB] | rw [bn88 hB] | rw [bn104 hB] | rw [bn120 hB] | rw [bn136 hB] | rw [bn152 hB] | rw [bn168 hB]); first | assumption | exact vp_in_nI (by omega) (by decide)) ?_
              rw [nI_clamp (by omega)]
              refine y_aload0 (q := 44) C 24 rfl rfl ?_
              refine x_getR (q := 47) C 25 rfl rfl fl_RX5_23 (bv_6_5 hB) (fun _ _ => rfl) (by first | assumption | rfl | decide | omega | exact bL hB _ (by decide)) (by first | assumption | rfl | decide | omega | exact bL hB _ (by decide)) ?_
              refine y_iload1 (q := 48) C 26 rfl rfl ?_
              refine x_iald (q := 49) C 27 rfl rfl (by first | assumption | rfl | decide | omega | exact bL hB _ (by decide)) (by first | assumption | rfl | decide | omega | exact bL hB _ (by decide)) (by (first | rw [bn24 hB] | rw [bn40 hB] | rw [bn56 hB] | rw [bn72 hB] | rw [bn27 hB] | rw [bn43 hB] | rw [bn25 hB] | rw [bn41 hB] | rw [bn88 hB] | rw [bn104 hB] | rw [bn120 hB] | rw [bn136 hB] | rw [bn152 hB] | rw [bn168 hB]); first | assumption | exact vp_in_nI (by omega) (by decide)) ?_
              rw [nI_clamp (by omega)]
              refine x_isub (q := 50) C 28 rfl rfl ?_
              refine y_aload0 (q := 51) C 29 rfl rfl ?_
              refine x_getR (q := 54) C 30 rfl rfl fl_RX5_26 (bv_6_6 hB) (fun _ _ => rfl) (by first | assumption | rfl | decide | omega | exact bL hB _ (by decide)) (by first | assumption | rfl | decide | omega | exact bL hB _ (by decide)) ?_
              refine y_iload2 (q := 55) C 31 rfl rfl ?_
              refine x_iald (q := 56) C 32 rfl rfl (by first | assumption | rfl | decide | omega | exact bL hB _ (by decide)) (by first | assumption | rfl | decide | omega | exact bL hB _ (by decide)) (by (first | rw [bn24 hB] | rw [bn40 hB] | rw [bn56 hB] | rw [bn72 hB] | rw [bn27 hB] | rw [bn43 hB] | rw [bn25 hB] | rw [bn41 hB] | rw [bn88 hB] | rw [bn104 hB] | rw [bn120 hB] | rw [bn136 hB] | rw [bn152 hB] | rw [bn168 hB]); first | assumption | exact vp_in_nI (by omega) (by decide)) ?_
              rw [nI_clamp (by omega)]
              refine y_aload0 (q := 57) C 33 rfl rfl ?_
              refine x_getR (q := 60) C 34 rfl rfl fl_RX5_26 (bv_6_6 hB) (fun _ _ => rfl) (by first | assumption | rfl | decide | omega | exact bL hB _ (by decide)) (by first | assumption | rfl | decide | omega | exact bL hB _ (by decide)) ?_
              refine y_iload1 (q := 61) C 35 rfl rfl ?_
              refine x_iald (q := 62) C 36 rfl rfl (by first | assumption | rfl | decide | omega | exact bL hB _ (by decide)) (by first | assumption | rfl | decide | omega | exact bL hB _ (by decide)) (by (first | rw [bn24 hB] | rw [bn40 hB] | rw [bn56 hB] | rw [bn72 hB] | rw [bn27 hB] | rw [bn43 hB] | rw [bn25 hB] | rw [bn41 hB] | rw [bn88 hB] | rw [bn104 hB] | rw [bn120 hB] | rw [bn136 hB] | rw [bn152 hB] | rw [bn168 hB]); first | assumption | exact vp_in_nI (by omega) (by decide)) ?_
              rw [nI_clamp (by omega)]
              refine x_isub (q := 63) C 37 rfl rfl ?_
              refine y_aload0 (q := 64) C 38 rfl rfl ?_
              refine x_getR (q := 67) C 39 rfl rfl fl_RX5_23 (bv_6_5 hB) (fun _ _ => rfl) (by first | assumption | rfl | decide | omega | exact bL hB _ (by decide)) (by first | assumption | rfl | decide | omega | exact bL hB _ (by decide)) ?_
              refine y_iload3 (q := 68) C 40 rfl rfl ?_
              refine x_iald (q := 69) C 41 rfl rfl (by first | assumption | rfl | decide | omega | exact bL hB _ (by decide)) (by first | assumption | rfl | decide | omega | exact bL hB _ (by decide)) (by (first | rw [bn24 hB] | rw [bn40 hB] | rw [bn56 hB] | rw [bn72 hB] | rw [bn27 hB] | rw [bn43 hB] | rw [bn25 hB] | rw [bn41 hB] | rw [bn88 hB] | rw [bn104 hB] | rw [bn120 hB] | rw [bn136 hB] | rw [bn152 hB] | rw [bn168 hB]); first | assumption | exact vp_in_nI (by omega) (by decide)) ?_
              rw [nI_clamp (by omega)]
              refine y_aload0 (q := 70) C 42 rfl rfl ?_
              refine x_getR (q := 73) C 43 rfl rfl fl_RX5_23 (bv_6_5 hB) (fun _ _ => rfl) (by first | assumption | rfl | decide | omega | exact bL hB _ (by decide)) (by first | assumption | rfl | decide | omega | exact bL hB _ (by decide)) ?_
              refine y_iload1 (q := 74) C 44 rfl rfl ?_
              refine x_iald (q := 75) C 45 rfl rfl (by first | assumption | rfl | decide | omega | exact bL hB _ (by decide)) (by first | assumption | rfl | decide | omega | exact bL hB _ (by decide)) (by (first | rw [bn24 hB] | rw [bn40 hB] | rw [bn56 hB] | rw [bn72 hB] | rw [bn27 hB] | rw [bn43 hB] | rw [bn25 hB] | rw [bn41 hB] | rw [bn88 hB] | rw [bn104 hB] | rw [bn120 hB] | rw [bn136 hB] | rw [bn152 hB] | rw [bn168 hB]); first | assumption | exact vp_in_nI (by omega) (by decide)) ?_
              rw [nI_clamp (by omega)]
              refine x_isub (q := 76) C 46 rfl rfl ?_
              refine y_aload0 (q := 77) C 47 rfl rfl ?_
              refine x_getR (q := 80) C 48 rfl rfl fl_RX5_26 (bv_6_6 hB) (fun _ _ => rfl) (by first | assumption | rfl | decide | omega | exact bL hB _ (by decide)) (by first | assumption | rfl | decide | omega | exact bL hB _ (by decide)) ?_
              refine y_iload3 (q := 81) C 49 rfl rfl ?_
              refine x_iald (q := 82) C 50 rfl rfl (by first | assumption | rfl | decide | omega | exact bL hB _ (by decide)) (by first | assumption | rfl | decide | omega | exact bL hB _ (by decide)) (by (first | rw [bn24 hB] | rw [bn40 hB] | rw [bn56 hB] | rw [bn72 hB] | rw [bn27 hB] | rw [bn43 hB] | rw [bn25 hB] | rw [bn41 hB] | rw [bn88 hB] | rw [bn104 hB] | rw [bn120 hB] | rw [bn136 hB] | rw [bn152 hB] | rw [bn168 hB]); first | assumption | exact vp_in_nI (by omega) (by decide)) ?_
              rw [nI_clamp (by omega)]
              refine y_aload0 (q := 83) C 51 rfl rfl ?_
              refine x_getR (q := 86) C 52 rfl rfl fl_RX5_26 (bv_6_6 hB) (fun _ _ => rfl) (by first | assumption | rfl | decide | omega | exact bL hB _ (by decide)) (by first | assumption | rfl | decide | omega | exact bL hB _ (by decide)) ?_
              refine y_iload1 (q := 87) C 53 rfl rfl ?_
              refine x_iald (q := 88) C 54 rfl rfl (by first | assumption | rfl | decide | omega | exact bL hB _ (by decide)) (by first | assumption | rfl | decide | omega | exact bL hB _ (by decide)) (by (first | rw [bn24 hB] | rw [bn40 hB] | rw [bn56 hB] | rw [bn72 hB] | rw [bn27 hB] | rw [bn43 hB] | rw [bn25 hB] | rw [bn41 hB] | rw [bn88 hB] | rw [bn104 hB] | rw [bn120 hB] | rw [bn136 hB] | rw [bn152 hB] | rw [bn168 hB]); first | assumption | exact vp_in_nI (by omega) (by decide)) ?_
              rw [nI_clamp (by omega)]
              refine x_isub (q := 89) C 55 rfl rfl ?_
              refine y_cS4 (q := 92) C 56 rfl rfl ml_RX5_55 cd_X5_dot sv_X5_dot (by decide) (by decide) (Nat.le_of_ble_eq_true rfl) (s_X5_dot ?_)
              show aj_X G 92 _ _ _ _ _ _ _ _ _
              refine x_if_ge (q := 95) (t := 97) C 57 rfl (by decide) rfl (fun c6 => ?_) (fun c6 => ?_)
              · skip
                refine y_iinc3 (q := 100) C 60 rfl rfl (nI_1 k) (Nat.le_of_ble_eq_true rfl) rfl ?_
                refine x_goto (t := 2) C 61 rfl (by decide) ?_
                exact ih (k + 1) _ (by omega)
              · skip
                refine x_iconst (q := 96) C 58 (n := (0)) (v := (0)) rfl rfl rfl ?_
                exact x_ireturn C Z 59 rfl rfl rfl (hK false)
        · skip
          refine x_goto (t := 97) C 9 rfl (by decide) ?_
          refine y_iinc3 (q := 100) C 60 rfl rfl (nI_1 k) (Nat.le_of_ble_eq_true rfl) rfl ?_
          refine x_goto (t := 2) C 61 rfl (by decide) ?_
          exact ih (k + 1) _ (by omega)
  exact lp2 n 0 _ (by omega)
set_option maxRecDepth 100000 in
set_option maxHeartbeats 800000 in
theorem s_X5_isCorner {l : Launch} {I : Nat → Nat → Int32} {J : Nat → Nat → Int64} {V : Nat → Nat → Option Nat} {N : Nat → Nat} {L : List Nat} {K : aj_K} {i : Nat} (hi : i < 12) {n : Nat} (hn : n ≤ 12) (he : I 22 7 = nI n) (hB : bV V N L) (hK : ∀ b : Bool, K (.inl (some (.int (bI b)))) I J V N L) : aj_M l yX5_isCorner (aj_wc yX5_isCorner cX5_isCorner 3 (some .boolean)) (aj_rm 3 0 0) [] [.ref 22, .int (nI i)] I J V N L K := by
  refine aj_intro (tbl := t_X5_isCorner) (lv0 := [some (.ref 22), some (.int (nI i)), none]) (by decide) T_X5_isCorner aj_f0 (Nat.le_of_ble_eq_true rfl) rfl ?_
  intro G hl C Z NX hnm hGL hGF
  have C : aj_C G cX5_isCorner t_X5_isCorner RX5 (aj_rm 3 0 0) 3 := C
  refine x_iconst (q := 1) C 0 (n := (0)) (v := nI 0) rfl rfl rfl ?_
  refine y_istore2 (q := 2) C 1 rfl rfl (Nat.le_of_ble_eq_true rfl) rfl ?_
  have lp2 : ∀ (m k : Nat) , k + m = n → aj_X G 2 [some (.ref 22), some (.int (nI i)), some (.int (nI k))] [] I J V N L 0 0 := by
    intro m
    induction m with
    | zero =>
      intro k  hk
      refine y_iload2 (q := 3) C 2 rfl rfl ?_
      refine y_aload0 (q := 4) C 3 rfl rfl ?_
      refine x_getI (q := 7) C 4 rfl rfl fl_RX5_44 (fun _ _ => rfl) (by first | assumption | rfl | decide | omega | exact bL hB _ (by decide)) (by first | assumption | rfl | decide | omega | exact bL hB _ (by decide)) ?_
      rw [he]
      refine x_icmp_ge (q := 10) (t := 32) C 5 rfl (by decide) rfl (fun c1 => ?_) (fun c1 => ?_)
      · skip
        refine y_aload0 (q := 33) C 18 rfl rfl ?_
        refine x_getI (q := 36) C 19 rfl rfl fl_RX5_44 (fun _ _ => rfl) (by first | assumption | rfl | decide | omega | exact bL hB _ (by decide)) (by first | assumption | rfl | decide | omega | exact bL hB _ (by decide)) ?_
        refine x_iconst (q := 37) C 20 (n := (1)) (v := (1)) rfl rfl rfl ?_
        refine x_icmp_ne (q := 40) (t := 44) C 21 rfl (by decide) rfl (fun c2 => ?_) (fun c2 => ?_)
        · skip
          refine x_iconst (q := 45) C 24 (n := (0)) (v := (0)) rfl rfl rfl ?_
          exact x_ireturn C Z 25 rfl rfl rfl (hK false)
        · skip
          refine x_iconst (q := 41) C 22 (n := (1)) (v := (1)) rfl rfl rfl ?_
          refine x_goto (t := 45) C 23 rfl (by decide) ?_
          exact x_ireturn C Z 25 rfl rfl rfl (hK true)
      · skip
        exact absurd (nI_le (by omega) (by omega)) c1
    | succ m ih =>
      intro k  hk
      refine y_iload2 (q := 3) C 2 rfl rfl ?_
      refine y_aload0 (q := 4) C 3 rfl rfl ?_
      refine x_getI (q := 7) C 4 rfl rfl fl_RX5_44 (fun _ _ => rfl) (by first | assumption | rfl | decide | omega | exact bL hB _ (by decide)) (by first | assumption | rfl | decide | omega | exact bL hB _ (by decide)) ?_
      rw [he]
      refine x_icmp_ge (q := 10) (t := 32) C 5 rfl (by decide) rfl (fun c3 => ?_) (fun c3 => ?_)
      · skip
        exact absurd c3 (nI_ge (by omega) (by omega))
      · skip
        refine y_iload2 (q := 11) C 6 rfl rfl ?_
        refine y_iload1 (q := 12) C 7 rfl rfl ?_
        refine x_icmp_eq (q := 15) (t := 26) C 8 rfl (by decide) rfl (fun c4 => ?_) (fun c4 => ?_)
        · skip
          refine y_iinc2 (q := 29) C 16 rfl rfl (nI_1 k) (Nat.le_of_ble_eq_true rfl) rfl ?_
          refine x_goto (t := 2) C 17 rfl (by decide) ?_
          exact ih (k + 1)  (by omega)
        · skip
          refine y_aload0 (q := 16) C 9 rfl rfl ?_
          refine y_iload1 (q := 17) C 10 rfl rfl ?_
          refine y_iload2 (q := 18) C 11 rfl rfl ?_
          refine y_cV2 (q := 21) C 12 rfl rfl ml_RX5_252 cd_X5_isRim cv_X5_isRim ⟨by decide, rfl⟩ (by first | assumption | rfl | decide | omega | exact bL hB _ (by decide)) (by decide) (by decide) (Nat.le_of_ble_eq_true rfl) (s_X5_isRim (by first | assumption | rfl | decide | omega | exact bL hB _ (by decide)) (by first | assumption | rfl | decide | omega | exact bL hB _ (by decide)) (by first | assumption | rfl | decide | omega | exact bL hB _ (by decide)) (by first | assumption | rfl | decide | omega | exact bL hB _ (by decide)) (by first | assumption | rfl | decide | omega | exact bL hB _ (by decide)) ?_)
          intro b
          show aj_X G 21 _ _ _ _ _ _ _ _ _
          refine x_if_eqB (q := 24) (t := 26) C 13 rfl (by decide) rfl (fun c5 => ?_) (fun c5 => ?_)
          · skip
            refine y_iinc2 (q := 29) C 16 rfl rfl (nI_1 k) (Nat.le_of_ble_eq_true rfl) rfl ?_
            refine x_goto (t := 2) C 17 rfl (by decide) ?_
            exact ih (k + 1)  (by omega)
          · skip
            refine x_iconst (q := 25) C 14 (n := (1)) (v := (1)) rfl rfl rfl ?_
            exact x_ireturn C Z 15 rfl rfl rfl (hK true)
  exact lp2 n 0  (by omega)
set_option maxRecDepth 100000 in
set_option maxHeartbeats 800000 in
theorem s_X5_roundsTold {l : Launch} {I : Nat → Nat → Int32} {J : Nat → Nat → Int64} {V : Nat → Nat → Option Nat} {N : Nat → Nat} {L : List Nat} {K : aj_K} {n : Nat} (hn : n ≤ 12) (he : I 22 7 = nI n) (hB : bV V N L) (hK : K (.inl (some (.int (wRo (I 22 8) (I 22 9) (I 136) (I 152) n)))) I J V N L) : aj_M l yX5_roundsTold (aj_wc yX5_roundsTold cX5_roundsTold 5 (some .int)) (aj_rm 1 0 0) [] [.ref 22] I J V N L K := by
  refine aj_intro (tbl := t_X5_roundsTold) (lv0 := [some (.ref 22), none, none, none, none]) (by decide) T_X5_roundsTold aj_f0 (Nat.le_of_ble_eq_true rfl) rfl ?_
  intro G hl C Z NX hnm hGL hGF
  have C : aj_C G cX5_roundsTold t_X5_roundsTold RX5 (aj_rm 1 0 0) 5 := C
  refine x_iconst (q := 1) C 0 (n := (0)) (v := (0)) rfl rfl rfl ?_
  refine y_istore1 (q := 2) C 1 rfl rfl (Nat.le_of_ble_eq_true rfl) rfl ?_
  refine x_iconst (q := 3) C 2 (n := (0)) (v := nI 0) rfl rfl rfl ?_
  refine y_istore2 (q := 4) C 3 rfl rfl (Nat.le_of_ble_eq_true rfl) rfl ?_
  have lp4 : ∀ (m k : Nat) (s : Int32) (z y : Option Value), k + m = n → s = vSm (wW (I 22 8) (I 22 9) (I 136) (I 152) n) k → (∀ i, i < k → wOn (I 22 8) (I 22 9) (I 136) (I 152) n i = false) → aj_X G 4 [some (.ref 22), some (.int s), some (.int (nI k)), z, y] [] I J V N L 0 0 := by
    intro m
    induction m with
    | zero =>
      intro k s z y hk hs hp
      refine y_iload2 (q := 5) C 4 rfl rfl ?_
      refine y_aload0 (q := 6) C 5 rfl rfl ?_
      refine x_getI (q := 9) C 6 rfl rfl fl_RX5_44 (fun _ _ => rfl) (by first | assumption | rfl | decide | omega | exact bL hB _ (by decide)) (by first | assumption | rfl | decide | omega | exact bL hB _ (by decide)) ?_
      rw [he]
      refine x_icmp_ge (q := 12) (t := 206) C 7 rfl (by decide) rfl (fun c1 => ?_) (fun c1 => ?_)
      · skip
        refine y_iload1 (q := 207) C 119 rfl rfl ?_
        exact x_ireturn C Z 120 rfl rfl rfl (aj_lf hK ((wRo_f (fun i hi => hp i (by omega))).trans (by rw [hs, show k = n by omega])))
      · skip
        exact absurd (nI_le (by omega) (by omega)) c1
    | succ m ih =>
      intro k s z y hk hs hp
      refine y_iload2 (q := 5) C 4 rfl rfl ?_
      refine y_aload0 (q := 6) C 5 rfl rfl ?_
      refine x_getI (q := 9) C 6 rfl rfl fl_RX5_44 (fun _ _ => rfl) (by first | assumption | rfl | decide | omega | exact bL hB _ (by decide)) (by first | assumption | rfl | decide | omega | exact bL hB _ (by decide)) ?_
      rw [he]
      refine x_icmp_ge (q := 12) (t := 206) C 7 rfl (by decide) rfl (fun c2 => ?_) (fun c2 => ?_)
      · skip
        exact absurd c2 (nI_ge (by omega) (by omega))
      · skip
        refine y_iload2 (q := 13) C 8 rfl rfl ?_
        refine x_iconst (q := 14) C 9 (n := (1)) (v := (1)) rfl rfl rfl ?_
        refine x_iadd (q := 15) C 10 rfl rfl ?_
        rw [nI_1]
        refine y_aload0 (q := 16) C 11 rfl rfl ?_
        refine x_getI (q := 19) C 12 rfl rfl fl_RX5_44 (fun _ _ => rfl) (by first | assumption | rfl | decide | omega | exact bL hB _ (by decide)) (by first | assumption | rfl | decide | omega | exact bL hB _ (by decide)) ?_
        rw [he]
        refine x_irem (q := 20) C 13 (nI_nz (by omega) (by omega)) rfl rfl ?_
        rw [nI_rm (by omega) (by omega)]
        have hq := vfo_l (show k < n by omega)
        rw [vfo_m (show k < n by omega)]
        refine y_istore3 (q := 21) C 14 rfl rfl (Nat.le_of_ble_eq_true rfl) rfl ?_
        refine y_aload0 (q := 22) C 15 rfl rfl ?_
        refine x_getR (q := 25) C 16 rfl rfl fl_RX5_23 (bv_6_5 hB) (fun _ _ => rfl) (by first | assumption | rfl | decide | omega | exact bL hB _ (by decide)) (by first | assumption | rfl | decide | omega | exact bL hB _ (by decide)) ?_
        refine y_iload3 (q := 26) C 17 rfl rfl ?_
        refine x_iald (q := 27) C 18 rfl rfl (by first | assumption | rfl | decide | omega | exact bL hB _ (by decide)) (by first | assumption | rfl | decide | omega | exact bL hB _ (by decide)) (by (first | rw [bn24 hB] | rw [bn40 hB] | rw [bn56 hB] | rw [bn72 hB] | rw [bn27 hB] | rw [bn43 hB] | rw [bn25 hB] | rw [bn41 hB] | rw [bn88 hB] | rw [bn104 hB] | rw [bn120 hB] | rw [bn136 hB] | rw [bn152 hB] | rw [bn168 hB]); first | assumption | exact vp_in_nI (by omega) (by decide)) ?_
        rw [nI_clamp (by omega)]
        refine y_aload0 (q := 28) C 19 rfl rfl ?_
        refine x_getR (q := 31) C 20 rfl rfl fl_RX5_23 (bv_6_5 hB) (fun _ _ => rfl) (by first | assumption | rfl | decide | omega | exact bL hB _ (by decide)) (by first | assumption | rfl | decide | omega | exact bL hB _ (by decide)) ?_
        refine y_iload2 (q := 32) C 21 rfl rfl ?_
        refine x_iald (q := 33) C 22 rfl rfl (by first | assumption | rfl | decide | omega | exact bL hB _ (by decide)) (by first | assumption | rfl | decide | omega | exact bL hB _ (by decide)) (by (first | rw [bn24 hB] | rw [bn40 hB] | rw [bn56 hB] | rw [bn72 hB] | rw [bn27 hB] | rw [bn43 hB] | rw [bn25 hB] | rw [bn41 hB] | rw [bn88 hB] | rw [bn104 hB] | rw [bn120 hB] | rw [bn136 hB] | rw [bn152 hB] | rw [bn168 hB]); first | assumption | exact vp_in_nI (by omega) (by decide)) ?_
        rw [nI_clamp (by omega)]
        refine x_isub (q := 34) C 23 rfl rfl ?_
        refine y_aload0 (q := 35) C 24 rfl rfl ?_
        refine x_getR (q := 38) C 25 rfl rfl fl_RX5_26 (bv_6_6 hB) (fun _ _ => rfl) (by first | assumption | rfl | decide | omega | exact bL hB _ (by decide)) (by first | assumption | rfl | decide | omega | exact bL hB _ (by decide)) ?_
        refine y_iload3 (q := 39) C 26 rfl rfl ?_
        refine x_iald (q := 40) C 27 rfl rfl (by first | assumption | rfl | decide | omega | exact bL hB _ (by decide)) (by first | assumption | rfl | decide | omega | exact bL hB _ (by decide)) (by (first | rw [bn24 hB] | rw [bn40 hB] | rw [bn56 hB] | rw [bn72 hB] | rw [bn27 hB] | rw [bn43 hB] | rw [bn25 hB] | rw [bn41 hB] | rw [bn88 hB] | rw [bn104 hB] | rw [bn120 hB] | rw [bn136 hB] | rw [bn152 hB] | rw [bn168 hB]); first | assumption | exact vp_in_nI (by omega) (by decide)) ?_
        rw [nI_clamp (by omega)]
        refine y_aload0 (q := 41) C 28 rfl rfl ?_
        refine x_getR (q := 44) C 29 rfl rfl fl_RX5_26 (bv_6_6 hB) (fun _ _ => rfl) (by first | assumption | rfl | decide | omega | exact bL hB _ (by decide)) (by first | assumption | rfl | decide | omega | exact bL hB _ (by decide)) ?_
        refine y_iload2 (q := 45) C 30 rfl rfl ?_
        refine x_iald (q := 46) C 31 rfl rfl (by first | assumption | rfl | decide | omega | exact bL hB _ (by decide)) (by first | assumption | rfl | decide | omega | exact bL hB _ (by decide)) (by (first | rw [bn24 hB] | rw [bn40 hB] | rw [bn56 hB] | rw [bn72 hB] | rw [bn27 hB] | rw [bn43 hB] | rw [bn25 hB] | rw [bn41 hB] | rw [bn88 hB] | rw [bn104 hB] | rw [bn120 hB] | rw [bn136 hB] | rw [bn152 hB] | rw [bn168 hB]); first | assumption | exact vp_in_nI (by omega) (by decide)) ?_
        rw [nI_clamp (by omega)]
        refine x_isub (q := 47) C 32 rfl rfl ?_
        refine y_aload0 (q := 48) C 33 rfl rfl ?_
        refine x_getI (q := 51) C 34 rfl rfl fl_RX5_185 (fun _ _ => rfl) (by first | assumption | rfl | decide | omega | exact bL hB _ (by decide)) (by first | assumption | rfl | decide | omega | exact bL hB _ (by decide)) ?_
        refine y_aload0 (q := 52) C 35 rfl rfl ?_
        refine x_getR (q := 55) C 36 rfl rfl fl_RX5_23 (bv_6_5 hB) (fun _ _ => rfl) (by first | assumption | rfl | decide | omega | exact bL hB _ (by decide)) (by first | assumption | rfl | decide | omega | exact bL hB _ (by decide)) ?_
        refine y_iload2 (q := 56) C 37 rfl rfl ?_
        refine x_iald (q := 57) C 38 rfl rfl (by first | assumption | rfl | decide | omega | exact bL hB _ (by decide)) (by first | assumption | rfl | decide | omega | exact bL hB _ (by decide)) (by (first | rw [bn24 hB] | rw [bn40 hB] | rw [bn56 hB] | rw [bn72 hB] | rw [bn27 hB] | rw [bn43 hB] | rw [bn25 hB] | rw [bn41 hB] | rw [bn88 hB] | rw [bn104 hB] | rw [bn120 hB] | rw [bn136 hB] | rw [bn152 hB] | rw [bn168 hB]); first | assumption | exact vp_in_nI (by omega) (by decide)) ?_
        rw [nI_clamp (by omega)]
        refine x_isub (q := 58) C 39 rfl rfl ?_
        refine y_aload0 (q := 59) C 40 rfl rfl ?_
        refine x_getI (q := 62) C 41 rfl rfl fl_RX5_188 (fun _ _ => rfl) (by first | assumption | rfl | decide | omega | exact bL hB _ (by decide)) (by first | assumption | rfl | decide | omega | exact bL hB _ (by decide)) ?_
        refine y_aload0 (q := 63) C 42 rfl rfl ?_
        refine x_getR (q := 66) C 43 rfl rfl fl_RX5_26 (bv_6_6 hB) (fun _ _ => rfl) (by first | assumption | rfl | decide | omega | exact bL hB _ (by decide)) (by first | assumption | rfl | decide | omega | exact bL hB _ (by decide)) ?_
        refine y_iload2 (q := 67) C 44 rfl rfl ?_
        refine x_iald (q := 68) C 45 rfl rfl (by first | assumption | rfl | decide | omega | exact bL hB _ (by decide)) (by first | assumption | rfl | decide | omega | exact bL hB _ (by decide)) (by (first | rw [bn24 hB] | rw [bn40 hB] | rw [bn56 hB] | rw [bn72 hB] | rw [bn27 hB] | rw [bn43 hB] | rw [bn25 hB] | rw [bn41 hB] | rw [bn88 hB] | rw [bn104 hB] | rw [bn120 hB] | rw [bn136 hB] | rw [bn152 hB] | rw [bn168 hB]); first | assumption | exact vp_in_nI (by omega) (by decide)) ?_
        rw [nI_clamp (by omega)]
        refine x_isub (q := 69) C 46 rfl rfl ?_
        refine y_cS4 (q := 72) C 47 rfl rfl ml_RX5_51 cd_X5_cross sv_X5_cross (by decide) (by decide) (Nat.le_of_ble_eq_true rfl) (s_X5_cross ?_)
        show aj_X G 72 _ _ _ _ _ _ _ _ _
        refine y_istore4 (q := 74) C 48 rfl rfl (Nat.le_of_ble_eq_true rfl) rfl ?_
        refine y_iload4 (q := 76) C 49 rfl rfl ?_
        refine x_if_ne (q := 79) (t := 132) C 50 rfl (by decide) rfl (fun c3 => ?_) (fun c3 => ?_)
        · skip
          refine y_aload0 (q := 133) C 83 rfl rfl ?_
          refine x_getR (q := 136) C 84 rfl rfl fl_RX5_26 (bv_6_6 hB) (fun _ _ => rfl) (by first | assumption | rfl | decide | omega | exact bL hB _ (by decide)) (by first | assumption | rfl | decide | omega | exact bL hB _ (by decide)) ?_
          refine y_iload2 (q := 137) C 85 rfl rfl ?_
          refine x_iald (q := 138) C 86 rfl rfl (by first | assumption | rfl | decide | omega | exact bL hB _ (by decide)) (by first | assumption | rfl | decide | omega | exact bL hB _ (by decide)) (by (first | rw [bn24 hB] | rw [bn40 hB] | rw [bn56 hB] | rw [bn72 hB] | rw [bn27 hB] | rw [bn43 hB] | rw [bn25 hB] | rw [bn41 hB] | rw [bn88 hB] | rw [bn104 hB] | rw [bn120 hB] | rw [bn136 hB] | rw [bn152 hB] | rw [bn168 hB]); first | assumption | exact vp_in_nI (by omega) (by decide)) ?_
          rw [nI_clamp (by omega)]
          refine y_aload0 (q := 139) C 87 rfl rfl ?_
          refine x_getI (q := 142) C 88 rfl rfl fl_RX5_188 (fun _ _ => rfl) (by first | assumption | rfl | decide | omega | exact bL hB _ (by decide)) (by first | assumption | rfl | decide | omega | exact bL hB _ (by decide)) ?_
          refine x_icmp_lt (q := 145) (t := 166) C 89 rfl (by decide) rfl (fun c4 => ?_) (fun c4 => ?_)
          · skip
            refine y_aload0 (q := 167) C 100 rfl rfl ?_
            refine x_getR (q := 170) C 101 rfl rfl fl_RX5_26 (bv_6_6 hB) (fun _ _ => rfl) (by first | assumption | rfl | decide | omega | exact bL hB _ (by decide)) (by first | assumption | rfl | decide | omega | exact bL hB _ (by decide)) ?_
            refine y_iload2 (q := 171) C 102 rfl rfl ?_
            refine x_iald (q := 172) C 103 rfl rfl (by first | assumption | rfl | decide | omega | exact bL hB _ (by decide)) (by first | assumption | rfl | decide | omega | exact bL hB _ (by decide)) (by (first | rw [bn24 hB] | rw [bn40 hB] | rw [bn56 hB] | rw [bn72 hB] | rw [bn27 hB] | rw [bn43 hB] | rw [bn25 hB] | rw [bn41 hB] | rw [bn88 hB] | rw [bn104 hB] | rw [bn120 hB] | rw [bn136 hB] | rw [bn152 hB] | rw [bn168 hB]); first | assumption | exact vp_in_nI (by omega) (by decide)) ?_
            rw [nI_clamp (by omega)]
            refine y_aload0 (q := 173) C 104 rfl rfl ?_
            refine x_getI (q := 176) C 105 rfl rfl fl_RX5_188 (fun _ _ => rfl) (by first | assumption | rfl | decide | omega | exact bL hB _ (by decide)) (by first | assumption | rfl | decide | omega | exact bL hB _ (by decide)) ?_
            refine x_icmp_ge (q := 179) (t := 200) C 106 rfl (by decide) rfl (fun c5 => ?_) (fun c5 => ?_)
            · skip
              refine y_iinc2 (q := 203) C 117 rfl rfl (nI_1 k) (Nat.le_of_ble_eq_true rfl) rfl ?_
              refine x_goto (t := 4) C 118 rfl (by decide) ?_
              exact ih (k + 1) _ _ _ (by omega) (by subst hs; show _ = vSm _ k + wT _ _ _ _ _ _; clear hK C Z ih; simp_all [wT, mCr_pCr, ← Int32.not_le, show Int32.ofInt 1 = 1 from rfl, show Int32.ofInt (-1) = -1 from rfl]) (lt_snoc hp (by first | exact wOn_1 (fun e => absurd ((pCr_rot _ _ _ _ _ _).symm.trans e) (by assumption)) | exact wOn_2 (by assumption)))
            · skip
              refine y_aload0 (q := 180) C 107 rfl rfl ?_
              refine x_getR (q := 183) C 108 rfl rfl fl_RX5_26 (bv_6_6 hB) (fun _ _ => rfl) (by first | assumption | rfl | decide | omega | exact bL hB _ (by decide)) (by first | assumption | rfl | decide | omega | exact bL hB _ (by decide)) ?_
              refine y_iload3 (q := 184) C 109 rfl rfl ?_
              refine x_iald (q := 185) C 110 rfl rfl (by first | assumption | rfl | decide | omega | exact bL hB _ (by decide)) (by first | assumption | rfl | decide | omega | exact bL hB _ (by decide)) (by (first | rw [bn24 hB] | rw [bn40 hB] | rw [bn56 hB] | rw [bn72 hB] | rw [bn27 hB] | rw [bn43 hB] | rw [bn25 hB] | rw [bn41 hB] | rw [bn88 hB] | rw [bn104 hB] | rw [bn120 hB] | rw [bn136 hB] | rw [bn152 hB] | rw [bn168 hB]); first | assumption | exact vp_in_nI (by omega) (by decide)) ?_
              rw [nI_clamp (by omega)]
              refine y_aload0 (q := 186) C 111 rfl rfl ?_
              refine x_getI (q := 189) C 112 rfl rfl fl_RX5_188 (fun _ _ => rfl) (by first | assumption | rfl | decide | omega | exact bL hB _ (by decide)) (by first | assumption | rfl | decide | omega | exact bL hB _ (by decide)) ?_
              refine x_icmp_lt (q := 192) (t := 200) C 113 rfl (by decide) rfl (fun c6 => ?_) (fun c6 => ?_)
              · skip
                refine y_iinc2 (q := 203) C 117 rfl rfl (nI_1 k) (Nat.le_of_ble_eq_true rfl) rfl ?_
                refine x_goto (t := 4) C 118 rfl (by decide) ?_
                exact ih (k + 1) _ _ _ (by omega) (by subst hs; show _ = vSm _ k + wT _ _ _ _ _ _; clear hK C Z ih; simp_all [wT, mCr_pCr, ← Int32.not_le, show Int32.ofInt 1 = 1 from rfl, show Int32.ofInt (-1) = -1 from rfl]) (lt_snoc hp (by first | exact wOn_1 (fun e => absurd ((pCr_rot _ _ _ _ _ _).symm.trans e) (by assumption)) | exact wOn_2 (by assumption)))
              · skip
                refine y_iload4 (q := 194) C 114 rfl rfl ?_
                refine x_if_ge (q := 197) (t := 200) C 115 rfl (by decide) rfl (fun c7 => ?_) (fun c7 => ?_)
                · skip
                  refine y_iinc2 (q := 203) C 117 rfl rfl (nI_1 k) (Nat.le_of_ble_eq_true rfl) rfl ?_
                  refine x_goto (t := 4) C 118 rfl (by decide) ?_
                  exact ih (k + 1) _ _ _ (by omega) (by subst hs; show _ = vSm _ k + wT _ _ _ _ _ _; clear hK C Z ih; simp_all [wT, mCr_pCr, ← Int32.not_le, show Int32.ofInt 1 = 1 from rfl, show Int32.ofInt (-1) = -1 from rfl]) (lt_snoc hp (by first | exact wOn_1 (fun e => absurd ((pCr_rot _ _ _ _ _ _).symm.trans e) (by assumption)) | exact wOn_2 (by assumption)))
                · skip
                  refine y_iinc1 (q := 200) C 116 rfl rfl rfl (Nat.le_of_ble_eq_true rfl) rfl ?_
                  refine y_iinc2 (q := 203) C 117 rfl rfl (nI_1 k) (Nat.le_of_ble_eq_true rfl) rfl ?_
                  refine x_goto (t := 4) C 118 rfl (by decide) ?_
                  exact ih (k + 1) _ _ _ (by omega) (by subst hs; show _ = vSm _ k + wT _ _ _ _ _ _; clear hK C Z ih; simp_all [wT, mCr_pCr, ← Int32.not_le, show Int32.ofInt 1 = 1 from rfl, show Int32.ofInt (-1) = -1 from rfl]) (lt_snoc hp (by first | exact wOn_1 (fun e => absurd ((pCr_rot _ _ _ _ _ _).symm.trans e) (by assumption)) | exact wOn_2 (by assumption)))
          · skip
            refine y_aload0 (q := 146) C 90 rfl rfl ?_
            refine x_getR (q := 149) C 91 rfl rfl fl_RX5_26 (bv_6_6 hB) (fun _ _ => rfl) (by first | assumption | rfl | decide | omega | exact bL hB _ (by decide)) (by first | assumption | rfl | decide | omega | exact bL hB _ (by decide)) ?_
            refine y_iload3 (q := 150) C 92 rfl rfl ?_
            refine x_iald (q := 151) C 93 rfl rfl (by first | assumption | rfl | decide | omega | exact bL hB _ (by decide)) (by first | assumption | rfl | decide | omega | exact bL hB _ (by decide)) (by (first | rw [bn24 hB] | rw [bn40 hB] | rw [bn56 hB] | rw [bn72 hB] | rw [bn27 hB] | rw [bn43 hB] | rw [bn25 hB] | rw [bn41 hB] | rw [bn88 hB] | rw [bn104 hB] | rw [bn120 hB] | rw [bn136 hB] | rw [bn152 hB] | rw [bn168 hB]); first | assumption | exact vp_in_nI (by omega) (by decide)) ?_
            rw [nI_clamp (by omega)]
            refine y_aload0 (q := 152) C 94 rfl rfl ?_
            refine x_getI (q := 155) C 95 rfl rfl fl_RX5_188 (fun _ _ => rfl) (by first | assumption | rfl | decide | omega | exact bL hB _ (by decide)) (by first | assumption | rfl | decide | omega | exact bL hB _ (by decide)) ?_
            refine x_icmp_ge (q := 158) (t := 166) C 96 rfl (by decide) rfl (fun c8 => ?_) (fun c8 => ?_)
            · skip
              refine y_aload0 (q := 167) C 100 rfl rfl ?_
              refine x_getR (q := 170) C 101 rfl rfl fl_RX5_26 (bv_6_6 hB) (fun _ _ => rfl) (by first | assumption | rfl | decide | omega | exact bL hB _ (by decide)) (by first | assumption | rfl | decide | omega | exact bL hB _ (by decide)) ?_
              refine y_iload2 (q := 171) C 102 rfl rfl ?_
              refine x_iald (q := 172) C 103 rfl rfl (by first | assumption | rfl | decide | omega | exact bL hB _ (by decide)) (by first | assumption | rfl | decide | omega | exact bL hB _ (by decide)) (by (first | rw [bn24 hB] | rw [bn40 hB] | rw [bn56 hB] | rw [bn72 hB] | rw [bn27 hB] | rw [bn43 hB] | rw [bn25 hB] | rw [bn41 hB] | rw [bn88 hB] | rw [bn104 hB] | rw [bn120 hB] | rw [bn136 hB] | rw [bn152 hB] | rw [bn168 hB]); first | assumption | exact vp_in_nI (by omega) (by decide)) ?_
              rw [nI_clamp (by omega)]
              refine y_aload0 (q := 173) C 104 rfl rfl ?_
              refine x_getI (q := 176) C 105 rfl rfl fl_RX5_188 (fun _ _ => rfl) (by first | assumption | rfl | decide | omega | exact bL hB _ (by decide)) (by first | assumption | rfl | decide | omega | exact bL hB _ (by decide)) ?_
              refine x_icmp_ge (q := 179) (t := 200) C 106 rfl (by decide) rfl (fun c9 => ?_) (fun c9 => ?_)
              · skip
                refine y_iinc2 (q := 203) C 117 rfl rfl (nI_1 k) (Nat.le_of_ble_eq_true rfl) rfl ?_
                refine x_goto (t := 4) C 118 rfl (by decide) ?_
                exact ih (k + 1) _ _ _ (by omega) (by subst hs; show _ = vSm _ k + wT _ _ _ _ _ _; clear hK C Z ih; simp_all [wT, mCr_pCr, ← Int32.not_le, show Int32.ofInt 1 = 1 from rfl, show Int32.ofInt (-1) = -1 from rfl]) (lt_snoc hp (by first | exact wOn_1 (fun e => absurd ((pCr_rot _ _ _ _ _ _).symm.trans e) (by assumption)) | exact wOn_2 (by assumption)))
              · skip
                refine y_aload0 (q := 180) C 107 rfl rfl ?_
                refine x_getR (q := 183) C 108 rfl rfl fl_RX5_26 (bv_6_6 hB) (fun _ _ => rfl) (by first | assumption | rfl | decide | omega | exact bL hB _ (by decide)) (by first | assumption | rfl | decide | omega | exact bL hB _ (by decide)) ?_
                refine y_iload3 (q := 184) C 109 rfl rfl ?_
                refine x_iald (q := 185) C 110 rfl rfl (by first | assumption | rfl | decide | omega | exact bL hB _ (by decide)) (by first | assumption | rfl | decide | omega | exact bL hB _ (by decide)) (by (first | rw [bn24 hB] | rw [bn40 hB] | rw [bn56 hB] | rw [bn72 hB] | rw [bn27 hB] | rw [bn43 hB] | rw [bn25 hB] | rw [bn41 hB] | rw [bn88 hB] | rw [bn104 hB] | rw [bn120 hB] | rw [bn136 hB] | rw [bn152 hB] | rw [bn168 hB]); first | assumption | exact vp_in_nI (by omega) (by decide)) ?_
                rw [nI_clamp (by omega)]
                refine y_aload0 (q := 186) C 111 rfl rfl ?_
                refine x_getI (q := 189) C 112 rfl rfl fl_RX5_188 (fun _ _ => rfl) (by first | assumption | rfl | decide | omega | exact bL hB _ (by decide)) (by first | assumption | rfl | decide | omega | exact bL hB _ (by decide)) ?_
                refine x_icmp_lt (q := 192) (t := 200) C 113 rfl (by decide) rfl (fun c10 => ?_) (fun c10 => ?_)
                · skip
                  refine y_iinc2 (q := 203) C 117 rfl rfl (nI_1 k) (Nat.le_of_ble_eq_true rfl) rfl ?_
                  refine x_goto (t := 4) C 118 rfl (by decide) ?_
                  exact ih (k + 1) _ _ _ (by omega) (by subst hs; show _ = vSm _ k + wT _ _ _ _ _ _; clear hK C Z ih; simp_all [wT, mCr_pCr, ← Int32.not_le, show Int32.ofInt 1 = 1 from rfl, show Int32.ofInt (-1) = -1 from rfl]) (lt_snoc hp (by first | exact wOn_1 (fun e => absurd ((pCr_rot _ _ _ _ _ _).symm.trans e) (by assumption)) | exact wOn_2 (by assumption)))
                · skip
                  refine y_iload4 (q := 194) C 114 rfl rfl ?_
                  refine x_if_ge (q := 197) (t := 200) C 115 rfl (by decide) rfl (fun c11 => ?_) (fun c11 => ?_)
                  · skip
                    refine y_iinc2 (q := 203) C 117 rfl rfl (nI_1 k) (Nat.le_of_ble_eq_true rfl) rfl ?_
                    refine x_goto (t := 4) C 118 rfl (by decide) ?_
                    exact ih (k + 1) _ _ _ (by omega) (by subst hs; show _ = vSm _ k + wT _ _ _ _ _ _; clear hK C Z ih; simp_all [wT, mCr_pCr, ← Int32.not_le, show Int32.ofInt 1 = 1 from rfl, show Int32.ofInt (-1) = -1 from rfl]) (lt_snoc hp (by first | exact wOn_1 (fun e => absurd ((pCr_rot _ _ _ _ _ _).symm.trans e) (by assumption)) | exact wOn_2 (by assumption)))
                  · skip
                    refine y_iinc1 (q := 200) C 116 rfl rfl rfl (Nat.le_of_ble_eq_true rfl) rfl ?_
                    refine y_iinc2 (q := 203) C 117 rfl rfl (nI_1 k) (Nat.le_of_ble_eq_true rfl) rfl ?_
                    refine x_goto (t := 4) C 118 rfl (by decide) ?_
                    exact ih (k + 1) _ _ _ (by omega) (by subst hs; show _ = vSm _ k + wT _ _ _ _ _ _; clear hK C Z ih; simp_all [wT, mCr_pCr, ← Int32.not_le, show Int32.ofInt 1 = 1 from rfl, show Int32.ofInt (-1) = -1 from rfl]) (lt_snoc hp (by first | exact wOn_1 (fun e => absurd ((pCr_rot _ _ _ _ _ _).symm.trans e) (by assumption)) | exact wOn_2 (by assumption)))
            · skip
              refine y_iload4 (q := 160) C 97 rfl rfl ?_
              refine x_if_le (q := 163) (t := 166) C 98 rfl (by decide) rfl (fun c12 => ?_) (fun c12 => ?_)
              · skip
                refine y_aload0 (q := 167) C 100 rfl rfl ?_
                refine x_getR (q := 170) C 101 rfl rfl fl_RX5_26 (bv_6_6 hB) (fun _ _ => rfl) (by first | assumption | rfl | decide | omega | exact bL hB _ (by decide)) (by first | assumption | rfl | decide | omega | exact bL hB _ (by decide)) ?_
                refine y_iload2 (q := 171) C 102 rfl rfl ?_
                refine x_iald (q := 172) C 103 rfl rfl (by first | assumption | rfl | decide | omega | exact bL hB _ (by decide)) (by first | assumption | rfl | decide | omega | exact bL hB _ (by decide)) (by (first | rw [bn24 hB] | rw [bn40 hB] | rw [bn56 hB] | rw [bn72 hB] | rw [bn27 hB] | rw [bn43 hB] | rw [bn25 hB] | rw [bn41 hB] | rw [bn88 hB] | rw [bn104 hB] | rw [bn120 hB] | rw [bn136 hB] | rw [bn152 hB] | rw [bn168 hB]); first | assumption | exact vp_in_nI (by omega) (by decide)) ?_
                rw [nI_clamp (by omega)]
                refine y_aload0 (q := 173) C 104 rfl rfl ?_
                refine x_getI (q := 176) C 105 rfl rfl fl_RX5_188 (fun _ _ => rfl) (by first | assumption | rfl | decide | omega | exact bL hB _ (by decide)) (by first | assumption | rfl | decide | omega | exact bL hB _ (by decide)) ?_
                refine x_icmp_ge (q := 179) (t := 200) C 106 rfl (by decide) rfl (fun c13 => ?_) (fun c13 => ?_)
                · skip
                  refine y_iinc2 (q := 203) C 117 rfl rfl (nI_1 k) (Nat.le_of_ble_eq_true rfl) rfl ?_
                  refine x_goto (t := 4) C 118 rfl (by decide) ?_
                  exact ih (k + 1) _ _ _ (by omega) (by subst hs; show _ = vSm _ k + wT _ _ _ _ _ _; clear hK C Z ih; simp_all [wT, mCr_pCr, ← Int32.not_le, show Int32.ofInt 1 = 1 from rfl, show Int32.ofInt (-1) = -1 from rfl]) (lt_snoc hp (by first | exact wOn_1 (fun e => absurd ((pCr_rot _ _ _ _ _ _).symm.trans e) (by assumption)) | exact wOn_2 (by assumption)))
                · skip
                  refine y_aload0 (q := 180) C 107 rfl rfl ?_
                  refine x_getR (q := 183) C 108 rfl rfl fl_RX5_26 (bv_6_6 hB) (fun _ _ => rfl) (by first | assumption | rfl | decide | omega | exact bL hB _ (by decide)) (by first | assumption | rfl | decide | omega | exact bL hB _ (by decide)) ?_
                  refine y_iload3 (q := 184) C 109 rfl rfl ?_
                  refine x_iald (q := 185) C 110 rfl rfl (by first | assumption | rfl | decide | omega | exact bL hB _ (by decide)) (by first | assumption | rfl | decide | omega | exact bL hB _ (by decide)) (by (first | rw [bn24 hB] | rw [bn40 hB] | rw [bn56 hB] | rw [bn72 hB] | rw [bn27 hB] | rw [bn43 hB] | rw [bn25 hB] | rw [bn41 hB] | rw [bn88 hB] | rw [bn104 hB] | rw [bn120 hB] | rw [bn136 hB] | rw [bn152 hB] | rw [bn168 hB]); first | assumption | exact vp_in_nI (by omega) (by decide)) ?_
                  rw [nI_clamp (by omega)]
                  refine y_aload0 (q := 186) C 111 rfl rfl ?_
                  refine x_getI (q := 189) C 112 rfl rfl fl_RX5_188 (fun _ _ => rfl) (by first | assumption | rfl | decide | omega | exact bL hB _ (by decide)) (by first | assumption | rfl | decide | omega | exact bL hB _ (by decide)) ?_
                  refine x_icmp_lt (q := 192) (t := 200) C 113 rfl (by decide) rfl (fun c14 => ?_) (fun c14 => ?_)
                  · skip
                    refine y_iinc2 (q := 203) C 117 rfl rfl (nI_1 k) (Nat.le_of_ble_eq_true rfl) rfl ?_
                    refine x_goto (t := 4) C 118 rfl (by decide) ?_
                    exact ih (k + 1) _ _ _ (by omega) (by subst hs; show _ = vSm _ k + wT _ _ _ _ _ _; clear hK C Z ih; simp_all [wT, mCr_pCr, ← Int32.not_le, show Int32.ofInt 1 = 1 from rfl, show Int32.ofInt (-1) = -1 from rfl]) (lt_snoc hp (by first | exact wOn_1 (fun e => absurd ((pCr_rot _ _ _ _ _ _).symm.trans e) (by assumption)) | exact wOn_2 (by assumption)))
                  · skip
                    refine y_iload4 (q := 194) C 114 rfl rfl ?_
                    refine x_if_ge (q := 197) (t := 200) C 115 rfl (by decide) rfl (fun c15 => ?_) (fun c15 => ?_)
                    · skip
                      refine y_iinc2 (q := 203) C 117 rfl rfl (nI_1 k) (Nat.le_of_ble_eq_true rfl) rfl ?_
                      refine x_goto (t := 4) C 118 rfl (by decide) ?_
                      exact ih (k + 1) _ _ _ (by omega) (by subst hs; show _ = vSm _ k + wT _ _ _ _ _ _; clear hK C Z ih; simp_all [wT, mCr_pCr, ← Int32.not_le, show Int32.ofInt 1 = 1 from rfl, show Int32.ofInt (-1) = -1 from rfl]) (lt_snoc hp (by first | exact wOn_1 (fun e => absurd ((pCr_rot _ _ _ _ _ _).symm.trans e) (by assumption)) | exact wOn_2 (by assumption)))
                    · skip
                      refine y_iinc1 (q := 200) C 116 rfl rfl rfl (Nat.le_of_ble_eq_true rfl) rfl ?_
                      refine y_iinc2 (q := 203) C 117 rfl rfl (nI_1 k) (Nat.le_of_ble_eq_true rfl) rfl ?_
                      refine x_goto (t := 4) C 118 rfl (by decide) ?_
                      exact ih (k + 1) _ _ _ (by omega) (by subst hs; show _ = vSm _ k + wT _ _ _ _ _ _; clear hK C Z ih; simp_all [wT, mCr_pCr, ← Int32.not_le, show Int32.ofInt 1 = 1 from rfl, show Int32.ofInt (-1) = -1 from rfl]) (lt_snoc hp (by first | exact wOn_1 (fun e => absurd ((pCr_rot _ _ _ _ _ _).symm.trans e) (by assumption)) | exact wOn_2 (by assumption)))
              · skip
                refine y_iinc1 (q := 166) C 99 rfl rfl rfl (Nat.le_of_ble_eq_true rfl) rfl ?_
                refine y_aload0 (q := 167) C 100 rfl rfl ?_
                refine x_getR (q := 170) C 101 rfl rfl fl_RX5_26 (bv_6_6 hB) (fun _ _ => rfl) (by first | assumption | rfl | decide | omega | exact bL hB _ (by decide)) (by first | assumption | rfl | decide | omega | exact bL hB _ (by decide)) ?_
                refine y_iload2 (q := 171) C 102 rfl rfl ?_
                refine x_iald (q := 172) C 103 rfl rfl (by first | assumption | rfl | decide | omega | exact bL hB _ (by decide)) (by first | assumption | rfl | decide | omega | exact bL hB _ (by decide)) (by (first | rw [bn24 hB] | rw [bn40 hB] | rw [bn56 hB] | rw [bn72 hB] | rw [bn27 hB] | rw [bn43 hB] | rw [bn25 hB] | rw [bn41 hB] | rw [bn88 hB] | rw [bn104 hB] | rw [bn120 hB] | rw [bn136 hB] | rw [bn152 hB] | rw [bn168 hB]); first | assumption | exact vp_in_nI (by omega) (by decide)) ?_
                rw [nI_clamp (by omega)]
                refine y_aload0 (q := 173) C 104 rfl rfl ?_
                refine x_getI (q := 176) C 105 rfl rfl fl_RX5_188 (fun _ _ => rfl) (by first | assumption | rfl | decide | omega | exact bL hB _ (by decide)) (by first | assumption | rfl | decide | omega | exact bL hB _ (by decide)) ?_
                refine x_icmp_ge (q := 179) (t := 200) C 106 rfl (by decide) rfl (fun c16 => ?_) (fun c16 => ?_)
                · skip
                  refine y_iinc2 (q := 203) C 117 rfl rfl (nI_1 k) (Nat.le_of_ble_eq_true rfl) rfl ?_
                  refine x_goto (t := 4) C 118 rfl (by decide) ?_
                  exact ih (k + 1) _ _ _ (by omega) (by subst hs; show _ = vSm _ k + wT _ _ _ _ _ _; clear hK C Z ih; simp_all [wT, mCr_pCr, ← Int32.not_le, show Int32.ofInt 1 = 1 from rfl, show Int32.ofInt (-1) = -1 from rfl]) (lt_snoc hp (by first | exact wOn_1 (fun e => absurd ((pCr_rot _ _ _ _ _ _).symm.trans e) (by assumption)) | exact wOn_2 (by assumption)))
                · skip
                  refine y_aload0 (q := 180) C 107 rfl rfl ?_
                  refine x_getR (q := 183) C 108 rfl rfl fl_RX5_26 (bv_6_6 hB) (fun _ _ => rfl) (by first | assumption | rfl | decide | omega | exact bL hB _ (by decide)) (by first | assumption | rfl | decide | omega | exact bL hB _ (by decide)) ?_
                  refine y_iload3 (q := 184) C 109 rfl rfl ?_
                  refine x_iald (q := 185) C 110 rfl rfl (by first | assumption | rfl | decide | omega | exact bL hB _ (by decide)) (by first | assumption | rfl | decide | omega | exact bL hB _ (by decide)) (by (first | rw [bn24 hB] | rw [bn40 hB] | rw [bn56 hB] | rw [bn72 hB] | rw [bn27 hB] | rw [bn43 hB] | rw [bn25 hB] | rw [bn41 hB] | rw [bn88 hB] | rw [bn104 hB] | rw [bn120 hB] | rw [bn136 hB] | rw [bn152 hB] | rw [bn168 hB]); first | assumption | exact vp_in_nI (by omega) (by decide)) ?_
                  rw [nI_clamp (by omega)]
                  refine y_aload0 (q := 186) C 111 rfl rfl ?_
                  refine x_getI (q := 189) C 112 rfl rfl fl_RX5_188 (fun _ _ => rfl) (by first | assumption | rfl | decide | omega | exact bL hB _ (by decide)) (by first | assumption | rfl | decide | omega | exact bL hB _ (by decide)) ?_
                  refine x_icmp_lt (q := 192) (t := 200) C 113 rfl (by decide) rfl (fun c17 => ?_) (fun c17 => ?_)
                  · skip
                    refine y_iinc2 (q := 203) C 117 rfl rfl (nI_1 k) (Nat.le_of_ble_eq_true rfl) rfl ?_
                    refine x_goto (t := 4) C 118 rfl (by decide) ?_
                    exact ih (k + 1) _ _ _ (by omega) (by subst hs; show _ = vSm _ k + wT _ _ _ _ _ _; clear hK C Z ih; simp_all [wT, mCr_pCr, ← Int32.not_le, show Int32.ofInt 1 = 1 from rfl, show Int32.ofInt (-1) = -1 from rfl]) (lt_snoc hp (by first | exact wOn_1 (fun e => absurd ((pCr_rot _ _ _ _ _ _).symm.trans e) (by assumption)) | exact wOn_2 (by assumption)))
                  · skip
                    refine y_iload4 (q := 194) C 114 rfl rfl ?_
                    refine x_if_ge (q := 197) (t := 200) C 115 rfl (by decide) rfl (fun c18 => ?_) (fun c18 => ?_)
                    · skip
                      refine y_iinc2 (q := 203) C 117 rfl rfl (nI_1 k) (Nat.le_of_ble_eq_true rfl) rfl ?_
                      refine x_goto (t := 4) C 118 rfl (by decide) ?_
                      exact ih (k + 1) _ _ _ (by omega) (by subst hs; show _ = vSm _ k + wT _ _ _ _ _ _; clear hK C Z ih; simp_all [wT, mCr_pCr, ← Int32.not_le, show Int32.ofInt 1 = 1 from rfl, show Int32.ofInt (-1) = -1 from rfl]) (lt_snoc hp (by first | exact wOn_1 (fun e => absurd ((pCr_rot _ _ _ _ _ _).symm.trans e) (by assumption)) | exact wOn_2 (by assumption)))
                    · skip
                      refine y_iinc1 (q := 200) C 116 rfl rfl rfl (Nat.le_of_ble_eq_true rfl) rfl ?_
                      refine y_iinc2 (q := 203) C 117 rfl rfl (nI_1 k) (Nat.le_of_ble_eq_true rfl) rfl ?_
                      refine x_goto (t := 4) C 118 rfl (by decide) ?_
                      exact ih (k + 1) _ _ _ (by omega) (by subst hs; show _ = vSm _ k + wT _ _ _ _ _ _; clear hK C Z ih; simp_all [wT, mCr_pCr, ← Int32.not_le, show Int32.ofInt 1 = 1 from rfl, show Int32.ofInt (-1) = -1 from rfl]) (lt_snoc hp (by first | exact wOn_1 (fun e => absurd ((pCr_rot _ _ _ _ _ _).symm.trans e) (by assumption)) | exact wOn_2 (by assumption)))
        · skip
          refine y_aload0 (q := 80) C 51 rfl rfl ?_
          refine x_getR (q := 83) C 52 rfl rfl fl_RX5_23 (bv_6_5 hB) (fun _ _ => rfl) (by first | assumption | rfl | decide | omega | exact bL hB _ (by decide)) (by first | assumption | rfl | decide | omega | exact bL hB _ (by decide)) ?_
          refine y_iload2 (q := 84) C 53 rfl rfl ?_
          refine x_iald (q := 85) C 54 rfl rfl (by first | assumption | rfl | decide | omega | exact bL hB _ (by decide)) (by first | assumption | rfl | decide | omega | exact bL hB _ (by decide)) (by (first | rw [bn24 hB] | rw [bn40 hB] | rw [bn56 hB] | rw [bn72 hB] | rw [bn27 hB] | rw [bn43 hB] | rw [bn25 hB] | rw [bn41 hB] | rw [bn88 hB] | rw [bn104 hB] | rw [bn120 hB] | rw [bn136 hB] | rw [bn152 hB] | rw [bn168 hB]); first | assumption | exact vp_in_nI (by omega) (by decide)) ?_
          rw [nI_clamp (by omega)]
          refine y_aload0 (q := 86) C 55 rfl rfl ?_
          refine x_getI (q := 89) C 56 rfl rfl fl_RX5_185 (fun _ _ => rfl) (by first | assumption | rfl | decide | omega | exact bL hB _ (by decide)) (by first | assumption | rfl | decide | omega | exact bL hB _ (by decide)) ?_
          refine x_isub (q := 90) C 57 rfl rfl ?_
          refine y_aload0 (q := 91) C 58 rfl rfl ?_
          refine x_getR (q := 94) C 59 rfl rfl fl_RX5_26 (bv_6_6 hB) (fun _ _ => rfl) (by first | assumption | rfl | decide | omega | exact bL hB _ (by decide)) (by first | assumption | rfl | decide | omega | exact bL hB _ (by decide)) ?_
          refine y_iload2 (q := 95) C 60 rfl rfl ?_
          refine x_iald (q := 96) C 61 rfl rfl (by first | assumption | rfl | decide | omega | exact bL hB _ (by decide)) (by first | assumption | rfl | decide | omega | exact bL hB _ (by decide)) (by (first | rw [bn24 hB] | rw [bn40 hB] | rw [bn56 hB] | rw [bn72 hB] | rw [bn27 hB] | rw [bn43 hB] | rw [bn25 hB] | rw [bn41 hB] | rw [bn88 hB] | rw [bn104 hB] | rw [bn120 hB] | rw [bn136 hB] | rw [bn152 hB] | rw [bn168 hB]); first | assumption | exact vp_in_nI (by omega) (by decide)) ?_
          rw [nI_clamp (by omega)]
          refine y_aload0 (q := 97) C 62 rfl rfl ?_
          refine x_getI (q := 100) C 63 rfl rfl fl_RX5_188 (fun _ _ => rfl) (by first | assumption | rfl | decide | omega | exact bL hB _ (by decide)) (by first | assumption | rfl | decide | omega | exact bL hB _ (by decide)) ?_
          refine x_isub (q := 101) C 64 rfl rfl ?_
          refine y_aload0 (q := 102) C 65 rfl rfl ?_
          refine x_getR (q := 105) C 66 rfl rfl fl_RX5_23 (bv_6_5 hB) (fun _ _ => rfl) (by first | assumption | rfl | decide | omega | exact bL hB _ (by decide)) (by first | assumption | rfl | decide | omega | exact bL hB _ (by decide)) ?_
          refine y_iload3 (q := 106) C 67 rfl rfl ?_
          refine x_iald (q := 107) C 68 rfl rfl (by first | assumption | rfl | decide | omega | exact bL hB _ (by decide)) (by first | assumption | rfl | decide | omega | exact bL hB _ (by decide)) (by (first | rw [bn24 hB] | rw [bn40 hB] | rw [bn56 hB] | rw [bn72 hB] | rw [bn27 hB] | rw [bn43 hB] | rw [bn25 hB] | rw [bn41 hB] | rw [bn88 hB] | rw [bn104 hB] | rw [bn120 hB] | rw [bn136 hB] | rw [bn152 hB] | rw [bn168 hB]); first | assumption | exact vp_in_nI (by omega) (by decide)) ?_
          rw [nI_clamp (by omega)]
          refine y_aload0 (q := 108) C 69 rfl rfl ?_
          refine x_getI (q := 111) C 70 rfl rfl fl_RX5_185 (fun _ _ => rfl) (by first | assumption | rfl | decide | omega | exact bL hB _ (by decide)) (by first | assumption | rfl | decide | omega | exact bL hB _ (by decide)) ?_
          refine x_isub (q := 112) C 71 rfl rfl ?_
          refine y_aload0 (q := 113) C 72 rfl rfl ?_
          refine x_getR (q := 116) C 73 rfl rfl fl_RX5_26 (bv_6_6 hB) (fun _ _ => rfl) (by first | assumption | rfl | decide | omega | exact bL hB _ (by decide)) (by first | assumption | rfl | decide | omega | exact bL hB _ (by decide)) ?_
          refine y_iload3 (q := 117) C 74 rfl rfl ?_
          refine x_iald (q := 118) C 75 rfl rfl (by first | assumption | rfl | decide | omega | exact bL hB _ (by decide)) (by first | assumption | rfl | decide | omega | exact bL hB _ (by decide)) (by (first | rw [bn24 hB] | rw [bn40 hB] | rw [bn56 hB] | rw [bn72 hB] | rw [bn27 hB] | rw [bn43 hB] | rw [bn25 hB] | rw [bn41 hB] | rw [bn88 hB] | rw [bn104 hB] | rw [bn120 hB] | rw [bn136 hB] | rw [bn152 hB] | rw [bn168 hB]); first | assumption | exact vp_in_nI (by omega) (by decide)) ?_
          rw [nI_clamp (by omega)]
          refine y_aload0 (q := 119) C 76 rfl rfl ?_
          refine x_getI (q := 122) C 77 rfl rfl fl_RX5_188 (fun _ _ => rfl) (by first | assumption | rfl | decide | omega | exact bL hB _ (by decide)) (by first | assumption | rfl | decide | omega | exact bL hB _ (by decide)) ?_
          refine x_isub (q := 123) C 78 rfl rfl ?_
          refine y_cS4 (q := 126) C 79 rfl rfl ml_RX5_55 cd_X5_dot sv_X5_dot (by decide) (by decide) (Nat.le_of_ble_eq_true rfl) (s_X5_dot ?_)
          show aj_X G 126 _ _ _ _ _ _ _ _ _
          refine x_if_gt (q := 129) (t := 132) C 80 rfl (by decide) rfl (fun c19 => ?_) (fun c19 => ?_)
          · skip
            refine y_aload0 (q := 133) C 83 rfl rfl ?_
            refine x_getR (q := 136) C 84 rfl rfl fl_RX5_26 (bv_6_6 hB) (fun _ _ => rfl) (by first | assumption | rfl | decide | omega | exact bL hB _ (by decide)) (by first | assumption | rfl | decide | omega | exact bL hB _ (by decide)) ?_
            refine y_iload2 (q := 137) C 85 rfl rfl ?_
            refine x_iald (q := 138) C 86 rfl rfl (by first | assumption | rfl | decide | omega | exact bL hB _ (by decide)) (by first | assumption | rfl | decide | omega | exact bL hB _ (by decide)) (by (first | rw [bn24 hB] | rw [bn40 hB] | rw [bn56 hB] | rw [bn72 hB] | rw [bn27 hB] | rw [bn43 hB] | rw [bn25 hB] | rw [bn41 hB] | rw [bn88 hB] | rw [bn104 hB] | rw [bn120 hB] | rw [bn136 hB] | rw [bn152 hB] | rw [bn168 hB]); first | assumption | exact vp_in_nI (by omega) (by decide)) ?_
            rw [nI_clamp (by omega)]
            refine y_aload0 (q := 139) C 87 rfl rfl ?_
            refine x_getI (q := 142) C 88 rfl rfl fl_RX5_188 (fun _ _ => rfl) (by first | assumption | rfl | decide | omega | exact bL hB _ (by decide)) (by first | assumption | rfl | decide | omega | exact bL hB _ (by decide)) ?_
            refine x_icmp_lt (q := 145) (t := 166) C 89 rfl (by decide) rfl (fun c20 => ?_) (fun c20 => ?_)
            · skip
              refine y_aload0 (q := 167) C 100 rfl rfl ?_
              refine x_getR (q := 170) C 101 rfl rfl fl_RX5_26 (bv_6_6 hB) (fun _ _ => rfl) (by first | assumption | rfl | decide | omega | exact bL hB _ (by decide)) (by first | assumption | rfl | decide | omega | exact bL hB _ (by decide)) ?_
              refine y_iload2 (q := 171) C 102 rfl rfl ?_
              refine x_iald (q := 172) C 103 rfl rfl (by first | assumption | rfl | decide | omega | exact bL hB _ (by decide)) (by first | assumption | rfl | decide | omega | exact bL hB _ (by decide)) (by (first | rw [bn24 hB] | rw [bn40 hB] | rw [bn56 hB] | rw [bn72 hB] | rw [bn27 hB] | rw [bn43 hB] | rw [bn25 hB] | rw [bn41 hB] | rw [bn88 hB] | rw [bn104 hB] | rw [bn120 hB] | rw [bn136 hB] | rw [bn152 hB] | rw [bn168 hB]); first | assumption | exact vp_in_nI (by omega) (by decide)) ?_
              rw [nI_clamp (by omega)]
              refine y_aload0 (q := 173) C 104 rfl rfl ?_
              refine x_getI (q := 176) C 105 rfl rfl fl_RX5_188 (fun _ _ => rfl) (by first | assumption | rfl | decide | omega | exact bL hB _ (by decide)) (by first | assumption | rfl | decide | omega | exact bL hB _ (by decide)) ?_
              refine x_icmp_ge (q := 179) (t := 200) C 106 rfl (by decide) rfl (fun c21 => ?_) (fun c21 => ?_)
              · skip
                refine y_iinc2 (q := 203) C 117 rfl rfl (nI_1 k) (Nat.le_of_ble_eq_true rfl) rfl ?_
                refine x_goto (t := 4) C 118 rfl (by decide) ?_
                exact ih (k + 1) _ _ _ (by omega) (by subst hs; show _ = vSm _ k + wT _ _ _ _ _ _; clear hK C Z ih; simp_all [wT, mCr_pCr, ← Int32.not_le, show Int32.ofInt 1 = 1 from rfl, show Int32.ofInt (-1) = -1 from rfl]) (lt_snoc hp (by first | exact wOn_1 (fun e => absurd ((pCr_rot _ _ _ _ _ _).symm.trans e) (by assumption)) | exact wOn_2 (by assumption)))
              · skip
                refine y_aload0 (q := 180) C 107 rfl rfl ?_
                refine x_getR (q := 183) C 108 rfl rfl fl_RX5_26 (bv_6_6 hB) (fun _ _ => rfl) (by first | assumption | rfl | decide | omega | exact bL hB _ (by decide)) (by first | assumption | rfl | decide | omega | exact bL hB _ (by decide)) ?_
                refine y_iload3 (q := 184) C 109 rfl rfl ?_
                refine x_iald (q := 185) C 110 rfl rfl (by first | assumption | rfl | decide | omega | exact bL hB _ (by decide)) (by first | assumption | rfl | decide | omega | exact bL hB _ (by decide)) (by (first | rw [bn24 hB] | rw [bn40 hB] | rw [bn56 hB] | rw [bn72 hB] | rw [bn27 hB] | rw [bn43 hB] | rw [bn25 hB] | rw [bn41 hB] | rw [bn88 hB] | rw [bn104 hB] | rw [bn120 hB] | rw [bn136 hB] | rw [bn152 hB] | rw [bn168 hB]); first | assumption | exact vp_in_nI (by omega) (by decide)) ?_
                rw [nI_clamp (by omega)]
                refine y_aload0 (q := 186) C 111 rfl rfl ?_
                refine x_getI (q := 189) C 112 rfl rfl fl_RX5_188 (fun _ _ => rfl) (by first | assumption | rfl | decide | omega | exact bL hB _ (by decide)) (by first | assumption | rfl | decide | omega | exact bL hB _ (by decide)) ?_
                refine x_icmp_lt (q := 192) (t := 200) C 113 rfl (by decide) rfl (fun c22 => ?_) (fun c22 => ?_)
                · skip
                  refine y_iinc2 (q := 203) C 117 rfl rfl (nI_1 k) (Nat.le_of_ble_eq_true rfl) rfl ?_
                  refine x_goto (t := 4) C 118 rfl (by decide) ?_
                  exact ih (k + 1) _ _ _ (by omega) (by subst hs; show _ = vSm _ k + wT _ _ _ _ _ _; clear hK C Z ih; simp_all [wT, mCr_pCr, ← Int32.not_le, show Int32.ofInt 1 = 1 from rfl, show Int32.ofInt (-1) = -1 from rfl]) (lt_snoc hp (by first | exact wOn_1 (fun e => absurd ((pCr_rot _ _ _ _ _ _).symm.trans e) (by assumption)) | exact wOn_2 (by assumption)))
                · skip
                  refine y_iload4 (q := 194) C 114 rfl rfl ?_
                  refine x_if_ge (q := 197) (t := 200) C 115 rfl (by decide) rfl (fun c23 => ?_) (fun c23 => ?_)
                  · skip
                    refine y_iinc2 (q := 203) C 117 rfl rfl (nI_1 k) (Nat.le_of_ble_eq_true rfl) rfl ?_
                    refine x_goto (t := 4) C 118 rfl (by decide) ?_
                    exact ih (k + 1) _ _ _ (by omega) (by subst hs; show _ = vSm _ k + wT _ _ _ _ _ _; clear hK C Z ih; simp_all [wT, mCr_pCr, ← Int32.not_le, show Int32.ofInt 1 = 1 from rfl, show Int32.ofInt (-1) = -1 from rfl]) (lt_snoc hp (by first | exact wOn_1 (fun e => absurd ((pCr_rot _ _ _ _ _ _).symm.trans e) (by assumption)) | exact wOn_2 (by assumption)))
                  · skip
                    refine y_iinc1 (q := 200) C 116 rfl rfl rfl (Nat.le_of_ble_eq_true rfl) rfl ?_
                    refine y_iinc2 (q := 203) C 117 rfl rfl (nI_1 k) (Nat.le_of_ble_eq_true rfl) rfl ?_
                    refine x_goto (t := 4) C 118 rfl (by decide) ?_
                    exact ih (k + 1) _ _ _ (by omega) (by subst hs; show _ = vSm _ k + wT _ _ _ _ _ _; clear hK C Z ih; simp_all [wT, mCr_pCr, ← Int32.not_le, show Int32.ofInt 1 = 1 from rfl, show Int32.ofInt (-1) = -1 from rfl]) (lt_snoc hp (by first | exact wOn_1 (fun e => absurd ((pCr_rot _ _ _ _ _ _).symm.trans e) (by assumption)) | exact wOn_2 (by assumption)))
            · skip
              refine y_aload0 (q := 146) C 90 rfl rfl ?_
              refine x_getR (q := 149) C 91 rfl rfl fl_RX5_26 (bv_6_6 hB) (fun _ _ => rfl) (by first | assumption | rfl | decide | omega | exact bL hB _ (by decide)) (by first | assumption | rfl | decide | omega | exact bL hB _ (by decide)) ?_
              refine y_iload3 (q := 150) C 92 rfl rfl ?_
              refine x_iald (q := 151) C 93 rfl rfl (by first | assumption | rfl | decide | omega | exact bL hB _ (by decide)) (by first | assumption | rfl | decide | omega | exact bL hB _ (by decide)) (by (first | rw [bn24 hB] | rw [bn40 hB] | rw [bn56 hB] | rw [bn72 hB] | rw [bn27 hB] | rw [bn43 hB] | rw [bn25 hB] | rw [bn41 hB] | rw [bn88 hB] | rw [bn104 hB] | rw [bn120 hB] | rw [bn136 hB] | rw [bn152 hB] | rw [bn168 hB]); first | assumption | exact vp_in_nI (by omega) (by decide)) ?_
              rw [nI_clamp (by omega)]
              refine y_aload0 (q := 152) C 94 rfl rfl ?_
              refine x_getI (q := 155) C 95 rfl rfl fl_RX5_188 (fun _ _ => rfl) (by first | assumption | rfl | decide | omega | exact bL hB _ (by decide)) (by first | assumption | rfl | decide | omega | exact bL hB _ (by decide)) ?_
              refine x_icmp_ge (q := 158) (t := 166) C 96 rfl (by decide) rfl (fun c24 => ?_) (fun c24 => ?_)
              · skip
                refine y_aload0 (q := 167) C 100 rfl rfl ?_
                refine x_getR (q := 170) C 101 rfl rfl fl_RX5_26 (bv_6_6 hB) (fun _ _ => rfl) (by first | assumption | rfl | decide | omega | exact bL hB _ (by decide)) (by first | assumption | rfl | decide | omega | exact bL hB _ (by decide)) ?_
                refine y_iload2 (q := 171) C 102 rfl rfl ?_
                refine x_iald (q := 172) C 103 rfl rfl (by first | assumption | rfl | decide | omega | exact bL hB _ (by decide)) (by first | assumption | rfl | decide | omega | exact bL hB _ (by decide)) (by (first | rw [bn24 hB] | rw [bn40 hB] | rw [bn56 hB] | rw [bn72 hB] | rw [bn27 hB] | rw [bn43 hB] | rw [bn25 hB] | rw [bn41 hB] | rw [bn88 hB] | rw [bn104 hB] | rw [bn120 hB] | rw [bn136 hB] | rw [bn152 hB] | rw [bn168 hB]); first | assumption | exact vp_in_nI (by omega) (by decide)) ?_
                rw [nI_clamp (by omega)]
                refine y_aload0 (q := 173) C 104 rfl rfl ?_
                refine x_getI (q := 176) C 105 rfl rfl fl_RX5_188 (fun _ _ => rfl) (by first | assumption | rfl | decide | omega | exact bL hB _ (by decide)) (by first | assumption | rfl | decide | omega | exact bL hB _ (by decide)) ?_
                refine x_icmp_ge (q := 179) (t := 200) C 106 rfl (by decide) rfl (fun c25 => ?_) (fun c25 => ?_)
                · skip
                  refine y_iinc2 (q := 203) C 117 rfl rfl (nI_1 k) (Nat.le_of_ble_eq_true rfl) rfl ?_
                  refine x_goto (t := 4) C 118 rfl (by decide) ?_
                  exact ih (k + 1) _ _ _ (by omega) (by subst hs; show _ = vSm _ k + wT _ _ _ _ _ _; clear hK C Z ih; simp_all [wT, mCr_pCr, ← Int32.not_le, show Int32.ofInt 1 = 1 from rfl, show Int32.ofInt (-1) = -1 from rfl]) (lt_snoc hp (by first | exact wOn_1 (fun e => absurd ((pCr_rot _ _ _ _ _ _).symm.trans e) (by assumption)) | exact wOn_2 (by assumption)))
                · skip
                  refine y_aload0 (q := 180) C 107 rfl rfl ?_
                  refine x_getR (q := 183) C 108 rfl rfl fl_RX5_26 (bv_6_6 hB) (fun _ _ => rfl) (by first | assumption | rfl | decide | omega | exact bL hB _ (by decide)) (by first | assumption | rfl | decide | omega | exact bL hB _ (by decide)) ?_
                  refine y_iload3 (q := 184) C 109 rfl rfl ?_
                  refine x_iald (q := 185) C 110 rfl rfl (by first | assumption | rfl | decide | omega | exact bL hB _ (by decide)) (by first | assumption | rfl | decide | omega | exact bL hB _ (by decide)) (by (first | rw [bn24 hB] | rw [bn40 hB] | rw [bn56 hB] | rw [bn72 hB] | rw [bn27 hB] | rw [bn43 hB] | rw [bn25 hB] | rw [bn41 hB] | rw [bn88 hB] | rw [bn104 hB] | rw [bn120 hB] | rw [bn136 hB] | rw [bn152 hB] | rw [bn168 hB]); first | assumption | exact vp_in_nI (by omega) (by decide)) ?_
                  rw [nI_clamp (by omega)]
                  refine y_aload0 (q := 186) C 111 rfl rfl ?_
                  refine x_getI (q := 189) C 112 rfl rfl fl_RX5_188 (fun _ _ => rfl) (by first | assumption | rfl | decide | omega | exact bL hB _ (by decide)) (by first | assumption | rfl | decide | omega | exact bL hB _ (by decide)) ?_
                  refine x_icmp_lt (q := 192) (t := 200) C 113 rfl (by decide) rfl (fun c26 => ?_) (fun c26 => ?_)
                  · skip
                    refine y_iinc2 (q := 203) C 117 rfl rfl (nI_1 k) (Nat.le_of_ble_eq_true rfl) rfl ?_
                    refine x_goto (t := 4) C 118 rfl (by decide) ?_
                    exact ih (k + 1) _ _ _ (by omega) (by subst hs; show _ = vSm _ k + wT _ _ _ _ _ _; clear hK C Z ih; simp_all [wT, mCr_pCr, ← Int32.not_le, show Int32.ofInt 1 = 1 from rfl, show Int32.ofInt (-1) = -1 from rfl]) (lt_snoc hp (by first | exact wOn_1 (fun e => absurd ((pCr_rot _ _ _ _ _ _).symm.trans e) (by assumption)) | exact wOn_2 (by assumption)))
                  · skip
                    refine y_iload4 (q := 194) C 114 rfl rfl ?_
                    refine x_if_ge (q := 197) (t := 200) C 115 rfl (by decide) rfl (fun c27 => ?_) (fun c27 => ?_)
                    · skip
                      refine y_iinc2 (q := 203) C 117 rfl rfl (nI_1 k) (Nat.le_of_ble_eq_true rfl) rfl ?_
                      refine x_goto (t := 4) C 118 rfl (by decide) ?_
                      exact ih (k + 1) _ _ _ (by omega) (by subst hs; show _ = vSm _ k + wT _ _ _ _ _ _; clear hK C Z ih; simp_all [wT, mCr_pCr, ← Int32.not_le, show Int32.ofInt 1 = 1 from rfl, show Int32.ofInt (-1) = -1 from rfl]) (lt_snoc hp (by first | exact wOn_1 (fun e => absurd ((pCr_rot _ _ _ _ _ _).symm.trans e) (by assumption)) | exact wOn_2 (by assumption)))
                    · skip
                      refine y_iinc1 (q := 200) C 116 rfl rfl rfl (Nat.le_of_ble_eq_true rfl) rfl ?_
                      refine y_iinc2 (q := 203) C 117 rfl rfl (nI_1 k) (Nat.le_of_ble_eq_true rfl) rfl ?_
                      refine x_goto (t := 4) C 118 rfl (by decide) ?_
                      exact ih (k + 1) _ _ _ (by omega) (by subst hs; show _ = vSm _ k + wT _ _ _ _ _ _; clear hK C Z ih; simp_all [wT, mCr_pCr, ← Int32.not_le, show Int32.ofInt 1 = 1 from rfl, show Int32.ofInt (-1) = -1 from rfl]) (lt_snoc hp (by first | exact wOn_1 (fun e => absurd ((pCr_rot _ _ _ _ _ _).symm.trans e) (by assumption)) | exact wOn_2 (by assumption)))
              · skip
                refine y_iload4 (q := 160) C 97 rfl rfl ?_
                refine x_if_le (q := 163) (t := 166) C 98 rfl (by decide) rfl (fun c28 => ?_) (fun c28 => ?_)
                · skip
                  refine y_aload0 (q := 167) C 100 rfl rfl ?_
                  refine x_getR (q := 170) C 101 rfl rfl fl_RX5_26 (bv_6_6 hB) (fun _ _ => rfl) (by first | assumption | rfl | decide | omega | exact bL hB _ (by decide)) (by first | assumption | rfl | decide | omega | exact bL hB _ (by decide)) ?_
                  refine y_iload2 (q := 171) C 102 rfl rfl ?_
                  refine x_iald (q := 172) C 103 rfl rfl (by first | assumption | rfl | decide | omega | exact bL hB _ (by decide)) (by first | assumption | rfl | decide | omega | exact bL hB _ (by decide)) (by (first | rw [bn24 hB] | rw [bn40 hB] | rw [bn56 hB] | rw [bn72 hB] | rw [bn27 hB] | rw [bn43 hB] | rw [bn25 hB] | rw [bn41 hB] | rw [bn88 hB] | rw [bn104 hB] | rw [bn120 hB] | rw [bn136 hB] | rw [bn152 hB] | rw [bn168 hB]); first | assumption | exact vp_in_nI (by omega) (by decide)) ?_
                  rw [nI_clamp (by omega)]
                  refine y_aload0 (q := 173) C 104 rfl rfl ?_
                  refine x_getI (q := 176) C 105 rfl rfl fl_RX5_188 (fun _ _ => rfl) (by first | assumption | rfl | decide | omega | exact bL hB _ (by decide)) (by first | assumption | rfl | decide | omega | exact bL hB _ (by decide)) ?_
                  refine x_icmp_ge (q := 179) (t := 200) C 106 rfl (by decide) rfl (fun c29 => ?_) (fun c29 => ?_)
                  · skip
                    refine y_iinc2 (q := 203) C 117 rfl rfl (nI_1 k) (Nat.le_of_ble_eq_true rfl) rfl ?_
                    refine x_goto (t := 4) C 118 rfl (by decide) ?_
                    exact ih (k + 1) _ _ _ (by omega) (by subst hs; show _ = vSm _ k + wT _ _ _ _ _ _; clear hK C Z ih; simp_all [wT, mCr_pCr, ← Int32.not_le, show Int32.ofInt 1 = 1 from rfl, show Int32.ofInt (-1) = -1 from rfl]) (lt_snoc hp (by first | exact wOn_1 (fun e => absurd ((pCr_rot _ _ _ _ _ _).symm.trans e) (by assumption)) | exact wOn_2 (by assumption)))
                  · skip
                    refine y_aload0 (q := 180) C 107 rfl rfl ?_
                    refine x_getR (q := 183) C 108 rfl rfl fl_RX5_26 (bv_6_6 hB) (fun _ _ => rfl) (by first | assumption | rfl | decide | omega | exact bL hB _ (by decide)) (by first | assumption | rfl | decide | omega | exact bL hB _ (by decide)) ?_
                    refine y_iload3 (q := 184) C 109 rfl rfl ?_
                    refine x_iald (q := 185) C 110 rfl rfl (by first | assumption | rfl | decide | omega | exact bL hB _ (by decide)) (by first | assumption | rfl | decide | omega | exact bL hB _ (by decide)) (by (first | rw [bn24 hB] | rw [bn40 hB] | rw [bn56 hB] | rw [bn72 hB] | rw [bn27 hB] | rw [bn43 hB] | rw [bn25 hB] | rw [bn41 hB] | rw [bn88 hB] | rw [bn104 hB] | rw [bn120 hB] | rw [bn136 hB] | rw [bn152 hB] | rw [bn168 hB]); first | assumption | exact vp_in_nI (by omega) (by decide)) ?_
                    rw [nI_clamp (by omega)]
                    refine y_aload0 (q := 186) C 111 rfl rfl ?_
                    refine x_getI (q := 189) C 112 rfl rfl fl_RX5_188 (fun _ _ => rfl) (by first | assumption | rfl | decide | omega | exact bL hB _ (by decide)) (by first | assumption | rfl | decide | omega | exact bL hB _ (by decide)) ?_
                    refine x_icmp_lt (q := 192) (t := 200) C 113 rfl (by decide) rfl (fun c30 => ?_) (fun c30 => ?_)
                    · skip
                      refine y_iinc2 (q := 203) C 117 rfl rfl (nI_1 k) (Nat.le_of_ble_eq_true rfl) rfl ?_
                      refine x_goto (t := 4) C 118 rfl (by decide) ?_
                      exact ih (k + 1) _ _ _ (by omega) (by subst hs; show _ = vSm _ k + wT _ _ _ _ _ _; clear hK C Z ih; simp_all [wT, mCr_pCr, ← Int32.not_le, show Int32.ofInt 1 = 1 from rfl, show Int32.ofInt (-1) = -1 from rfl]) (lt_snoc hp (by first | exact wOn_1 (fun e => absurd ((pCr_rot _ _ _ _ _ _).symm.trans e) (by assumption)) | exact wOn_2 (by assumption)))
                    · skip
                      refine y_iload4 (q := 194) C 114 rfl rfl ?_
                      refine x_if_ge (q := 197) (t := 200) C 115 rfl (by decide) rfl (fun c31 => ?_) (fun c31 => ?_)
                      · skip
                        refine y_iinc2 (q := 203) C 117 rfl rfl (nI_1 k) (Nat.le_of_ble_eq_true rfl) rfl ?_
                        refine x_goto (t := 4) C 118 rfl (by decide) ?_
                        exact ih (k + 1) _ _ _ (by omega) (by subst hs; show _ = vSm _ k + wT _ _ _ _ _ _; clear hK C Z ih; simp_all [wT, mCr_pCr, ← Int32.not_le, show Int32.ofInt 1 = 1 from rfl, show Int32.ofInt (-1) = -1 from rfl]) (lt_snoc hp (by first | exact wOn_1 (fun e => absurd ((pCr_rot _ _ _ _ _ _).symm.trans e) (by assumption)) | exact wOn_2 (by assumption)))
                      · skip
                        refine y_iinc1 (q := 200) C 116 rfl rfl rfl (Nat.le_of_ble_eq_true rfl) rfl ?_
                        refine y_iinc2 (q := 203) C 117 rfl rfl (nI_1 k) (Nat.le_of_ble_eq_true rfl) rfl ?_
                        refine x_goto (t := 4) C 118 rfl (by decide) ?_
                        exact ih (k + 1) _ _ _ (by omega) (by subst hs; show _ = vSm _ k + wT _ _ _ _ _ _; clear hK C Z ih; simp_all [wT, mCr_pCr, ← Int32.not_le, show Int32.ofInt 1 = 1 from rfl, show Int32.ofInt (-1) = -1 from rfl]) (lt_snoc hp (by first | exact wOn_1 (fun e => absurd ((pCr_rot _ _ _ _ _ _).symm.trans e) (by assumption)) | exact wOn_2 (by assumption)))
                · skip
                  refine y_iinc1 (q := 166) C 99 rfl rfl rfl (Nat.le_of_ble_eq_true rfl) rfl ?_
                  refine y_aload0 (q := 167) C 100 rfl rfl ?_
                  refine x_getR (q := 170) C 101 rfl rfl fl_RX5_26 (bv_6_6 hB) (fun _ _ => rfl) (by first | assumption | rfl | decide | omega | exact bL hB _ (by decide)) (by first | assumption | rfl | decide | omega | exact bL hB _ (by decide)) ?_
                  refine y_iload2 (q := 171) C 102 rfl rfl ?_
                  refine x_iald (q := 172) C 103 rfl rfl (by first | assumption | rfl | decide | omega | exact bL hB _ (by decide)) (by first | assumption | rfl | decide | omega | exact bL hB _ (by decide)) (by (first | rw [bn24 hB] | rw [bn40 hB] | rw [bn56 hB] | rw [bn72 hB] | rw [bn27 hB] | rw [bn43 hB] | rw [bn25 hB] | rw [bn41 hB] | rw [bn88 hB] | rw [bn104 hB] | rw [bn120 hB] | rw [bn136 hB] | rw [bn152 hB] | rw [bn168 hB]); first | assumption | exact vp_in_nI (by omega) (by decide)) ?_
                  rw [nI_clamp (by omega)]
                  refine y_aload0 (q := 173) C 104 rfl rfl ?_
                  refine x_getI (q := 176) C 105 rfl rfl fl_RX5_188 (fun _ _ => rfl) (by first | assumption | rfl | decide | omega | exact bL hB _ (by decide)) (by first | assumption | rfl | decide | omega | exact bL hB _ (by decide)) ?_
                  refine x_icmp_ge (q := 179) (t := 200) C 106 rfl (by decide) rfl (fun c32 => ?_) (fun c32 => ?_)
                  · skip
                    refine y_iinc2 (q := 203) C 117 rfl rfl (nI_1 k) (Nat.le_of_ble_eq_true rfl) rfl ?_
                    refine x_goto (t := 4) C 118 rfl (by decide) ?_
                    exact ih (k + 1) _ _ _ (by omega) (by subst hs; show _ = vSm _ k + wT _ _ _ _ _ _; clear hK C Z ih; simp_all [wT, mCr_pCr, ← Int32.not_le, show Int32.ofInt 1 = 1 from rfl, show Int32.ofInt (-1) = -1 from rfl]) (lt_snoc hp (by first | exact wOn_1 (fun e => absurd ((pCr_rot _ _ _ _ _ _).symm.trans e) (by assumption)) | exact wOn_2 (by assumption)))
                  · skip
                    refine y_aload0 (q := 180) C 107 rfl rfl ?_
                    refine x_getR (q := 183) C 108 rfl rfl fl_RX5_26 (bv_6_6 hB) (fun _ _ => rfl) (by first | assumption | rfl | decide | omega | exact bL hB _ (by decide)) (by first | assumption | rfl | decide | omega | exact bL hB _ (by decide)) ?_
                    refine y_iload3 (q := 184) C 109 rfl rfl ?_
                    refine x_iald (q := 185) C 110 rfl rfl (by first | assumption | rfl | decide | omega | exact bL hB _ (by decide)) (by first | assumption | rfl | decide | omega | exact bL hB _ (by decide)) (by (first | rw [bn24 hB] | rw [bn40 hB] | rw [bn56 hB] | rw [bn72 hB] | rw [bn27 hB] | rw [bn43 hB] | rw [bn25 hB] | rw [bn41 hB] | rw [bn88 hB] | rw [bn104 hB] | rw [bn120 hB] | rw [bn136 hB] | rw [bn152 hB] | rw [bn168 hB]); first | assumption | exact vp_in_nI (by omega) (by decide)) ?_
                    rw [nI_clamp (by omega)]
                    refine y_aload0 (q := 186) C 111 rfl rfl ?_
                    refine x_getI (q := 189) C 112 rfl rfl fl_RX5_188 (fun _ _ => rfl) (by first | assumption | rfl | decide | omega | exact bL hB _ (by decide)) (by first | assumption | rfl | decide | omega | exact bL hB _ (by decide)) ?_
                    refine x_icmp_lt (q := 192) (t := 200) C 113 rfl (by decide) rfl (fun c33 => ?_) (fun c33 => ?_)
                    · skip
                      refine y_iinc2 (q := 203) C 117 rfl rfl (nI_1 k) (Nat.le_of_ble_eq_true rfl) rfl ?_
                      refine x_goto (t := 4) C 118 rfl (by decide) ?_
                      exact ih (k + 1) _ _ _ (by omega) (by subst hs; show _ = vSm _ k + wT _ _ _ _ _ _; clear hK C Z ih; simp_all [wT, mCr_pCr, ← Int32.not_le, show Int32.ofInt 1 = 1 from rfl, show Int32.ofInt (-1) = -1 from rfl]) (lt_snoc hp (by first | exact wOn_1 (fun e => absurd ((pCr_rot _ _ _ _ _ _).symm.trans e) (by assumption)) | exact wOn_2 (by assumption)))
                    · skip
                      refine y_iload4 (q := 194) C 114 rfl rfl ?_
                      refine x_if_ge (q := 197) (t := 200) C 115 rfl (by decide) rfl (fun c34 => ?_) (fun c34 => ?_)
                      · skip
                        refine y_iinc2 (q := 203) C 117 rfl rfl (nI_1 k) (Nat.le_of_ble_eq_true rfl) rfl ?_
                        refine x_goto (t := 4) C 118 rfl (by decide) ?_
                        exact ih (k + 1) _ _ _ (by omega) (by subst hs; show _ = vSm _ k + wT _ _ _ _ _ _; clear hK C Z ih; simp_all [wT, mCr_pCr, ← Int32.not_le, show Int32.ofInt 1 = 1 from rfl, show Int32.ofInt (-1) = -1 from rfl]) (lt_snoc hp (by first | exact wOn_1 (fun e => absurd ((pCr_rot _ _ _ _ _ _).symm.trans e) (by assumption)) | exact wOn_2 (by assumption)))
                      · skip
                        refine y_iinc1 (q := 200) C 116 rfl rfl rfl (Nat.le_of_ble_eq_true rfl) rfl ?_
                        refine y_iinc2 (q := 203) C 117 rfl rfl (nI_1 k) (Nat.le_of_ble_eq_true rfl) rfl ?_
                        refine x_goto (t := 4) C 118 rfl (by decide) ?_
                        exact ih (k + 1) _ _ _ (by omega) (by subst hs; show _ = vSm _ k + wT _ _ _ _ _ _; clear hK C Z ih; simp_all [wT, mCr_pCr, ← Int32.not_le, show Int32.ofInt 1 = 1 from rfl, show Int32.ofInt (-1) = -1 from rfl]) (lt_snoc hp (by first | exact wOn_1 (fun e => absurd ((pCr_rot _ _ _ _ _ _).symm.trans e) (by assumption)) | exact wOn_2 (by assumption)))
          · skip
            refine x_bipush (q := 131) C 81 (n := (-9)) (v := (-9)) rfl rfl rfl ?_
            exact x_ireturn C Z 82 rfl rfl rfl (aj_lf hK (wRo_t (k := k) (by omega) (wOn_t ((pCr_rot _ _ _ _ _ _).trans (by assumption)) (by assumption))))
  exact lp4 n 0 _ _ _ (by omega) rfl (fun i hi => absurd hi (Nat.not_lt_zero i))
set_option maxRecDepth 100000 in
set_option maxHeartbeats 800000 in
theorem s_X5_add {l : Launch} {I : Nat → Nat → Int32} {J : Nat → Nat → Int64} {V : Nat → Nat → Option Nat} {N : Nat → Nat} {L : List Nat} {K : aj_K} {v w : Int64} (hK : ∀ r : Int64, K (.inl (some (.long r))) I J V N L) : aj_M l yX5_add (aj_wc yX5_add cX5_add 4 (some .long)) (aj_rm 0 0 0) [] [.long v, .long w] I J V N L K := by
  refine aj_intro (tbl := t_X5_add) (lv0 := [some (.long v), none, some (.long w), none]) (by decide) T_X5_add aj_f0 (Nat.le_of_ble_eq_true rfl) rfl ?_
  intro G hl C Z NX hnm hGL hGF
  have C : aj_C G cX5_add t_X5_add RX5 (aj_rm 0 0 0) 4 := C
  refine y_lload0 (q := 1) C 0 rfl rfl ?_
  refine x_ldc2 (q := 4) C 1 kc_RX5_264 rfl rfl ?_
  refine x_lmul (q := 5) C 2 rfl rfl ?_
  refine y_lload2 (q := 6) C 3 rfl rfl ?_
  refine x_ladd (q := 7) C 4 rfl rfl ?_
  exact x_lreturn C Z 5 rfl rfl (hK _)
set_option maxRecDepth 100000 in
set_option maxHeartbeats 800000 in
theorem s_X5_rounds {l : Launch} {I : Nat → Nat → Int32} {J : Nat → Nat → Int64} {V : Nat → Nat → Option Nat} {N : Nat → Nat} {L : List Nat} {K : aj_K} (hM : mI I) (hB : bV V N L) (hK : ∀ I1, mR I J I1 J → K (.inl (some (.int (anRo (kV I))))) I1 J V N L) : aj_M l yX5_rounds (aj_wc yX5_rounds cX5_rounds 1 (some .int)) (aj_rm 2 0 0) [] [.ref 22] I J V N L K := by
  refine aj_intro (tbl := t_X5_rounds) (lv0 := [some (.ref 22)]) (by decide) T_X5_rounds aj_f0 (Nat.le_of_ble_eq_true rfl) rfl ?_
  intro G hl C Z NX hnm hGL hGF
  have C : aj_C G cX5_rounds t_X5_rounds RX5 (aj_rm 2 0 0) 1 := C
  obtain ⟨n, hn, he⟩ := hM.2.1
  refine y_aload0 (q := 1) C 0 rfl rfl ?_
  refine x_iconst (q := 2) C 1 (n := (0)) (v := (0)) rfl rfl rfl ?_
  refine x_putI (q := 5) C 2 rfl rfl fl_RX5_32 rfl rfl (by first | assumption | rfl | decide | omega | exact bL hB _ (by decide)) (by first | assumption | rfl | decide | omega | exact bL hB _ (by decide)) ?_
  have hR0 : mR I J (aj_u I 22 0 0) J := mR.t hM
  have hT : aj_u I 22 0 0 22 0 = 0 := aj_u_s _ _ _ _
  have he0 : aj_u I 22 0 0 22 7 = nI n := (aj_u_k _ _ _ (by decide)).trans he
  generalize aj_u I 22 0 0 = I0 at hR0 hT he0 ⊢
  refine y_aload0 (q := 6) C 3 rfl rfl ?_
  refine y_cV0 (q := 9) C 4 rfl rfl ml_RX5_261 cd_X5_roundsTold cv_X5_roundsTold ⟨by decide, rfl⟩ (by first | assumption | rfl | decide | omega | exact bL hB _ (by decide)) (by decide) (by decide) (Nat.le_of_ble_eq_true rfl) (s_X5_roundsTold hn he0 hB ?_)
  show aj_X G 9 _ _ _ _ _ _ _ _ _
  exact x_ireturn C Z 5 rfl rfl rfl (aj_lf (hK _ hR0) (by rw [← hR0.2.2.1, kV_n hn he0, anRo_of]))
set_option maxRecDepth 100000 in
set_option maxHeartbeats 800000 in
theorem s_X5_roundCount {l : Launch} {I : Nat → Nat → Int32} {J : Nat → Nat → Int64} {V : Nat → Nat → Option Nat} {N : Nat → Nat} {L : List Nat} {K : aj_K} (hM : mI I) (hB : bV V N L) (hK : ∀ I1, mR I J I1 J → K (.inl (some (.int (anRc (kV I))))) I1 J V N L) : aj_M l yX5_roundCount (aj_wc yX5_roundCount cX5_roundCount 1 (some .int)) (aj_rm 2 0 0) [] [.ref 22] I J V N L K := by
  refine aj_intro (tbl := t_X5_roundCount) (lv0 := [some (.ref 22)]) (by decide) T_X5_roundCount aj_f0 (Nat.le_of_ble_eq_true rfl) rfl ?_
  intro G hl C Z NX hnm hGL hGF
  have C : aj_C G cX5_roundCount t_X5_roundCount RX5 (aj_rm 2 0 0) 1 := C
  obtain ⟨n, hn, he⟩ := hM.2.1
  refine y_aload0 (q := 1) C 0 rfl rfl ?_
  refine x_iconst (q := 2) C 1 (n := (0)) (v := (0)) rfl rfl rfl ?_
  refine x_putI (q := 5) C 2 rfl rfl fl_RX5_32 rfl rfl (by first | assumption | rfl | decide | omega | exact bL hB _ (by decide)) (by first | assumption | rfl | decide | omega | exact bL hB _ (by decide)) ?_
  have hR0 : mR I J (aj_u I 22 0 0) J := mR.t hM
  have hT : aj_u I 22 0 0 22 0 = 0 := aj_u_s _ _ _ _
  have he0 : aj_u I 22 0 0 22 7 = nI n := (aj_u_k _ _ _ (by decide)).trans he
  generalize aj_u I 22 0 0 = I0 at hR0 hT he0 ⊢
  refine y_aload0 (q := 6) C 3 rfl rfl ?_
  refine y_cV0 (q := 9) C 4 rfl rfl ml_RX5_208 cd_X5_outs cv_X5_outs ⟨by decide, rfl⟩ (by first | assumption | rfl | decide | omega | exact bL hB _ (by decide)) (by decide) (by decide) (Nat.le_of_ble_eq_true rfl) (s_X5_outs hn he0 hB ?_)
  show aj_X G 9 _ _ _ _ _ _ _ _ _
  exact x_ireturn C Z 5 rfl rfl rfl (aj_lf (hK _ hR0) (by rw [← hR0.2.2.1, kV_n hn he0, anRc_of]; rfl))
set_option maxRecDepth 100000 in
set_option maxHeartbeats 800000 in
theorem s_X5_addPlace {l : Launch} {I : Nat → Nat → Int32} {J : Nat → Nat → Int64} {V : Nat → Nat → Option Nat} {N : Nat → Nat} {L : List Nat} {K : aj_K} {x y : Int32} (hM : mI I) (hB : bV V N L) (hK : ∀ (r : Int32) I1 J1, mQ I J I1 J1 (nxAdd x y (kV I)) → I1 22 0 = cd1 (vAt x y) → (cd1 (vAt x y) = 0 → r = anAdd x y (kV I)) → K (.inl (some (.int r))) I1 J1 V N L) : aj_M l yX5_addPlace (aj_wc yX5_addPlace cX5_addPlace 3 (some .int)) (aj_rm 2 0 0) [] [.ref 22, .int x, .int y] I J V N L K := by
  refine aj_intro (tbl := t_X5_addPlace) (lv0 := [some (.ref 22), some (.int x), some (.int y)]) (by decide) T_X5_addPlace aj_f0 (Nat.le_of_ble_eq_true rfl) rfl ?_
  intro G hl C Z NX hnm hGL hGF
  have C : aj_C G cX5_addPlace t_X5_addPlace RX5 (aj_rm 2 0 0) 3 := C
  obtain ⟨n, hn, he⟩ := hM.2.1
  refine y_aload0 (q := 1) C 0 rfl rfl ?_
  refine y_iload1 (q := 2) C 1 rfl rfl ?_
  refine y_iload2 (q := 3) C 2 rfl rfl ?_
  refine y_cS2 (q := 6) C 3 rfl rfl ml_RX5_179 cd_X5_isNoAt sv_X5_isNoAt (by decide) (by decide) (Nat.le_of_ble_eq_true rfl) (s_X5_isNoAt ?_)
  show aj_X G 6 _ _ _ _ _ _ _ _ _
  refine x_iconst (q := 7) C 4 (n := (1)) (v := (1)) rfl rfl rfl ?_
  refine y_cV2 (q := 10) C 5 rfl rfl ml_RX5_135 cd_X5_start cv_X5_start ⟨by decide, rfl⟩ (by first | assumption | rfl | decide | omega | exact bL hB _ (by decide)) (by decide) (by decide) (Nat.le_of_ble_eq_true rfl) (s_X5_start (by first | assumption | rfl | decide | omega | exact bL hB _ (by decide)) (by first | assumption | rfl | decide | omega | exact bL hB _ (by decide)) ?_)
  show aj_X G 10 _ _ _ _ _ _ _ _ _
  refine x_if_eqB (q := 13) (t := 15) C 6 rfl (by decide) rfl (fun c1 => ?_) (fun c1 => ?_)
  · skip
    rw [show (!(pIn x (-64) 63 && pIn y (-64) 63)) = false by assumption, tH_f]
    have hR0 : mR I J (aj_u I 22 0 0) J := mR.t hM
    have hT : aj_u I 22 0 0 22 0 = 0 := aj_u_s _ _ _ _
    have he0 : aj_u I 22 0 0 22 7 = nI n := (aj_u_k _ _ _ (by decide)).trans he
    generalize aj_u I 22 0 0 = I0 at hR0 hT he0 ⊢
    obtain ⟨hx, hy⟩ := nAt (show (!(pIn x (-64) 63 && pIn y (-64) 63)) = false by assumption)
    refine y_aload0 (q := 16) C 9 rfl rfl ?_
    refine x_getI (q := 19) C 10 rfl rfl fl_RX5_44 (fun _ _ => rfl) (by first | assumption | rfl | decide | omega | exact bL hB _ (by decide)) (by first | assumption | rfl | decide | omega | exact bL hB _ (by decide)) ?_
    rw [he0]
    refine x_bipush (q := 21) C 11 (n := (12)) (v := (12)) rfl rfl rfl ?_
    refine x_icmp_eq (q := 24) (t := 35) C 12 rfl (by decide) rfl (fun c2 => ?_) (fun c2 => ?_)
    · skip
      refine y_aload0 (q := 36) C 19 rfl rfl ?_
      refine y_cV0 (q := 39) C 20 rfl rfl ml_RX5_142 cd_X5_failed cv_X5_failed ⟨by decide, rfl⟩ (by first | assumption | rfl | decide | omega | exact bL hB _ (by decide)) (by decide) (by decide) (Nat.le_of_ble_eq_true rfl) (s_X5_failed hB ?_)
      show aj_X G 39 _ _ _ _ _ _ _ _ _
      exact x_ireturn C Z 21 rfl rfl rfl (hK _ _ _ (mQ.no (mR.tr hR0 (mR.hs (by decide) hR0.2.1)) (nxAdd_f (kV.adf hR0 hn he0 (Or.inl ((nI12 hn).mp (by assumption)))))) (by rw [cd1_t (vAt_p hx hy)]; simpa [aj_u] using hT) (fun _ => (anAdd_f (kV.adf hR0 hn he0 (Or.inl ((nI12 hn).mp (by assumption))))).symm))
    · skip
      refine y_aload0 (q := 25) C 13 rfl rfl ?_
      refine y_iload1 (q := 26) C 14 rfl rfl ?_
      refine y_iload2 (q := 27) C 15 rfl rfl ?_
      refine y_cV2 (q := 30) C 16 rfl rfl ml_RX5_182 cd_X5_at cv_X5_at ⟨by decide, rfl⟩ (by first | assumption | rfl | decide | omega | exact bL hB _ (by decide)) (by decide) (by decide) (Nat.le_of_ble_eq_true rfl) (s_X5_at hn he0 hB ?_)
      intro r hr
      show aj_X G 30 _ _ _ _ _ _ _ _ _
      refine x_bipush (q := 32) C 17 (n := (-9)) (v := (-9)) rfl rfl rfl ?_
      refine x_icmp_eq (q := 35) (t := 40) C 18 rfl (by decide) rfl (fun c3 => ?_) (fun c3 => ?_)
      · skip
        have hn2 : n < 12 := by
          rcases Nat.lt_or_ge n 12 with w | w
          · exact w
          · exact absurd ((nI12 hn).mpr (by omega)) (by assumption)
        refine y_aload0 (q := 41) C 22 rfl rfl ?_
        refine x_getR (q := 44) C 23 rfl rfl fl_RX5_23 (bv_6_5 hB) (fun _ _ => rfl) (by first | assumption | rfl | decide | omega | exact bL hB _ (by decide)) (by first | assumption | rfl | decide | omega | exact bL hB _ (by decide)) ?_
        refine y_aload0 (q := 45) C 24 rfl rfl ?_
        refine x_getI (q := 48) C 25 rfl rfl fl_RX5_44 (fun _ _ => rfl) (by first | assumption | rfl | decide | omega | exact bL hB _ (by decide)) (by first | assumption | rfl | decide | omega | exact bL hB _ (by decide)) ?_
        rw [he0]
        refine y_iload1 (q := 49) C 26 rfl rfl ?_
        refine x_iast (q := 50) C 27 rfl rfl (by first | assumption | rfl | decide | omega | exact bL hB _ (by decide)) (by first | assumption | rfl | decide | omega | exact bL hB _ (by decide)) (by (first | rw [bn24 hB] | rw [bn40 hB] | rw [bn56 hB] | rw [bn72 hB] | rw [bn27 hB] | rw [bn43 hB] | rw [bn25 hB] | rw [bn41 hB] | rw [bn88 hB] | rw [bn104 hB] | rw [bn120 hB] | rw [bn136 hB] | rw [bn152 hB] | rw [bn168 hB]); first | assumption | exact vp_in_nI (by omega) (by decide)) ?_
        rw [nI_clamp (by omega)]
        refine y_aload0 (q := 51) C 28 rfl rfl ?_
        refine x_getR (q := 54) C 29 rfl rfl fl_RX5_26 (bv_6_6 hB) (fun _ _ => rfl) (by first | assumption | rfl | decide | omega | exact bL hB _ (by decide)) (by first | assumption | rfl | decide | omega | exact bL hB _ (by decide)) ?_
        refine y_aload0 (q := 55) C 30 rfl rfl ?_
        refine x_getI (q := 58) C 31 rfl rfl fl_RX5_44 (fun _ _ => rfl) (by first | assumption | rfl | decide | omega | exact bL hB _ (by decide)) (by first | assumption | rfl | decide | omega | exact bL hB _ (by decide)) ?_
        (try simp only [aj_u_i _ _ _ (show (22 : Nat) ≠ 136 by decide), aj_u_i _ _ _ (show (22 : Nat) ≠ 152 by decide), he0])
        refine y_iload2 (q := 59) C 32 rfl rfl ?_
        refine x_iast (q := 60) C 33 rfl rfl (by first | assumption | rfl | decide | omega | exact bL hB _ (by decide)) (by first | assumption | rfl | decide | omega | exact bL hB _ (by decide)) (by (first | rw [bn24 hB] | rw [bn40 hB] | rw [bn56 hB] | rw [bn72 hB] | rw [bn27 hB] | rw [bn43 hB] | rw [bn25 hB] | rw [bn41 hB] | rw [bn88 hB] | rw [bn104 hB] | rw [bn120 hB] | rw [bn136 hB] | rw [bn152 hB] | rw [bn168 hB]); first | assumption | exact vp_in_nI (by omega) (by decide)) ?_
        rw [nI_clamp (by omega)]
        refine y_aload0 (q := 61) C 34 rfl rfl ?_
        refine x_dupr (q := 62) C 35 rfl rfl ?_
        refine x_getI (q := 65) C 36 rfl rfl fl_RX5_44 (fun _ _ => rfl) (by first | assumption | rfl | decide | omega | exact bL hB _ (by decide)) (by first | assumption | rfl | decide | omega | exact bL hB _ (by decide)) ?_
        (try simp only [aj_u_i _ _ _ (show (22 : Nat) ≠ 136 by decide), aj_u_i _ _ _ (show (22 : Nat) ≠ 152 by decide), he0])
        refine x_iconst (q := 66) C 37 (n := (1)) (v := (1)) rfl rfl rfl ?_
        refine x_iadd (q := 67) C 38 rfl rfl ?_
        rw [nI_1]
        refine x_putI (q := 70) C 39 rfl rfl fl_RX5_44 rfl rfl (by first | assumption | rfl | decide | omega | exact bL hB _ (by decide)) (by first | assumption | rfl | decide | omega | exact bL hB _ (by decide)) ?_
        refine y_aload0 (q := 71) C 40 rfl rfl ?_
        refine x_getR (q := 74) C 41 rfl rfl fl_RX5_29 (bv_6_10 hB) (fun _ _ => rfl) (by first | assumption | rfl | decide | omega | exact bL hB _ (by decide)) (by first | assumption | rfl | decide | omega | exact bL hB _ (by decide)) ?_
        refine x_iconst (q := 75) C 42 (n := (1)) (v := nI 1) rfl rfl rfl ?_
        refine x_dup2 (q := 76) C 43 rfl rfl ?_
        refine x_iald (q := 77) C 44 rfl rfl (by first | assumption | rfl | decide | omega | exact bL hB _ (by decide)) (by first | assumption | rfl | decide | omega | exact bL hB _ (by decide)) (by (first | rw [bn24 hB] | rw [bn40 hB] | rw [bn56 hB] | rw [bn72 hB] | rw [bn27 hB] | rw [bn43 hB] | rw [bn25 hB] | rw [bn41 hB] | rw [bn88 hB] | rw [bn104 hB] | rw [bn120 hB] | rw [bn136 hB] | rw [bn152 hB] | rw [bn168 hB]); first | assumption | exact vp_in_nI (by omega) (by decide)) ?_
        rw [nI_clamp (by omega)]
        refine x_iconst (q := 78) C 45 (n := (1)) (v := (1)) rfl rfl rfl ?_
        refine x_iadd (q := 79) C 46 rfl rfl ?_
        refine x_iast (q := 80) C 47 rfl rfl (by first | assumption | rfl | decide | omega | exact bL hB _ (by decide)) (by first | assumption | rfl | decide | omega | exact bL hB _ (by decide)) (by (first | rw [bn24 hB] | rw [bn40 hB] | rw [bn56 hB] | rw [bn72 hB] | rw [bn27 hB] | rw [bn43 hB] | rw [bn25 hB] | rw [bn41 hB] | rw [bn88 hB] | rw [bn104 hB] | rw [bn120 hB] | rw [bn136 hB] | rw [bn152 hB] | rw [bn168 hB]); first | assumption | exact vp_in_nI (by omega) (by decide)) ?_
        rw [nI_clamp (by omega)]
        refine y_aload0 (q := 81) C 48 rfl rfl ?_
        refine x_getI (q := 84) C 49 rfl rfl fl_RX5_44 (fun _ _ => rfl) (by first | assumption | rfl | decide | omega | exact bL hB _ (by decide)) (by first | assumption | rfl | decide | omega | exact bL hB _ (by decide)) ?_
        refine x_iconst (q := 85) C 50 (n := (1)) (v := (1)) rfl rfl rfl ?_
        refine x_isub (q := 86) C 51 rfl rfl ?_
        exact x_ireturn C Z 52 rfl rfl rfl (hK _ _ _ (mQ.ad hR0 hn2 he0 hx hy (hr.elim (fun ⟨j, a1, a2, a3, a4, a5⟩ => absurd (a2.symm.trans (by assumption)) (nI_n9 (by omega))) (fun z => z.2))).1 (by rw [cd1_t (vAt_p hx hy)]; simpa [aj_u] using hT) (fun _ => by rw [(mQ.ad (w := 0) hR0 hn2 he0 hx hy (hr.elim (fun ⟨j, a1, a2, a3, a4, a5⟩ => absurd (a2.symm.trans (by assumption)) (nI_n9 (by omega))) (fun z => z.2))).2]; first | exact nI_pred n | (rw [aj_u_i _ _ _ (by decide), aj_u_s]; exact nI_pred n) | (rw [aj_u_s]; exact nI_pred n)))
      · skip
        refine y_aload0 (q := 36) C 19 rfl rfl ?_
        refine y_cV0 (q := 39) C 20 rfl rfl ml_RX5_142 cd_X5_failed cv_X5_failed ⟨by decide, rfl⟩ (by first | assumption | rfl | decide | omega | exact bL hB _ (by decide)) (by decide) (by decide) (Nat.le_of_ble_eq_true rfl) (s_X5_failed hB ?_)
        show aj_X G 39 _ _ _ _ _ _ _ _ _
        exact x_ireturn C Z 21 rfl rfl rfl (hK _ _ _ (mQ.no (mR.tr hR0 (mR.hs (by decide) hR0.2.1)) (nxAdd_f (kV.adf hR0 hn he0 (Or.inr (hr.elim (fun ⟨j, a1, a2, a3, a4, a5⟩ => ⟨j, a1, a3, a4⟩) (fun z => absurd z.1 (by assumption))))))) (by rw [cd1_t (vAt_p hx hy)]; simpa [aj_u] using hT) (fun _ => (anAdd_f (kV.adf hR0 hn he0 (Or.inr (hr.elim (fun ⟨j, a1, a2, a3, a4, a5⟩ => ⟨j, a1, a3, a4⟩) (fun z => absurd z.1 (by assumption)))))).symm))
  · skip
    refine x_iconst (q := 14) C 7 (n := (0)) (v := (0)) rfl rfl rfl ?_
    exact x_ireturn C Z 8 rfl rfl rfl (hK _ _ _ (mQ.no (mR.th hM) (nxAdd_f (bAdd_0 (nAtf (by assumption))))) (by rw [cd1_f (nAtf (by assumption))]; exact tH_t (by assumption)) (cd1_n (nAtf (by assumption))))
set_option maxRecDepth 100000 in
set_option maxHeartbeats 800000 in
theorem s_X5_movePlace {l : Launch} {I : Nat → Nat → Int32} {J : Nat → Nat → Int64} {V : Nat → Nat → Option Nat} {N : Nat → Nat} {L : List Nat} {K : aj_K} {p x y : Int32} (hM : mI I) (hB : bV V N L) (hK : ∀ (r : Int32) I1 J1, mQ I J I1 J1 (nxMov p x y (kV I)) → I1 22 0 = cd2 (vOk (vN (kV I)) p) (vAt x y) → (cd2 (vOk (vN (kV I)) p) (vAt x y) = 0 → r = anMov p x y (kV I)) → K (.inl (some (.int r))) I1 J1 V N L) : aj_M l yX5_movePlace (aj_wc yX5_movePlace cX5_movePlace 5 (some .int)) (aj_rm 2 0 0) [] [.ref 22, .int p, .int x, .int y] I J V N L K := by
  refine aj_intro (tbl := t_X5_movePlace) (lv0 := [some (.ref 22), some (.int p), some (.int x), some (.int y), none]) (by decide) T_X5_movePlace aj_f0 (Nat.le_of_ble_eq_true rfl) rfl ?_
  intro G hl C Z NX hnm hGL hGF
  have C : aj_C G cX5_movePlace t_X5_movePlace RX5 (aj_rm 2 0 0) 5 := C
  obtain ⟨n, hn, he⟩ := hM.2.1
  refine y_aload0 (q := 1) C 0 rfl rfl ?_
  refine y_aload0 (q := 2) C 1 rfl rfl ?_
  refine y_iload1 (q := 3) C 2 rfl rfl ?_
  refine y_cV1 (q := 6) C 3 rfl rfl ml_RX5_149 cd_X5_isNoPlace cv_X5_isNoPlace ⟨by decide, rfl⟩ (by first | assumption | rfl | decide | omega | exact bL hB _ (by decide)) (by decide) (by decide) (Nat.le_of_ble_eq_true rfl) (s_X5_isNoPlace (by first | assumption | rfl | decide | omega | exact bL hB _ (by decide)) ?_)
  show aj_X G 6 _ _ _ _ _ _ _ _ _
  refine x_iconst (q := 7) C 4 (n := (1)) (v := (1)) rfl rfl rfl ?_
  refine y_cV2 (q := 10) C 5 rfl rfl ml_RX5_135 cd_X5_start cv_X5_start ⟨by decide, rfl⟩ (by first | assumption | rfl | decide | omega | exact bL hB _ (by decide)) (by decide) (by decide) (Nat.le_of_ble_eq_true rfl) (s_X5_start (by first | assumption | rfl | decide | omega | exact bL hB _ (by decide)) (by first | assumption | rfl | decide | omega | exact bL hB _ (by decide)) ?_)
  show aj_X G 10 _ _ _ _ _ _ _ _ _
  refine x_if_neB (q := 13) (t := 26) C 6 rfl (by decide) rfl (fun c1 => ?_) (fun c1 => ?_)
  · skip
    refine x_iconst (q := 27) C 14 (n := (0)) (v := (0)) rfl rfl rfl ?_
    exact x_ireturn C Z 15 rfl rfl rfl (hK _ _ _ (mQ.no (mR.th hM) (nxMov_f (bMov_0 (kV.okf hn he (by assumption))))) (by rw [cd2_1 (kV.okf hn he (by assumption))]; exact tH_t (by assumption)) (cd2_n (Or.inl (kV.okf hn he (by assumption)))))
  · skip
    rw [show (!pIn p 0 (I 22 7 - 1)) = false by assumption, tH_f]
    have hR0 : mR I J (aj_u I 22 0 0) J := mR.t hM
    have hT : aj_u I 22 0 0 22 0 = 0 := aj_u_s _ _ _ _
    have he0 : aj_u I 22 0 0 22 7 = nI n := (aj_u_k _ _ _ (by decide)).trans he
    generalize aj_u I 22 0 0 = I0 at hR0 hT he0 ⊢
    obtain ⟨j, hj, rfl⟩ := nP hn he (show (!pIn p 0 (I 22 7 - 1)) = false by assumption)
    refine y_aload0 (q := 14) C 7 rfl rfl ?_
    refine y_iload2 (q := 15) C 8 rfl rfl ?_
    refine y_iload3 (q := 16) C 9 rfl rfl ?_
    refine y_cS2 (q := 19) C 10 rfl rfl ml_RX5_179 cd_X5_isNoAt sv_X5_isNoAt (by decide) (by decide) (Nat.le_of_ble_eq_true rfl) (s_X5_isNoAt ?_)
    show aj_X G 19 _ _ _ _ _ _ _ _ _
    refine x_iconst (q := 20) C 11 (n := (2)) (v := (2)) rfl rfl rfl ?_
    refine y_cV2 (q := 23) C 12 rfl rfl ml_RX5_36 cd_X5_refuse cv_X5_refuse ⟨by decide, rfl⟩ (by first | assumption | rfl | decide | omega | exact bL hB _ (by decide)) (by decide) (by decide) (Nat.le_of_ble_eq_true rfl) (s_X5_refuse (by decide) hT hB ?_)
    show aj_X G 23 _ _ _ _ _ _ _ _ _
    refine x_if_eqB (q := 26) (t := 28) C 13 rfl (by decide) rfl (fun c2 => ?_) (fun c2 => ?_)
    · skip
      rw [show (!(pIn x (-64) 63 && pIn y (-64) 63)) = false by assumption, tH_f]
      obtain ⟨hx, hy⟩ := nAt (show (!(pIn x (-64) 63 && pIn y (-64) 63)) = false by assumption)
      refine y_aload0 (q := 29) C 16 rfl rfl ?_
      refine y_iload2 (q := 30) C 17 rfl rfl ?_
      refine y_iload3 (q := 31) C 18 rfl rfl ?_
      refine y_cV2 (q := 34) C 19 rfl rfl ml_RX5_182 cd_X5_at cv_X5_at ⟨by decide, rfl⟩ (by first | assumption | rfl | decide | omega | exact bL hB _ (by decide)) (by decide) (by decide) (Nat.le_of_ble_eq_true rfl) (s_X5_at hn he0 hB ?_)
      intro r hr
      show aj_X G 34 _ _ _ _ _ _ _ _ _
      refine y_istore4 (q := 36) C 20 rfl rfl (Nat.le_of_ble_eq_true rfl) rfl ?_
      refine y_iload4 (q := 38) C 21 rfl rfl ?_
      refine x_bipush (q := 40) C 22 (n := (-9)) (v := (-9)) rfl rfl rfl ?_
      refine x_icmp_eq (q := 43) (t := 54) C 23 rfl (by decide) rfl (fun c3 => ?_) (fun c3 => ?_)
      · skip
        refine y_aload0 (q := 55) C 30 rfl rfl ?_
        refine x_getR (q := 58) C 31 rfl rfl fl_RX5_23 (bv_6_5 hB) (fun _ _ => rfl) (by first | assumption | rfl | decide | omega | exact bL hB _ (by decide)) (by first | assumption | rfl | decide | omega | exact bL hB _ (by decide)) ?_
        refine y_iload1 (q := 59) C 32 rfl rfl ?_
        refine y_iload2 (q := 60) C 33 rfl rfl ?_
        refine x_iast (q := 61) C 34 rfl rfl (by first | assumption | rfl | decide | omega | exact bL hB _ (by decide)) (by first | assumption | rfl | decide | omega | exact bL hB _ (by decide)) (by (first | rw [bn24 hB] | rw [bn40 hB] | rw [bn56 hB] | rw [bn72 hB] | rw [bn27 hB] | rw [bn43 hB] | rw [bn25 hB] | rw [bn41 hB] | rw [bn88 hB] | rw [bn104 hB] | rw [bn120 hB] | rw [bn136 hB] | rw [bn152 hB] | rw [bn168 hB]); first | assumption | exact vp_in_nI (by omega) (by decide)) ?_
        rw [nI_clamp (by omega)]
        refine y_aload0 (q := 62) C 35 rfl rfl ?_
        refine x_getR (q := 65) C 36 rfl rfl fl_RX5_26 (bv_6_6 hB) (fun _ _ => rfl) (by first | assumption | rfl | decide | omega | exact bL hB _ (by decide)) (by first | assumption | rfl | decide | omega | exact bL hB _ (by decide)) ?_
        refine y_iload1 (q := 66) C 37 rfl rfl ?_
        refine y_iload3 (q := 67) C 38 rfl rfl ?_
        refine x_iast (q := 68) C 39 rfl rfl (by first | assumption | rfl | decide | omega | exact bL hB _ (by decide)) (by first | assumption | rfl | decide | omega | exact bL hB _ (by decide)) (by (first | rw [bn24 hB] | rw [bn40 hB] | rw [bn56 hB] | rw [bn72 hB] | rw [bn27 hB] | rw [bn43 hB] | rw [bn25 hB] | rw [bn41 hB] | rw [bn88 hB] | rw [bn104 hB] | rw [bn120 hB] | rw [bn136 hB] | rw [bn152 hB] | rw [bn168 hB]); first | assumption | exact vp_in_nI (by omega) (by decide)) ?_
        rw [nI_clamp (by omega)]
        refine y_aload0 (q := 69) C 40 rfl rfl ?_
        refine x_getR (q := 72) C 41 rfl rfl fl_RX5_29 (bv_6_10 hB) (fun _ _ => rfl) (by first | assumption | rfl | decide | omega | exact bL hB _ (by decide)) (by first | assumption | rfl | decide | omega | exact bL hB _ (by decide)) ?_
        refine x_iconst (q := 73) C 42 (n := (1)) (v := nI 1) rfl rfl rfl ?_
        refine x_dup2 (q := 74) C 43 rfl rfl ?_
        refine x_iald (q := 75) C 44 rfl rfl (by first | assumption | rfl | decide | omega | exact bL hB _ (by decide)) (by first | assumption | rfl | decide | omega | exact bL hB _ (by decide)) (by (first | rw [bn24 hB] | rw [bn40 hB] | rw [bn56 hB] | rw [bn72 hB] | rw [bn27 hB] | rw [bn43 hB] | rw [bn25 hB] | rw [bn41 hB] | rw [bn88 hB] | rw [bn104 hB] | rw [bn120 hB] | rw [bn136 hB] | rw [bn152 hB] | rw [bn168 hB]); first | assumption | exact vp_in_nI (by omega) (by decide)) ?_
        rw [nI_clamp (by omega)]
        refine x_iconst (q := 76) C 45 (n := (1)) (v := (1)) rfl rfl rfl ?_
        refine x_iadd (q := 77) C 46 rfl rfl ?_
        refine x_iast (q := 78) C 47 rfl rfl (by first | assumption | rfl | decide | omega | exact bL hB _ (by decide)) (by first | assumption | rfl | decide | omega | exact bL hB _ (by decide)) (by (first | rw [bn24 hB] | rw [bn40 hB] | rw [bn56 hB] | rw [bn72 hB] | rw [bn27 hB] | rw [bn43 hB] | rw [bn25 hB] | rw [bn41 hB] | rw [bn88 hB] | rw [bn104 hB] | rw [bn120 hB] | rw [bn136 hB] | rw [bn152 hB] | rw [bn168 hB]); first | assumption | exact vp_in_nI (by omega) (by decide)) ?_
        rw [nI_clamp (by omega)]
        refine y_iload4 (q := 80) C 48 rfl rfl ?_
        refine x_bipush (q := 82) C 49 (n := (-9)) (v := (-9)) rfl rfl rfl ?_
        refine x_icmp_ne (q := 85) (t := 89) C 50 rfl (by decide) rfl (fun c4 => ?_) (fun c4 => ?_)
        · skip
          exact absurd (by assumption) c4
        · skip
          refine x_iconst (q := 86) C 51 (n := (1)) (v := (1)) rfl rfl rfl ?_
          refine x_goto (t := 90) C 52 rfl (by decide) ?_
          refine y_cS1 (q := 93) C 54 rfl rfl ml_RX5_47 cd_X5_one sv_X5_one (by decide) (by decide) (Nat.le_of_ble_eq_true rfl) (s_X5_one ?_)
          show aj_X G 93 _ _ _ _ _ _ _ _ _
          exact x_ireturn C Z 55 rfl rfl rfl (hK _ _ _ (mQ.mo hR0 hn hj he0 hx hy (Or.inr (hr.elim (fun ⟨i, a1, a2, a3, a4, a5⟩ => absurd (a2.symm.trans (by assumption)) (nI_n9 (by omega))) (fun z => z.2)))) (by rw [cd2_t (kV.okt hn he hj) (vAt_p hx hy)]; simpa [aj_u] using hT) (fun _ => by rw [kV.mo1 hR0 hn hj he0 hx hy (hr.elim (fun ⟨i, a1, a2, a3, a4, a5⟩ => absurd (a2.symm.trans (by assumption)) (nI_n9 (by omega))) (fun z => z.2))]; decide))
      · skip
        refine y_iload4 (q := 45) C 24 rfl rfl ?_
        refine y_iload1 (q := 46) C 25 rfl rfl ?_
        refine x_icmp_eq (q := 49) (t := 54) C 26 rfl (by decide) rfl (fun c5 => ?_) (fun c5 => ?_)
        · skip
          refine y_aload0 (q := 55) C 30 rfl rfl ?_
          refine x_getR (q := 58) C 31 rfl rfl fl_RX5_23 (bv_6_5 hB) (fun _ _ => rfl) (by first | assumption | rfl | decide | omega | exact bL hB _ (by decide)) (by first | assumption | rfl | decide | omega | exact bL hB _ (by decide)) ?_
          refine y_iload1 (q := 59) C 32 rfl rfl ?_
          refine y_iload2 (q := 60) C 33 rfl rfl ?_
          refine x_iast (q := 61) C 34 rfl rfl (by first | assumption | rfl | decide | omega | exact bL hB _ (by decide)) (by first | assumption | rfl | decide | omega | exact bL hB _ (by decide)) (by (first | rw [bn24 hB] | rw [bn40 hB] | rw [bn56 hB] | rw [bn72 hB] | rw [bn27 hB] | rw [bn43 hB] | rw [bn25 hB] | rw [bn41 hB] | rw [bn88 hB] | rw [bn104 hB] | rw [bn120 hB] | rw [bn136 hB] | rw [bn152 hB] | rw [bn168 hB]); first | assumption | exact vp_in_nI (by omega) (by decide)) ?_
          rw [nI_clamp (by omega)]
          refine y_aload0 (q := 62) C 35 rfl rfl ?_
          refine x_getR (q := 65) C 36 rfl rfl fl_RX5_26 (bv_6_6 hB) (fun _ _ => rfl) (by first | assumption | rfl | decide | omega | exact bL hB _ (by decide)) (by first | assumption | rfl | decide | omega | exact bL hB _ (by decide)) ?_
          refine y_iload1 (q := 66) C 37 rfl rfl ?_
          refine y_iload3 (q := 67) C 38 rfl rfl ?_
          refine x_iast (q := 68) C 39 rfl rfl (by first | assumption | rfl | decide | omega | exact bL hB _ (by decide)) (by first | assumption | rfl | decide | omega | exact bL hB _ (by decide)) (by (first | rw [bn24 hB] | rw [bn40 hB] | rw [bn56 hB] | rw [bn72 hB] | rw [bn27 hB] | rw [bn43 hB] | rw [bn25 hB] | rw [bn41 hB] | rw [bn88 hB] | rw [bn104 hB] | rw [bn120 hB] | rw [bn136 hB] | rw [bn152 hB] | rw [bn168 hB]); first | assumption | exact vp_in_nI (by omega) (by decide)) ?_
          rw [nI_clamp (by omega)]
          refine y_aload0 (q := 69) C 40 rfl rfl ?_
          refine x_getR (q := 72) C 41 rfl rfl fl_RX5_29 (bv_6_10 hB) (fun _ _ => rfl) (by first | assumption | rfl | decide | omega | exact bL hB _ (by decide)) (by first | assumption | rfl | decide | omega | exact bL hB _ (by decide)) ?_
          refine x_iconst (q := 73) C 42 (n := (1)) (v := nI 1) rfl rfl rfl ?_
          refine x_dup2 (q := 74) C 43 rfl rfl ?_
          refine x_iald (q := 75) C 44 rfl rfl (by first | assumption | rfl | decide | omega | exact bL hB _ (by decide)) (by first | assumption | rfl | decide | omega | exact bL hB _ (by decide)) (by (first | rw [bn24 hB] | rw [bn40 hB] | rw [bn56 hB] | rw [bn72 hB] | rw [bn27 hB] | rw [bn43 hB] | rw [bn25 hB] | rw [bn41 hB] | rw [bn88 hB] | rw [bn104 hB] | rw [bn120 hB] | rw [bn136 hB] | rw [bn152 hB] | rw [bn168 hB]); first | assumption | exact vp_in_nI (by omega) (by decide)) ?_
          rw [nI_clamp (by omega)]
          refine x_iconst (q := 76) C 45 (n := (1)) (v := (1)) rfl rfl rfl ?_
          refine x_iadd (q := 77) C 46 rfl rfl ?_
          refine x_iast (q := 78) C 47 rfl rfl (by first | assumption | rfl | decide | omega | exact bL hB _ (by decide)) (by first | assumption | rfl | decide | omega | exact bL hB _ (by decide)) (by (first | rw [bn24 hB] | rw [bn40 hB] | rw [bn56 hB] | rw [bn72 hB] | rw [bn27 hB] | rw [bn43 hB] | rw [bn25 hB] | rw [bn41 hB] | rw [bn88 hB] | rw [bn104 hB] | rw [bn120 hB] | rw [bn136 hB] | rw [bn152 hB] | rw [bn168 hB]); first | assumption | exact vp_in_nI (by omega) (by decide)) ?_
          rw [nI_clamp (by omega)]
          refine y_iload4 (q := 80) C 48 rfl rfl ?_
          refine x_bipush (q := 82) C 49 (n := (-9)) (v := (-9)) rfl rfl rfl ?_
          refine x_icmp_ne (q := 85) (t := 89) C 50 rfl (by decide) rfl (fun c6 => ?_) (fun c6 => ?_)
          · skip
            refine x_iconst (q := 90) C 53 (n := (0)) (v := (0)) rfl rfl rfl ?_
            refine y_cS1 (q := 93) C 54 rfl rfl ml_RX5_47 cd_X5_one sv_X5_one (by decide) (by decide) (Nat.le_of_ble_eq_true rfl) (s_X5_one ?_)
            show aj_X G 93 _ _ _ _ _ _ _ _ _
            exact x_ireturn C Z 55 rfl rfl rfl (hK _ _ _ (mQ.mo hR0 hn hj he0 hx hy (Or.inl (hr.elim (fun ⟨i, a1, a2, a3, a4, a5⟩ => by have e : i = j := (nI_eq (by omega) (by omega)).mp (a2.symm.trans (by assumption)); subst e; exact ⟨a3, a4, a5⟩) (fun z => absurd z.1 (by assumption))))) (by rw [cd2_t (kV.okt hn he hj) (vAt_p hx hy)]; simpa [aj_u] using hT) (fun _ => by rw [kV.mo2 hR0 hn hj he0 hx hy (hr.elim (fun ⟨i, a1, a2, a3, a4, a5⟩ => by have e : i = j := (nI_eq (by omega) (by omega)).mp (a2.symm.trans (by assumption)); subst e; exact ⟨a3, a4, a5⟩) (fun z => absurd z.1 (by assumption)))]; decide))
          · skip
            exact absurd c6 (by assumption)
        · skip
          refine y_aload0 (q := 50) C 27 rfl rfl ?_
          refine y_cV0 (q := 53) C 28 rfl rfl ml_RX5_142 cd_X5_failed cv_X5_failed ⟨by decide, rfl⟩ (by first | assumption | rfl | decide | omega | exact bL hB _ (by decide)) (by decide) (by decide) (Nat.le_of_ble_eq_true rfl) (s_X5_failed hB ?_)
          show aj_X G 53 _ _ _ _ _ _ _ _ _
          exact x_ireturn C Z 29 rfl rfl rfl (hK _ _ _ (mQ.no (mR.tr hR0 (mR.hs (by decide) hR0.2.1)) (nxMov_f (kV.mof hR0 hn hj he0 (hr.elim (fun ⟨i, a1, a2, a3, a4, a5⟩ => ⟨i, a1, fun z => by subst z; exact absurd a2 (by assumption), a3, a4, a5⟩) (fun z => absurd z.1 (by assumption)))))) (by rw [cd2_t (kV.okt hn he hj) (vAt_p hx hy)]; simpa [aj_u] using hT) (fun _ => (anMov_f (kV.mof hR0 hn hj he0 (hr.elim (fun ⟨i, a1, a2, a3, a4, a5⟩ => ⟨i, a1, fun z => by subst z; exact absurd a2 (by assumption), a3, a4, a5⟩) (fun z => absurd z.1 (by assumption))))).symm))
    · skip
      refine x_iconst (q := 27) C 14 (n := (0)) (v := (0)) rfl rfl rfl ?_
      exact x_ireturn C Z 15 rfl rfl rfl (hK _ _ _ (mQ.no (mR.tr hR0 (mR.tw hR0.2.1)) (nxMov_f (bMov_1 (nAtf (by assumption))))) (by rw [cd2_2 (kV.okt hn he hj) (nAtf (by assumption))]; exact tH_t (by assumption)) (cd2_n (Or.inr (nAtf (by assumption)))))
