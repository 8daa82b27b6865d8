set_option maxRecDepth 100000 in
set_option maxHeartbeats 800000 in
theorem s_X1_lay {l : Launch} {I : Nat → Nat → Int32} {J : Nat → Nat → Int64} {V : Nat → Nat → Option Nat} {N : Nat → Nat} {L : List Nat} {K : aj_K} {n : Nat} (hn : n ≤ 12) (hc : I 18 2 = nI n) (hB : bV V N L) (hK : ∀ I1 : Nat → Nat → Int32, fL I I1 n → K (.inl none) I1 J V N L) : aj_M l yX1_lay (aj_wc yX1_lay cX1_lay 1 none) (aj_rm 4 0 0) [] [.ref 18] I J V N L K := by
  refine aj_intro (tbl := t_X1_lay) (lv0 := [some (.ref 18)]) (by decide) T_X1_lay aj_f0 (Nat.le_of_ble_eq_true rfl) rfl ?_
  intro G hl C Z NX hnm hGL hGF
  have C : aj_C G cX1_lay t_X1_lay RX1 (aj_rm 4 0 0) 1 := C
  refine y_aload0 (q := 1) C 0 rfl rfl ?_
  refine y_cV0 (q := 4) C 1 rfl rfl ml_RX1_43 cd_X1_layRound cv_X1_layRound ⟨by decide, rfl⟩ (by first | assumption | rfl | decide | exact bL hB _ (by decide)) (by decide) (by decide) (Nat.le_of_ble_eq_true rfl) (s_X1_layRound hn hc hB ?_)
  intro I1 rc hE1 hk1 h4 hrc hh1 hrcc
  show aj_X G 4 _ _ _ _ _ _ _ _ _
  refine y_aload0 (q := 5) C 2 rfl rfl ?_
  refine y_cV0 (q := 8) C 3 rfl rfl ml_RX1_46 cd_X1_layHull cv_X1_layHull ⟨by decide, rfl⟩ (by first | assumption | rfl | decide | exact bL hB _ (by decide)) (by decide) (by decide) (Nat.le_of_ble_eq_true rfl) (s_X1_layHull hn (by rw [hk1 2 (by decide)]; exact hc) hB ?_)
  intro I2 qc hE2 hk2 hqc h6 hh2
  show aj_X G 8 _ _ _ _ _ _ _ _ _
  exact x_return C Z 4 rfl rfl (hK I2 ⟨eqO.tr (hE1.mono (by decide)) (hE2.mono (by decide)), fun k h1 h2 => (hk2 k h2).trans (hk1 k h1), rc, qc, hrc, hqc, (hk2 4 (by decide)).trans h4, h6, fun j hj => by rw [hE2 56 (by decide)]; exact hh1 j hj, hh2, by rw [oP_c ((hE2 24 (by decide)).trans (hE1 24 (by decide))) ((hE2 40 (by decide)).trans (hE1 40 (by decide)))]; exact hrcc⟩)
set_option maxRecDepth 100000 in
set_option maxHeartbeats 800000 in
theorem s_X1_add {l : Launch} {I : Nat → Nat → Int32} {J : Nat → Nat → Int64} {V : Nat → Nat → Option Nat} {N : Nat → Nat} {L : List Nat} {K : aj_K} {n : Nat} {x y : Int32} (hn : n < 12) (hc : I 18 2 = nI n) (hB : bV V N L) (hK : ∀ I1 : Nat → Nat → Int32, eqO [18, 24, 40, 56, 72, 179, 195] I I1 → I1 18 2 = nI (n + 1) → fW I1 (n + 1) → (∀ k, I1 24 k = if k = n then x else I 24 k) → (∀ k, I1 40 k = if k = n then y else I 40 k) → K (.inl (some (.int (nI n)))) I1 J V N L) : aj_M l yX1_add (aj_wc yX1_add cX1_add 4 (some .int)) (aj_rm 5 0 0) [] [.ref 18, .int x, .int y] I J V N L K := by
  refine aj_intro (tbl := t_X1_add) (lv0 := [some (.ref 18), some (.int x), some (.int y), none]) (by decide) T_X1_add aj_f0 (Nat.le_of_ble_eq_true rfl) rfl ?_
  intro G hl C Z NX hnm hGL hGF
  have C : aj_C G cX1_add t_X1_add RX1 (aj_rm 5 0 0) 4 := C
  refine y_aload0 (q := 1) C 0 rfl rfl ?_
  refine x_getI (q := 4) C 1 rfl rfl fl_RX1_32 (fun _ _ => rfl) (by first | assumption | rfl | decide | exact bL hB _ (by decide)) (by first | assumption | rfl | decide | exact bL hB _ (by decide)) ?_
  rw [hc]
  refine y_istore3 (q := 5) C 2 rfl rfl (Nat.le_of_ble_eq_true rfl) rfl ?_
  refine y_aload0 (q := 6) C 3 rfl rfl ?_
  refine x_getR (q := 9) C 4 rfl rfl fl_RX1_9 (bv_2_0 hB) (fun _ _ => rfl) (by first | assumption | rfl | decide | exact bL hB _ (by decide)) (by first | assumption | rfl | decide | exact bL hB _ (by decide)) ?_
  refine y_iload3 (q := 10) C 5 rfl rfl ?_
  refine y_iload1 (q := 11) C 6 rfl rfl ?_
  refine x_iast (q := 12) C 7 rfl rfl (by first | assumption | rfl | decide | exact bL hB _ (by decide)) (by first | assumption | rfl | decide | exact bL hB _ (by decide)) (by (first | rw [bn24 hB] | rw [bn40 hB] | rw [bn56 hB] | rw [bn72 hB] | rw [bn27 hB] | rw [bn43 hB] | rw [bn25 hB] | rw [bn41 hB] | rw [bn88 hB] | rw [bn104 hB] | rw [bn120 hB] | rw [bn136 hB] | rw [bn152 hB] | rw [bn168 hB]); first | assumption | exact vp_in_nI (by omega) (by decide)) ?_
  rw [nI_clamp (by omega)]
  refine y_aload0 (q := 13) C 8 rfl rfl ?_
  refine x_getR (q := 16) C 9 rfl rfl fl_RX1_13 (bv_2_1 hB) (fun _ _ => rfl) (by first | assumption | rfl | decide | exact bL hB _ (by decide)) (by first | assumption | rfl | decide | exact bL hB _ (by decide)) ?_
  refine y_iload3 (q := 17) C 10 rfl rfl ?_
  refine y_iload2 (q := 18) C 11 rfl rfl ?_
  refine x_iast (q := 19) C 12 rfl rfl (by first | assumption | rfl | decide | exact bL hB _ (by decide)) (by first | assumption | rfl | decide | exact bL hB _ (by decide)) (by (first | rw [bn24 hB] | rw [bn40 hB] | rw [bn56 hB] | rw [bn72 hB] | rw [bn27 hB] | rw [bn43 hB] | rw [bn25 hB] | rw [bn41 hB] | rw [bn88 hB] | rw [bn104 hB] | rw [bn120 hB] | rw [bn136 hB] | rw [bn152 hB] | rw [bn168 hB]); first | assumption | exact vp_in_nI (by omega) (by decide)) ?_
  rw [nI_clamp (by omega)]
  refine y_aload0 (q := 20) C 13 rfl rfl ?_
  refine x_dupr (q := 21) C 14 rfl rfl ?_
  refine x_getI (q := 24) C 15 rfl rfl fl_RX1_32 (fun _ _ => rfl) (by first | assumption | rfl | decide | exact bL hB _ (by decide)) (by first | assumption | rfl | decide | exact bL hB _ (by decide)) ?_
  rw [show aj_u (aj_u I 24 n x) 40 n y 18 2 = nI n by rw [aj_u_i _ _ _ (by decide), aj_u_i _ _ _ (by decide)]; exact hc]
  refine x_iconst (q := 25) C 16 (n := (1)) (v := nI 1) rfl rfl rfl ?_
  refine x_iadd (q := 26) C 17 rfl rfl ?_
  rw [nI_add]
  refine x_putI (q := 29) C 18 rfl rfl fl_RX1_32 rfl rfl (by first | assumption | rfl | decide | exact bL hB _ (by decide)) (by first | assumption | rfl | decide | exact bL hB _ (by decide)) ?_
  refine y_aload0 (q := 30) C 19 rfl rfl ?_
  refine y_cV0 (q := 33) C 20 rfl rfl ml_RX1_36 cd_X1_lay cv_X1_lay ⟨by decide, rfl⟩ (by first | assumption | rfl | decide | exact bL hB _ (by decide)) (by decide) (by decide) (Nat.le_of_ble_eq_true rfl) (s_X1_lay (n := n + 1) (by omega) (aj_u_s _ _ _ _) hB ?_)
  intro I1 hl
  show aj_X G 33 _ _ _ _ _ _ _ _ _
  refine y_iload3 (q := 34) C 21 rfl rfl ?_
  exact x_ireturn C Z 22 rfl rfl rfl (hK I1 (eqO.tr (eqO.tr (eqO.u (by decide)) (eqO.tr (eqO.u (by decide)) (eqO.u (by decide)))) (hl.1.mono (by decide))) ((hl.2.1 2 (by decide) (by decide)).trans (aj_u_s _ _ _ _)) hl.2.2 (fun k => by rw [hl.1 24 (by decide), aj_u_i _ _ _ (by decide), aj_u_i _ _ _ (by decide)]; rw [aj_u_if]) (fun k => by rw [hl.1 40 (by decide), aj_u_i _ _ _ (by decide)]; rw [aj_u_if, aj_u_i _ _ _ (by decide)]))
set_option maxRecDepth 100000 in
set_option maxHeartbeats 800000 in
theorem s_X1_drop {l : Launch} {I : Nat → Nat → Int32} {J : Nat → Nat → Int64} {V : Nat → Nat → Option Nat} {N : Nat → Nat} {L : List Nat} {K : aj_K} {n i : Nat} (hi : i < n) (hn : n ≤ 12) (hc : I 18 2 = nI n) (hB : bV V N L) (hK : ∀ I1 : Nat → Nat → Int32, eqO [18, 24, 40, 56, 72, 179, 195] I I1 → I1 18 2 = nI (n - 1) → fW I1 (n - 1) → (∀ k, I1 24 k = if i ≤ k ∧ k < n - 1 then I 24 (k + 1) else I 24 k) → (∀ k, I1 40 k = if i ≤ k ∧ k < n - 1 then I 40 (k + 1) else I 40 k) → K (.inl none) I1 J V N L) : aj_M l yX1_drop (aj_wc yX1_drop cX1_drop 3 none) (aj_rm 5 0 0) [] [.ref 18, .int (nI i)] I J V N L K := by
  refine aj_intro (tbl := t_X1_drop) (lv0 := [some (.ref 18), some (.int (nI i)), none]) (by decide) T_X1_drop aj_f0 (Nat.le_of_ble_eq_true rfl) rfl ?_
  intro G hl C Z NX hnm hGL hGF
  have C : aj_C G cX1_drop t_X1_drop RX1 (aj_rm 5 0 0) 3 := C
  refine y_aload0 (q := 1) C 0 rfl rfl ?_
  refine x_dupr (q := 2) C 1 rfl rfl ?_
  refine x_getI (q := 5) C 2 rfl rfl fl_RX1_32 (fun _ _ => rfl) (by first | assumption | rfl | decide | exact bL hB _ (by decide)) (by first | assumption | rfl | decide | exact bL hB _ (by decide)) ?_
  rw [hc]
  refine x_iconst (q := 6) C 3 (n := (1)) (v := nI 1) rfl rfl rfl ?_
  refine x_isub (q := 7) C 4 rfl rfl ?_
  rw [pk_sub (by omega)]
  refine x_putI (q := 10) C 5 rfl rfl fl_RX1_32 rfl rfl (by first | assumption | rfl | decide | exact bL hB _ (by decide)) (by first | assumption | rfl | decide | exact bL hB _ (by decide)) ?_
  refine y_iload1 (q := 11) C 6 rfl rfl ?_
  refine y_istore2 (q := 12) C 7 rfl rfl (Nat.le_of_ble_eq_true rfl) rfl ?_
  have lp12 : ∀ (m j : Nat) (I1 : Nat → Nat → Int32), j + m = n - 1 → i ≤ j → eqO [18, 24, 40] I I1 → (∀ k, k ≠ 2 → I1 18 k = I 18 k) → I1 18 2 = nI (n - 1) → (∀ k, I1 24 k = if i ≤ k ∧ k < j then I 24 (k + 1) else I 24 k) → (∀ k, I1 40 k = if i ≤ k ∧ k < j then I 40 (k + 1) else I 40 k) → aj_X G 12 [some (.ref 18), some (.int (nI i)), some (.int (nI j))] [] I1 J V N L 0 0 := by
    intro m
    induction m with
    | zero =>
      intro j I1 hj hij hE hk1 hc1 hx hy
      refine y_iload2 (q := 13) C 8 rfl rfl ?_
      refine y_aload0 (q := 14) C 9 rfl rfl ?_
      refine x_getI (q := 17) C 10 rfl rfl fl_RX1_32 (fun _ _ => rfl) (by first | assumption | rfl | decide | exact bL hB _ (by decide)) (by first | assumption | rfl | decide | exact bL hB _ (by decide)) ?_
      rw [hc1]
      refine x_icmp_ge (q := 20) (t := 54) C 11 rfl (by decide) rfl (fun c1 => ?_) (fun c1 => ?_)
      · skip
        refine y_aload0 (q := 55) C 34 rfl rfl ?_
        refine y_cV0 (q := 58) C 35 rfl rfl ml_RX1_36 cd_X1_lay cv_X1_lay ⟨by decide, rfl⟩ (by first | assumption | rfl | decide | exact bL hB _ (by decide)) (by decide) (by decide) (Nat.le_of_ble_eq_true rfl) (s_X1_lay (n := n - 1) (by omega) hc1 hB ?_)
        intro I2 hl
        show aj_X G 58 _ _ _ _ _ _ _ _ _
        exact x_return C Z 36 rfl rfl (hK I2 (eqO.tr (hE.mono (by decide)) (hl.1.mono (by decide))) ((hl.2.1 2 (by decide) (by decide)).trans hc1) hl.2.2 (fun k => by rw [hl.1 24 (by decide), hx]; exact aj_if (by omega)) (fun k => by rw [hl.1 40 (by decide), hy]; exact aj_if (by omega)))
      · skip
        exact absurd (nI_le (by omega) (by omega)) c1
    | succ m ih =>
      intro j I1 hj hij hE hk1 hc1 hx hy
      refine y_iload2 (q := 13) C 8 rfl rfl ?_
      refine y_aload0 (q := 14) C 9 rfl rfl ?_
      refine x_getI (q := 17) C 10 rfl rfl fl_RX1_32 (fun _ _ => rfl) (by first | assumption | rfl | decide | exact bL hB _ (by decide)) (by first | assumption | rfl | decide | exact bL hB _ (by decide)) ?_
      rw [hc1]
      refine x_icmp_ge (q := 20) (t := 54) C 11 rfl (by decide) rfl (fun c2 => ?_) (fun c2 => ?_)
      · skip
        exact absurd c2 (nI_ge (by omega) (by omega))
      · skip
        refine y_aload0 (q := 21) C 12 rfl rfl ?_
        refine x_getR (q := 24) C 13 rfl rfl fl_RX1_9 (bv_2_0 hB) (fun _ _ => rfl) (by first | assumption | rfl | decide | exact bL hB _ (by decide)) (by first | assumption | rfl | decide | exact bL hB _ (by decide)) ?_
        refine y_iload2 (q := 25) C 14 rfl rfl ?_
        refine y_aload0 (q := 26) C 15 rfl rfl ?_
        refine x_getR (q := 29) C 16 rfl rfl fl_RX1_9 (bv_2_0 hB) (fun _ _ => rfl) (by first | assumption | rfl | decide | exact bL hB _ (by decide)) (by first | assumption | rfl | decide | exact bL hB _ (by decide)) ?_
        refine y_iload2 (q := 30) C 17 rfl rfl ?_
        refine x_iconst (q := 31) C 18 (n := (1)) (v := nI 1) rfl rfl rfl ?_
        refine x_iadd (q := 32) C 19 rfl rfl ?_
        rw [nI_add]
        refine x_iald (q := 33) C 20 rfl rfl (by first | assumption | rfl | decide | exact bL hB _ (by decide)) (by first | assumption | rfl | decide | exact bL hB _ (by decide)) (by (first | rw [bn24 hB] | rw [bn40 hB] | rw [bn56 hB] | rw [bn72 hB] | rw [bn27 hB] | rw [bn43 hB] | rw [bn25 hB] | rw [bn41 hB] | rw [bn88 hB] | rw [bn104 hB] | rw [bn120 hB] | rw [bn136 hB] | rw [bn152 hB] | rw [bn168 hB]); first | assumption | exact vp_in_nI (by omega) (by decide)) ?_
        rw [nI_clamp (by omega)]
        refine x_iast (q := 34) C 21 rfl rfl (by first | assumption | rfl | decide | exact bL hB _ (by decide)) (by first | assumption | rfl | decide | exact bL hB _ (by decide)) (by (first | rw [bn24 hB] | rw [bn40 hB] | rw [bn56 hB] | rw [bn72 hB] | rw [bn27 hB] | rw [bn43 hB] | rw [bn25 hB] | rw [bn41 hB] | rw [bn88 hB] | rw [bn104 hB] | rw [bn120 hB] | rw [bn136 hB] | rw [bn152 hB] | rw [bn168 hB]); first | assumption | exact vp_in_nI (by omega) (by decide)) ?_
        rw [nI_clamp (by omega)]
        refine y_aload0 (q := 35) C 22 rfl rfl ?_
        refine x_getR (q := 38) C 23 rfl rfl fl_RX1_13 (bv_2_1 hB) (fun _ _ => rfl) (by first | assumption | rfl | decide | exact bL hB _ (by decide)) (by first | assumption | rfl | decide | exact bL hB _ (by decide)) ?_
        refine y_iload2 (q := 39) C 24 rfl rfl ?_
        refine y_aload0 (q := 40) C 25 rfl rfl ?_
        refine x_getR (q := 43) C 26 rfl rfl fl_RX1_13 (bv_2_1 hB) (fun _ _ => rfl) (by first | assumption | rfl | decide | exact bL hB _ (by decide)) (by first | assumption | rfl | decide | exact bL hB _ (by decide)) ?_
        refine y_iload2 (q := 44) C 27 rfl rfl ?_
        refine x_iconst (q := 45) C 28 (n := (1)) (v := nI 1) rfl rfl rfl ?_
        refine x_iadd (q := 46) C 29 rfl rfl ?_
        rw [nI_add]
        refine x_iald (q := 47) C 30 rfl rfl (by first | assumption | rfl | decide | exact bL hB _ (by decide)) (by first | assumption | rfl | decide | exact bL hB _ (by decide)) (by (first | rw [bn24 hB] | rw [bn40 hB] | rw [bn56 hB] | rw [bn72 hB] | rw [bn27 hB] | rw [bn43 hB] | rw [bn25 hB] | rw [bn41 hB] | rw [bn88 hB] | rw [bn104 hB] | rw [bn120 hB] | rw [bn136 hB] | rw [bn152 hB] | rw [bn168 hB]); first | assumption | exact vp_in_nI (by omega) (by decide)) ?_
        rw [nI_clamp (by omega)]
        refine x_iast (q := 48) C 31 rfl rfl (by first | assumption | rfl | decide | exact bL hB _ (by decide)) (by first | assumption | rfl | decide | exact bL hB _ (by decide)) (by (first | rw [bn24 hB] | rw [bn40 hB] | rw [bn56 hB] | rw [bn72 hB] | rw [bn27 hB] | rw [bn43 hB] | rw [bn25 hB] | rw [bn41 hB] | rw [bn88 hB] | rw [bn104 hB] | rw [bn120 hB] | rw [bn136 hB] | rw [bn152 hB] | rw [bn168 hB]); first | assumption | exact vp_in_nI (by omega) (by decide)) ?_
        rw [nI_clamp (by omega)]
        refine y_iinc2 (q := 51) C 32 rfl rfl (nI_1 j) (Nat.le_of_ble_eq_true rfl) rfl ?_
        refine x_goto (t := 12) C 33 rfl (by decide) ?_
        exact ih (j + 1) _ (by omega) (by omega) (eqO.tr hE (eqO.tr (eqO.u (by decide)) (eqO.u (by decide)))) (fun k hk => by rw [aj_u_i _ _ _ (by decide), aj_u_i _ _ _ (by decide)]; exact hk1 k hk) (by rw [aj_u_i _ _ _ (by decide), aj_u_i _ _ _ (by decide)]; exact hc1) (fun k => by
          rw [aj_u_i _ _ _ (by decide)]
          by_cases z : k = j
          · subst z; rw [aj_u_s, hx, if_neg (by omega), if_pos (by omega)]
          · rw [aj_u_k _ _ _ z, hx]; exact aj_if (by omega)) (fun k => by
          by_cases z : k = j
          · subst z; rw [aj_u_s, aj_u_i _ _ _ (by decide), hy, if_neg (by omega), if_pos (by omega)]
          · rw [aj_u_k _ _ _ z, aj_u_i _ _ _ (by decide), hy]; exact aj_if (by omega))
  exact lp12 (n - 1 - i) i _ (by omega) (by omega) (eqO.u (by decide)) (fun k hk => aj_u_k _ _ _ hk) (aj_u_s _ _ _ _) (fun k => by rw [aj_u_i _ _ _ (by decide), if_neg (by omega)]) (fun k => by rw [aj_u_i _ _ _ (by decide), if_neg (by omega)])
set_option maxRecDepth 100000 in
set_option maxHeartbeats 800000 in
theorem s_X1_moveTo {l : Launch} {I : Nat → Nat → Int32} {J : Nat → Nat → Int64} {V : Nat → Nat → Option Nat} {N : Nat → Nat} {L : List Nat} {K : aj_K} {n i : Nat} {x y : Int32} (hi : i < 13) (hn : n ≤ 12) (hc : I 18 2 = nI n) (hf : fW I n) (hB : bV V N L) (hK : ∀ I1 : Nat → Nat → Int32, eqO [18, 24, 40, 56, 72, 179, 195] I I1 → I1 18 2 = nI n → fW I1 n → (∀ k, I1 24 k = if k = i then x else I 24 k) → (∀ k, I1 40 k = if k = i then y else I 40 k) → K (.inl (some (.int (bI (!(decide (I 24 i = x) && decide (I 40 i = y))))))) I1 J V N L) : aj_M l yX1_moveTo (aj_wc yX1_moveTo cX1_moveTo 4 (some .boolean)) (aj_rm 5 0 0) [] [.ref 18, .int (nI i), .int x, .int y] I J V N L K := by
  refine aj_intro (tbl := t_X1_moveTo) (lv0 := [some (.ref 18), some (.int (nI i)), some (.int x), some (.int y)]) (by decide) T_X1_moveTo aj_f0 (Nat.le_of_ble_eq_true rfl) rfl ?_
  intro G hl C Z NX hnm hGL hGF
  have C : aj_C G cX1_moveTo t_X1_moveTo RX1 (aj_rm 5 0 0) 4 := C
  refine y_aload0 (q := 1) C 0 rfl rfl ?_
  refine x_getR (q := 4) C 1 rfl rfl fl_RX1_9 (bv_2_0 hB) (fun _ _ => rfl) (by first | assumption | rfl | decide | exact bL hB _ (by decide)) (by first | assumption | rfl | decide | exact bL hB _ (by decide)) ?_
  refine y_iload1 (q := 5) C 2 rfl rfl ?_
  refine x_iald (q := 6) C 3 rfl rfl (by first | assumption | rfl | decide | exact bL hB _ (by decide)) (by first | assumption | rfl | decide | exact bL hB _ (by decide)) (by (first | rw [bn24 hB] | rw [bn40 hB] | rw [bn56 hB] | rw [bn72 hB] | rw [bn27 hB] | rw [bn43 hB] | rw [bn25 hB] | rw [bn41 hB] | rw [bn88 hB] | rw [bn104 hB] | rw [bn120 hB] | rw [bn136 hB] | rw [bn152 hB] | rw [bn168 hB]); first | assumption | exact vp_in_nI (by omega) (by decide)) ?_
  rw [nI_clamp (by omega)]
  refine y_iload2 (q := 7) C 4 rfl rfl ?_
  refine x_icmp_ne (q := 10) (t := 22) C 5 rfl (by decide) rfl (fun c1 => ?_) (fun c1 => ?_)
  · skip
    refine y_aload0 (q := 23) C 14 rfl rfl ?_
    refine x_getR (q := 26) C 15 rfl rfl fl_RX1_9 (bv_2_0 hB) (fun _ _ => rfl) (by first | assumption | rfl | decide | exact bL hB _ (by decide)) (by first | assumption | rfl | decide | exact bL hB _ (by decide)) ?_
    refine y_iload1 (q := 27) C 16 rfl rfl ?_
    refine y_iload2 (q := 28) C 17 rfl rfl ?_
    refine x_iast (q := 29) C 18 rfl rfl (by first | assumption | rfl | decide | exact bL hB _ (by decide)) (by first | assumption | rfl | decide | exact bL hB _ (by decide)) (by (first | rw [bn24 hB] | rw [bn40 hB] | rw [bn56 hB] | rw [bn72 hB] | rw [bn27 hB] | rw [bn43 hB] | rw [bn25 hB] | rw [bn41 hB] | rw [bn88 hB] | rw [bn104 hB] | rw [bn120 hB] | rw [bn136 hB] | rw [bn152 hB] | rw [bn168 hB]); first | assumption | exact vp_in_nI (by omega) (by decide)) ?_
    rw [nI_clamp (by omega)]
    refine y_aload0 (q := 30) C 19 rfl rfl ?_
    refine x_getR (q := 33) C 20 rfl rfl fl_RX1_13 (bv_2_1 hB) (fun _ _ => rfl) (by first | assumption | rfl | decide | exact bL hB _ (by decide)) (by first | assumption | rfl | decide | exact bL hB _ (by decide)) ?_
    refine y_iload1 (q := 34) C 21 rfl rfl ?_
    refine y_iload3 (q := 35) C 22 rfl rfl ?_
    refine x_iast (q := 36) C 23 rfl rfl (by first | assumption | rfl | decide | exact bL hB _ (by decide)) (by first | assumption | rfl | decide | exact bL hB _ (by decide)) (by (first | rw [bn24 hB] | rw [bn40 hB] | rw [bn56 hB] | rw [bn72 hB] | rw [bn27 hB] | rw [bn43 hB] | rw [bn25 hB] | rw [bn41 hB] | rw [bn88 hB] | rw [bn104 hB] | rw [bn120 hB] | rw [bn136 hB] | rw [bn152 hB] | rw [bn168 hB]); first | assumption | exact vp_in_nI (by omega) (by decide)) ?_
    rw [nI_clamp (by omega)]
    refine y_aload0 (q := 37) C 24 rfl rfl ?_
    refine y_cV0 (q := 40) C 25 rfl rfl ml_RX1_36 cd_X1_lay cv_X1_lay ⟨by decide, rfl⟩ (by first | assumption | rfl | decide | exact bL hB _ (by decide)) (by decide) (by decide) (Nat.le_of_ble_eq_true rfl) (s_X1_lay hn (by rw [aj_u_i _ _ _ (by decide), aj_u_i _ _ _ (by decide)]; exact hc) hB ?_)
    intro I1 hl
    show aj_X G 40 _ _ _ _ _ _ _ _ _
    refine x_iconst (q := 41) C 26 (n := (1)) (v := (1)) rfl rfl rfl ?_
    exact x_ireturn C Z 27 rfl rfl (by first | rfl | exact bI_nar _) (aj_lf (hK I1 (eqO.tr (eqO.tr (eqO.u (by decide)) (eqO.u (by decide))) (hl.1.mono (by decide))) ((hl.2.1 2 (by decide) (by decide)).trans (by rw [aj_u_i _ _ _ (by decide), aj_u_i _ _ _ (by decide)]; exact hc)) hl.2.2 (fun k => by rw [hl.1 24 (by decide), aj_u_i _ _ _ (by decide)]; rw [aj_u_if]) (fun k => by rw [hl.1 40 (by decide)]; rw [aj_u_if, aj_u_i _ _ _ (by decide)])) (by rw [decide_eq_false (by assumption : ¬ I 24 i = x)]; rfl))
  · skip
    refine y_aload0 (q := 11) C 6 rfl rfl ?_
    refine x_getR (q := 14) C 7 rfl rfl fl_RX1_13 (bv_2_1 hB) (fun _ _ => rfl) (by first | assumption | rfl | decide | exact bL hB _ (by decide)) (by first | assumption | rfl | decide | exact bL hB _ (by decide)) ?_
    refine y_iload1 (q := 15) C 8 rfl rfl ?_
    refine x_iald (q := 16) C 9 rfl rfl (by first | assumption | rfl | decide | exact bL hB _ (by decide)) (by first | assumption | rfl | decide | exact bL hB _ (by decide)) (by (first | rw [bn24 hB] | rw [bn40 hB] | rw [bn56 hB] | rw [bn72 hB] | rw [bn27 hB] | rw [bn43 hB] | rw [bn25 hB] | rw [bn41 hB] | rw [bn88 hB] | rw [bn104 hB] | rw [bn120 hB] | rw [bn136 hB] | rw [bn152 hB] | rw [bn168 hB]); first | assumption | exact vp_in_nI (by omega) (by decide)) ?_
    rw [nI_clamp (by omega)]
    refine y_iload3 (q := 17) C 10 rfl rfl ?_
    refine x_icmp_ne (q := 20) (t := 22) C 11 rfl (by decide) rfl (fun c2 => ?_) (fun c2 => ?_)
    · skip
      refine y_aload0 (q := 23) C 14 rfl rfl ?_
      refine x_getR (q := 26) C 15 rfl rfl fl_RX1_9 (bv_2_0 hB) (fun _ _ => rfl) (by first | assumption | rfl | decide | exact bL hB _ (by decide)) (by first | assumption | rfl | decide | exact bL hB _ (by decide)) ?_
      refine y_iload1 (q := 27) C 16 rfl rfl ?_
      refine y_iload2 (q := 28) C 17 rfl rfl ?_
      refine x_iast (q := 29) C 18 rfl rfl (by first | assumption | rfl | decide | exact bL hB _ (by decide)) (by first | assumption | rfl | decide | exact bL hB _ (by decide)) (by (first | rw [bn24 hB] | rw [bn40 hB] | rw [bn56 hB] | rw [bn72 hB] | rw [bn27 hB] | rw [bn43 hB] | rw [bn25 hB] | rw [bn41 hB] | rw [bn88 hB] | rw [bn104 hB] | rw [bn120 hB] | rw [bn136 hB] | rw [bn152 hB] | rw [bn168 hB]); first | assumption | exact vp_in_nI (by omega) (by decide)) ?_
      rw [nI_clamp (by omega)]
      refine y_aload0 (q := 30) C 19 rfl rfl ?_
      refine x_getR (q := 33) C 20 rfl rfl fl_RX1_13 (bv_2_1 hB) (fun _ _ => rfl) (by first | assumption | rfl | decide | exact bL hB _ (by decide)) (by first | assumption | rfl | decide | exact bL hB _ (by decide)) ?_
      refine y_iload1 (q := 34) C 21 rfl rfl ?_
      refine y_iload3 (q := 35) C 22 rfl rfl ?_
      refine x_iast (q := 36) C 23 rfl rfl (by first | assumption | rfl | decide | exact bL hB _ (by decide)) (by first | assumption | rfl | decide | exact bL hB _ (by decide)) (by (first | rw [bn24 hB] | rw [bn40 hB] | rw [bn56 hB] | rw [bn72 hB] | rw [bn27 hB] | rw [bn43 hB] | rw [bn25 hB] | rw [bn41 hB] | rw [bn88 hB] | rw [bn104 hB] | rw [bn120 hB] | rw [bn136 hB] | rw [bn152 hB] | rw [bn168 hB]); first | assumption | exact vp_in_nI (by omega) (by decide)) ?_
      rw [nI_clamp (by omega)]
      refine y_aload0 (q := 37) C 24 rfl rfl ?_
      refine y_cV0 (q := 40) C 25 rfl rfl ml_RX1_36 cd_X1_lay cv_X1_lay ⟨by decide, rfl⟩ (by first | assumption | rfl | decide | exact bL hB _ (by decide)) (by decide) (by decide) (Nat.le_of_ble_eq_true rfl) (s_X1_lay hn (by rw [aj_u_i _ _ _ (by decide), aj_u_i _ _ _ (by decide)]; exact hc) hB ?_)
      intro I1 hl
      show aj_X G 40 _ _ _ _ _ _ _ _ _
      refine x_iconst (q := 41) C 26 (n := (1)) (v := (1)) rfl rfl rfl ?_
      exact x_ireturn C Z 27 rfl rfl (by first | rfl | exact bI_nar _) (aj_lf (hK I1 (eqO.tr (eqO.tr (eqO.u (by decide)) (eqO.u (by decide))) (hl.1.mono (by decide))) ((hl.2.1 2 (by decide) (by decide)).trans (by rw [aj_u_i _ _ _ (by decide), aj_u_i _ _ _ (by decide)]; exact hc)) hl.2.2 (fun k => by rw [hl.1 24 (by decide), aj_u_i _ _ _ (by decide)]; rw [aj_u_if]) (fun k => by rw [hl.1 40 (by decide)]; rw [aj_u_if, aj_u_i _ _ _ (by decide)])) (by rw [decide_eq_false (by assumption : ¬ I 40 i = y), Bool.and_false]; rfl))
    · skip
      refine x_iconst (q := 21) C 12 (n := (0)) (v := (0)) rfl rfl rfl ?_
      exact x_ireturn C Z 13 rfl rfl (by first | rfl | exact bI_nar _) (aj_lf (hK I (eqO.rf) hc hf (aj_same (by assumption)) (aj_same (by assumption))) (by rw [decide_eq_true (by assumption : I 24 i = x), decide_eq_true (by assumption : I 40 i = y)]; rfl))
set_option maxRecDepth 100000 in
set_option maxHeartbeats 800000 in
theorem s_X1_turnAll {l : Launch} {I : Nat → Nat → Int32} {J : Nat → Nat → Int64} {V : Nat → Nat → Option Nat} {N : Nat → Nat} {L : List Nat} {K : aj_K} {n : Nat} (hn : n ≤ 12) (hc : I 18 2 = nI n) (hB : bV V N L) (hK : ∀ I1 : Nat → Nat → Int32, eqO [18, 24, 40, 56, 72, 179, 195] I I1 → I1 18 2 = nI n → fW I1 n → (∀ k, I1 24 k = if k < 13 then -1 - I 40 k else I 24 k) → (∀ k, I1 40 k = if k < 13 then I 24 k else I 40 k) → K (.inl none) I1 J V N L) : aj_M l yX1_turnAll (aj_wc yX1_turnAll cX1_turnAll 3 none) (aj_rm 5 0 0) [] [.ref 18] I J V N L K := by
  refine aj_intro (tbl := t_X1_turnAll) (lv0 := [some (.ref 18), none, none]) (by decide) T_X1_turnAll aj_f0 (Nat.le_of_ble_eq_true rfl) rfl ?_
  intro G hl C Z NX hnm hGL hGF
  have C : aj_C G cX1_turnAll t_X1_turnAll RX1 (aj_rm 5 0 0) 3 := C
  refine x_iconst (q := 1) C 0 (n := (0)) (v := nI 0) rfl rfl rfl ?_
  refine y_istore1 (q := 2) C 1 rfl rfl (Nat.le_of_ble_eq_true rfl) rfl ?_
  have lp2 : ∀ (m j : Nat) (I1 : Nat → Nat → Int32) (z2 : Option Value), j + m = 13 → eqO [24, 40] I I1 → (∀ k, I1 24 k = if k < j then -1 - I 40 k else I 24 k) → (∀ k, I1 40 k = if k < j then I 24 k else I 40 k) → aj_X G 2 [some (.ref 18), some (.int (nI j)), z2] [] I1 J V N L 0 0 := by
    intro m
    induction m with
    | zero =>
      intro j I1 z2 hj hE hx hy
      refine y_iload1 (q := 3) C 2 rfl rfl ?_
      refine x_bipush (q := 5) C 3 (n := (12)) (v := nI 12) rfl rfl rfl ?_
      refine x_icmp_gt (q := 8) (t := 42) C 4 rfl (by decide) rfl (fun c1 => ?_) (fun c1 => ?_)
      · skip
        refine y_aload0 (q := 43) C 27 rfl rfl ?_
        refine y_cV0 (q := 46) C 28 rfl rfl ml_RX1_36 cd_X1_lay cv_X1_lay ⟨by decide, rfl⟩ (by first | assumption | rfl | decide | exact bL hB _ (by decide)) (by decide) (by decide) (Nat.le_of_ble_eq_true rfl) (s_X1_lay hn (by rw [hE 18 (by decide)]; exact hc) hB ?_)
        intro I2 hl
        show aj_X G 46 _ _ _ _ _ _ _ _ _
        exact x_return C Z 29 rfl rfl (hK I2 (eqO.tr (hE.mono (by decide)) (hl.1.mono (by decide))) ((hl.2.1 2 (by decide) (by decide)).trans (by rw [hE 18 (by decide)]; exact hc)) hl.2.2 (fun k => by rw [hl.1 24 (by decide), hx, show j = 13 by omega]) (fun k => by rw [hl.1 40 (by decide), hy, show j = 13 by omega]))
      · skip
        exact absurd (nI_lt (a := 12) (by omega) (by omega)) c1
    | succ m ih =>
      intro j I1 z2 hj hE hx hy
      refine y_iload1 (q := 3) C 2 rfl rfl ?_
      refine x_bipush (q := 5) C 3 (n := (12)) (v := nI 12) rfl rfl rfl ?_
      refine x_icmp_gt (q := 8) (t := 42) C 4 rfl (by decide) rfl (fun c2 => ?_) (fun c2 => ?_)
      · skip
        exact absurd c2 (nI_nlt (by omega) (by omega))
      · skip
        refine y_aload0 (q := 9) C 5 rfl rfl ?_
        refine x_getR (q := 12) C 6 rfl rfl fl_RX1_9 (bv_2_0 hB) (fun _ _ => rfl) (by first | assumption | rfl | decide | exact bL hB _ (by decide)) (by first | assumption | rfl | decide | exact bL hB _ (by decide)) ?_
        refine y_iload1 (q := 13) C 7 rfl rfl ?_
        refine x_iald (q := 14) C 8 rfl rfl (by first | assumption | rfl | decide | exact bL hB _ (by decide)) (by first | assumption | rfl | decide | exact bL hB _ (by decide)) (by (first | rw [bn24 hB] | rw [bn40 hB] | rw [bn56 hB] | rw [bn72 hB] | rw [bn27 hB] | rw [bn43 hB] | rw [bn25 hB] | rw [bn41 hB] | rw [bn88 hB] | rw [bn104 hB] | rw [bn120 hB] | rw [bn136 hB] | rw [bn152 hB] | rw [bn168 hB]); first | assumption | exact vp_in_nI (by omega) (by decide)) ?_
        rw [nI_clamp (by omega)]
        refine y_istore2 (q := 15) C 9 rfl rfl (Nat.le_of_ble_eq_true rfl) rfl ?_
        refine y_aload0 (q := 16) C 10 rfl rfl ?_
        refine x_getR (q := 19) C 11 rfl rfl fl_RX1_9 (bv_2_0 hB) (fun _ _ => rfl) (by first | assumption | rfl | decide | exact bL hB _ (by decide)) (by first | assumption | rfl | decide | exact bL hB _ (by decide)) ?_
        refine y_iload1 (q := 20) C 12 rfl rfl ?_
        refine x_iconst (q := 21) C 13 (n := (-1)) (v := (-1)) rfl rfl rfl ?_
        refine y_aload0 (q := 22) C 14 rfl rfl ?_
        refine x_getR (q := 25) C 15 rfl rfl fl_RX1_13 (bv_2_1 hB) (fun _ _ => rfl) (by first | assumption | rfl | decide | exact bL hB _ (by decide)) (by first | assumption | rfl | decide | exact bL hB _ (by decide)) ?_
        refine y_iload1 (q := 26) C 16 rfl rfl ?_
        refine x_iald (q := 27) C 17 rfl rfl (by first | assumption | rfl | decide | exact bL hB _ (by decide)) (by first | assumption | rfl | decide | exact bL hB _ (by decide)) (by (first | rw [bn24 hB] | rw [bn40 hB] | rw [bn56 hB] | rw [bn72 hB] | rw [bn27 hB] | rw [bn43 hB] | rw [bn25 hB] | rw [bn41 hB] | rw [bn88 hB] | rw [bn104 hB] | rw [bn120 hB] | rw [bn136 hB] | rw [bn152 hB] | rw [bn168 hB]); first | assumption | exact vp_in_nI (by omega) (by decide)) ?_
        rw [nI_clamp (by omega)]
        refine x_isub (q := 28) C 18 rfl rfl ?_
        refine x_iast (q := 29) C 19 rfl rfl (by first | assumption | rfl | decide | exact bL hB _ (by decide)) (by first | assumption | rfl | decide | exact bL hB _ (by decide)) (by (first | rw [bn24 hB] | rw [bn40 hB] | rw [bn56 hB] | rw [bn72 hB] | rw [bn27 hB] | rw [bn43 hB] | rw [bn25 hB] | rw [bn41 hB] | rw [bn88 hB] | rw [bn104 hB] | rw [bn120 hB] | rw [bn136 hB] | rw [bn152 hB] | rw [bn168 hB]); first | assumption | exact vp_in_nI (by omega) (by decide)) ?_
        rw [nI_clamp (by omega)]
        refine y_aload0 (q := 30) C 20 rfl rfl ?_
        refine x_getR (q := 33) C 21 rfl rfl fl_RX1_13 (bv_2_1 hB) (fun _ _ => rfl) (by first | assumption | rfl | decide | exact bL hB _ (by decide)) (by first | assumption | rfl | decide | exact bL hB _ (by decide)) ?_
        refine y_iload1 (q := 34) C 22 rfl rfl ?_
        refine y_iload2 (q := 35) C 23 rfl rfl ?_
        refine x_iast (q := 36) C 24 rfl rfl (by first | assumption | rfl | decide | exact bL hB _ (by decide)) (by first | assumption | rfl | decide | exact bL hB _ (by decide)) (by (first | rw [bn24 hB] | rw [bn40 hB] | rw [bn56 hB] | rw [bn72 hB] | rw [bn27 hB] | rw [bn43 hB] | rw [bn25 hB] | rw [bn41 hB] | rw [bn88 hB] | rw [bn104 hB] | rw [bn120 hB] | rw [bn136 hB] | rw [bn152 hB] | rw [bn168 hB]); first | assumption | exact vp_in_nI (by omega) (by decide)) ?_
        rw [nI_clamp (by omega)]
        refine y_iinc1 (q := 39) C 25 rfl rfl (nI_1 j) (Nat.le_of_ble_eq_true rfl) rfl ?_
        refine x_goto (t := 2) C 26 rfl (by decide) ?_
        exact ih (j + 1) _ _ (by omega) (eqO.tr hE (eqO.tr (eqO.u (by decide)) (eqO.u (by decide)))) (fun k => by
          rw [aj_u_i _ _ _ (by decide)]
          by_cases z : k = j
          · subst z; rw [aj_u_s, if_pos (by omega), hy, if_neg (by omega)]
          · rw [aj_u_k _ _ _ z, hx]; exact aj_if (by omega)) (fun k => by
          by_cases z : k = j
          · subst z; rw [aj_u_s, if_pos (by omega), hx, if_neg (by omega)]
          · rw [aj_u_k _ _ _ z, aj_u_i _ _ _ (by decide), hy]; exact aj_if (by omega))
  exact lp2 13 0 _ _ (by omega) eqO.rf (fun k => (if_neg (Nat.not_lt_zero k)).symm) (fun k => (if_neg (Nat.not_lt_zero k)).symm)
set_option maxRecDepth 100000 in
set_option maxHeartbeats 800000 in
theorem s_X1_mirrorAll {l : Launch} {I : Nat → Nat → Int32} {J : Nat → Nat → Int64} {V : Nat → Nat → Option Nat} {N : Nat → Nat} {L : List Nat} {K : aj_K} {n : Nat} (hn : n ≤ 12) (hc : I 18 2 = nI n) (hB : bV V N L) (hK : ∀ I1 : Nat → Nat → Int32, eqO [18, 24, 40, 56, 72, 179, 195] I I1 → I1 18 2 = nI n → fW I1 n → (∀ k, I1 24 k = if k < 13 then -1 - I 24 k else I 24 k) → (∀ k, I1 40 k = I 40 k) → K (.inl none) I1 J V N L) : aj_M l yX1_mirrorAll (aj_wc yX1_mirrorAll cX1_mirrorAll 2 none) (aj_rm 5 0 0) [] [.ref 18] I J V N L K := by
  refine aj_intro (tbl := t_X1_mirrorAll) (lv0 := [some (.ref 18), none]) (by decide) T_X1_mirrorAll aj_f0 (Nat.le_of_ble_eq_true rfl) rfl ?_
  intro G hl C Z NX hnm hGL hGF
  have C : aj_C G cX1_mirrorAll t_X1_mirrorAll RX1 (aj_rm 5 0 0) 2 := C
  refine x_iconst (q := 1) C 0 (n := (0)) (v := nI 0) rfl rfl rfl ?_
  refine y_istore1 (q := 2) C 1 rfl rfl (Nat.le_of_ble_eq_true rfl) rfl ?_
  have lp2 : ∀ (m j : Nat) (I1 : Nat → Nat → Int32), j + m = 13 → eqO [24, 40] I I1 → (∀ k, I1 24 k = if k < j then -1 - I 24 k else I 24 k) → (∀ k, I1 40 k = I 40 k) → aj_X G 2 [some (.ref 18), some (.int (nI j))] [] I1 J V N L 0 0 := by
    intro m
    induction m with
    | zero =>
      intro j I1 hj hE hx hy
      refine y_iload1 (q := 3) C 2 rfl rfl ?_
      refine x_bipush (q := 5) C 3 (n := (12)) (v := nI 12) rfl rfl rfl ?_
      refine x_icmp_gt (q := 8) (t := 28) C 4 rfl (by decide) rfl (fun c1 => ?_) (fun c1 => ?_)
      · skip
        refine y_aload0 (q := 29) C 17 rfl rfl ?_
        refine y_cV0 (q := 32) C 18 rfl rfl ml_RX1_36 cd_X1_lay cv_X1_lay ⟨by decide, rfl⟩ (by first | assumption | rfl | decide | exact bL hB _ (by decide)) (by decide) (by decide) (Nat.le_of_ble_eq_true rfl) (s_X1_lay hn (by rw [hE 18 (by decide)]; exact hc) hB ?_)
        intro I2 hl
        show aj_X G 32 _ _ _ _ _ _ _ _ _
        exact x_return C Z 19 rfl rfl (hK I2 (eqO.tr (hE.mono (by decide)) (hl.1.mono (by decide))) ((hl.2.1 2 (by decide) (by decide)).trans (by rw [hE 18 (by decide)]; exact hc)) hl.2.2 (fun k => by rw [hl.1 24 (by decide), hx, show j = 13 by omega]) (fun k => by rw [hl.1 40 (by decide), hy]))
      · skip
        exact absurd (nI_lt (a := 12) (by omega) (by omega)) c1
    | succ m ih =>
      intro j I1 hj hE hx hy
      refine y_iload1 (q := 3) C 2 rfl rfl ?_
      refine x_bipush (q := 5) C 3 (n := (12)) (v := nI 12) rfl rfl rfl ?_
      refine x_icmp_gt (q := 8) (t := 28) C 4 rfl (by decide) rfl (fun c2 => ?_) (fun c2 => ?_)
      · skip
        exact absurd c2 (nI_nlt (by omega) (by omega))
      · skip
        refine y_aload0 (q := 9) C 5 rfl rfl ?_
        refine x_getR (q := 12) C 6 rfl rfl fl_RX1_9 (bv_2_0 hB) (fun _ _ => rfl) (by first | assumption | rfl | decide | exact bL hB _ (by decide)) (by first | assumption | rfl | decide | exact bL hB _ (by decide)) ?_
        refine y_iload1 (q := 13) C 7 rfl rfl ?_
        refine x_iconst (q := 14) C 8 (n := (-1)) (v := (-1)) rfl rfl rfl ?_
        refine y_aload0 (q := 15) C 9 rfl rfl ?_
        refine x_getR (q := 18) C 10 rfl rfl fl_RX1_9 (bv_2_0 hB) (fun _ _ => rfl) (by first | assumption | rfl | decide | exact bL hB _ (by decide)) (by first | assumption | rfl | decide | exact bL hB _ (by decide)) ?_
        refine y_iload1 (q := 19) C 11 rfl rfl ?_
        refine x_iald (q := 20) C 12 rfl rfl (by first | assumption | rfl | decide | exact bL hB _ (by decide)) (by first | assumption | rfl | decide | exact bL hB _ (by decide)) (by (first | rw [bn24 hB] | rw [bn40 hB] | rw [bn56 hB] | rw [bn72 hB] | rw [bn27 hB] | rw [bn43 hB] | rw [bn25 hB] | rw [bn41 hB] | rw [bn88 hB] | rw [bn104 hB] | rw [bn120 hB] | rw [bn136 hB] | rw [bn152 hB] | rw [bn168 hB]); first | assumption | exact vp_in_nI (by omega) (by decide)) ?_
        rw [nI_clamp (by omega)]
        refine x_isub (q := 21) C 13 rfl rfl ?_
        refine x_iast (q := 22) C 14 rfl rfl (by first | assumption | rfl | decide | exact bL hB _ (by decide)) (by first | assumption | rfl | decide | exact bL hB _ (by decide)) (by (first | rw [bn24 hB] | rw [bn40 hB] | rw [bn56 hB] | rw [bn72 hB] | rw [bn27 hB] | rw [bn43 hB] | rw [bn25 hB] | rw [bn41 hB] | rw [bn88 hB] | rw [bn104 hB] | rw [bn120 hB] | rw [bn136 hB] | rw [bn152 hB] | rw [bn168 hB]); first | assumption | exact vp_in_nI (by omega) (by decide)) ?_
        rw [nI_clamp (by omega)]
        refine y_iinc1 (q := 25) C 15 rfl rfl (nI_1 j) (Nat.le_of_ble_eq_true rfl) rfl ?_
        refine x_goto (t := 2) C 16 rfl (by decide) ?_
        exact ih (j + 1) _ (by omega) (eqO.tr hE (eqO.u (by decide))) (fun k => by
          by_cases z : k = j
          · subst z; rw [aj_u_s, if_pos (by omega), hx, if_neg (by omega)]
          · rw [aj_u_k _ _ _ z, hx]; exact aj_if (by omega)) (fun k => by rw [aj_u_i _ _ _ (by decide)]; exact hy k)
  exact lp2 13 0 _ (by omega) eqO.rf (fun k => (if_neg (Nat.not_lt_zero k)).symm) (fun k => rfl)
