set_option maxRecDepth 100000 in
set_option maxHeartbeats 800000 in
theorem s_X3_addPlace {l : Launch} {I : Nat → Nat → Int32} {J : Nat → Nat → Int64} {V : Nat → Nat → Option Nat} {N : Nat → Nat} {L : List Nat} {K : aj_K} {x y : Int32} {n : Nat} (hn : n ≤ 12) (hc : I 18 2 = nI n) (hB : bV V N L) (hXA : ¬ ((-64 ≤ x ∧ x ≤ 63) ∧ (-64 ≤ y ∧ y ≤ 63)) → K (.inr "java/lang/IllegalArgumentException") I J V N L) (hR : -64 ≤ x → x ≤ 63 → -64 ≤ y → y ≤ 63 → (n = 12 ∨ ∃ j, j < n ∧ I 24 j = x ∧ I 40 j = y) → K (.inl (some (.int (-9)))) (stR I) J V N L) (hK : -64 ≤ x → x ≤ 63 → -64 ≤ y → y ≤ 63 → n < 12 → (∀ j, j < n → ¬ (I 24 j = x ∧ I 40 j = y)) → ∀ I1, fA I I1 (n + 1) (fun k => if k = n then x else I 24 k) (fun k => if k = n then y else I 40 k) → K (.inl (some (.int (nI n)))) I1 J V N L) : aj_M l yX3_addPlace (aj_wc yX3_addPlace cX3_addPlace 3 (some .int)) (aj_rm 6 2 12) [] [.ref 20, .int x, .int y] I J V N L K := by
  refine aj_intro (tbl := t_X3_addPlace) (lv0 := [some (.ref 20), some (.int x), some (.int y)]) (by decide) T_X3_addPlace aj_f0 (Nat.le_of_ble_eq_true rfl) rfl ?_
  intro G hl C Z NX hnm hGL hGF
  have C : aj_C G cX3_addPlace t_X3_addPlace RX3 (aj_rm 6 2 12) 3 := C
  refine y_iload1 (q := 1) C 0 rfl rfl ?_
  refine y_iload2 (q := 2) C 1 rfl rfl ?_
  refine y_dS2 (q := 5) C 2 rfl rfl ml_RX3_137 cd_X3_checkSpot sv_X3_checkSpot (by decide) (by decide) (Nat.le_of_ble_eq_true rfl) (bc' := 0) (bs' := 0) rfl rfl (s_X3_checkSpot (fun h1 h2 h3 h4 => ?_) (fun hn => x_out C Z NX (hXA hn)))
  show aj_X G 5 _ _ _ _ _ _ _ _ _
  refine y_aload0 (q := 6) C 3 rfl rfl ?_
  refine x_getR (q := 9) C 4 rfl rfl fl_RX3_33 (bv_4_5 hB) (fun _ _ => rfl) (by first | assumption | rfl | decide | exact bL hB _ (by decide) | exact vc3 hB (by omega) | exact vcL hB (by omega)) (by first | assumption | rfl | decide | exact bL hB _ (by decide) | exact vc3 hB (by omega) | exact vcL hB (by omega)) ?_
  refine x_getI (q := 12) C 5 rfl rfl fl_RX3_141 (fun _ _ => rfl) (by first | assumption | rfl | decide | exact bL hB _ (by decide) | exact vc3 hB (by omega) | exact vcL hB (by omega)) (by first | assumption | rfl | decide | exact bL hB _ (by decide) | exact vc3 hB (by omega) | exact vcL hB (by omega)) ?_
  rw [hc]
  refine x_bipush (q := 14) C 6 (n := (12)) (v := (12)) rfl rfl rfl ?_
  refine x_icmp_eq (q := 17) (t := 29) C 7 rfl (by decide) rfl (fun c1 => ?_) (fun c1 => ?_)
  · skip
    refine y_aload0 (q := 30) C 14 rfl rfl ?_
    refine y_cV0 (q := 33) C 15 rfl rfl ml_RX3_96 cd_X3_refuse cv_X3_refuse ⟨by decide, rfl⟩ (by first | assumption | rfl | decide | exact bL hB _ (by decide) | exact vc3 hB (by omega) | exact vcL hB (by omega)) (by decide) (by decide) (Nat.le_of_ble_eq_true rfl) (s_X3_refuse (by first | assumption | rfl | decide | exact bL hB _ (by decide) | exact vc3 hB (by omega) | exact vcL hB (by omega)) ?_)
    show aj_X G 33 _ _ _ _ _ _ _ _ _
    exact x_ireturn C Z 16 rfl rfl rfl (hR h1 h2 h3 h4 (Or.inl ((nI12 hn).mp (by assumption))))
  · skip
    have hn12 : n < 12 := by
      rcases Nat.lt_or_ge n 12 with w | w
      · exact w
      · exact absurd ((nI12 hn).mpr (by omega)) (by assumption)
    refine y_aload0 (q := 18) C 8 rfl rfl ?_
    refine x_getR (q := 21) C 9 rfl rfl fl_RX3_33 (bv_4_5 hB) (fun _ _ => rfl) (by first | assumption | rfl | decide | exact bL hB _ (by decide) | exact vc3 hB (by omega) | exact vcL hB (by omega)) (by first | assumption | rfl | decide | exact bL hB _ (by decide) | exact vc3 hB (by omega) | exact vcL hB (by omega)) ?_
    refine y_iload1 (q := 22) C 10 rfl rfl ?_
    refine y_iload2 (q := 23) C 11 rfl rfl ?_
    refine y_cV2 (q := 26) C 12 rfl rfl ml_RX3_144 cd_X1_numberAt cv_X1_numberAt ⟨by decide, rfl⟩ (by first | assumption | rfl | decide | exact bL hB _ (by decide) | exact vc3 hB (by omega) | exact vcL hB (by omega)) (by decide) (by decide) (Nat.le_of_ble_eq_true rfl) (s_X1_numberAt hn hc hB ?_)
    intro r hr
    show aj_X G 26 _ _ _ _ _ _ _ _ _
    refine x_if_lt (q := 29) (t := 34) C 13 rfl (by decide) rfl (fun c2 => ?_) (fun c2 => ?_)
    · skip
      refine y_aload0 (q := 35) C 17 rfl rfl ?_
      refine x_dupr (q := 36) C 18 rfl rfl ?_
      refine x_getI (q := 39) C 19 rfl rfl fl_RX3_148 (fun _ _ => rfl) (by first | assumption | rfl | decide | exact bL hB _ (by decide) | exact vc3 hB (by omega) | exact vcL hB (by omega)) (by first | assumption | rfl | decide | exact bL hB _ (by decide) | exact vc3 hB (by omega) | exact vcL hB (by omega)) ?_
      refine x_iconst (q := 40) C 20 (n := (1)) (v := (1)) rfl rfl rfl ?_
      refine x_iadd (q := 41) C 21 rfl rfl ?_
      refine x_putI (q := 44) C 22 rfl rfl fl_RX3_148 rfl rfl (by first | assumption | rfl | decide | exact bL hB _ (by decide) | exact vc3 hB (by omega) | exact vcL hB (by omega)) (by first | assumption | rfl | decide | exact bL hB _ (by decide) | exact vc3 hB (by omega) | exact vcL hB (by omega)) ?_
      refine y_aload0 (q := 45) C 23 rfl rfl ?_
      refine x_getR (q := 48) C 24 rfl rfl fl_RX3_33 (bv_4_5 hB) (fun _ _ => rfl) (by first | assumption | rfl | decide | exact bL hB _ (by decide) | exact vc3 hB (by omega) | exact vcL hB (by omega)) (by first | assumption | rfl | decide | exact bL hB _ (by decide) | exact vc3 hB (by omega) | exact vcL hB (by omega)) ?_
      refine y_iload1 (q := 49) C 25 rfl rfl ?_
      refine y_iload2 (q := 50) C 26 rfl rfl ?_
      refine y_cV2 (q := 53) C 27 rfl rfl ml_RX3_151 cd_X1_add cv_X1_add ⟨by decide, rfl⟩ (by first | assumption | rfl | decide | exact bL hB _ (by decide) | exact vc3 hB (by omega) | exact vcL hB (by omega)) (by decide) (by decide) (Nat.le_of_ble_eq_true rfl) (s_X1_add (n := n) (by omega) (by rw [aj_u_i _ _ _ (by decide)]; exact hc) hB ?_)
      intro I1 hE hc1 hw hx hy
      show aj_X G 53 _ _ _ _ _ _ _ _ _
      exact x_ireturn C Z 28 rfl rfl rfl (hK h1 h2 h3 h4 hn12 (hr.elim (fun ⟨j, a1, a2, a3, a4, a5⟩ => absurd (by assumption : r < 0) (by rw [a2]; exact nI_pos (by omega))) (fun z => z.2)) I1 (fA.of hE hc1 hw (fun k => by rw [hx, aj_u_i _ _ _ (by decide)]) (fun k => by rw [hy, aj_u_i _ _ _ (by decide)])))
    · skip
      refine y_aload0 (q := 30) C 14 rfl rfl ?_
      refine y_cV0 (q := 33) C 15 rfl rfl ml_RX3_96 cd_X3_refuse cv_X3_refuse ⟨by decide, rfl⟩ (by first | assumption | rfl | decide | exact bL hB _ (by decide) | exact vc3 hB (by omega) | exact vcL hB (by omega)) (by decide) (by decide) (Nat.le_of_ble_eq_true rfl) (s_X3_refuse (by first | assumption | rfl | decide | exact bL hB _ (by decide) | exact vc3 hB (by omega) | exact vcL hB (by omega)) ?_)
      show aj_X G 33 _ _ _ _ _ _ _ _ _
      exact x_ireturn C Z 16 rfl rfl rfl (hR h1 h2 h3 h4 (Or.inr (hr.elim (fun ⟨j, a1, a2, a3, a4, a5⟩ => ⟨j, a1, a3, a4⟩) (fun z => absurd (by rw [z.1]; decide : r < 0) (by assumption)))))
set_option maxRecDepth 100000 in
set_option maxHeartbeats 800000 in
theorem s_X3_removePlace {l : Launch} {I : Nat → Nat → Int32} {J : Nat → Nat → Int64} {V : Nat → Nat → Option Nat} {N : Nat → Nat} {L : List Nat} {K : aj_K} {x : Int32} {n : Nat} (hn : n ≤ 12) (hc : I 18 2 = nI n) (hB : bV V N L) (hXO : (∀ j : Nat, j < n → ¬ x = nI j) → K (.inr "java/lang/IndexOutOfBoundsException") I J V N L) (hK : ∀ i : Nat, i < n → x = nI i → ∀ I1, fA I I1 (n - 1) (fun k => if i ≤ k ∧ k < n - 1 then I 24 (k + 1) else I 24 k) (fun k => if i ≤ k ∧ k < n - 1 then I 40 (k + 1) else I 40 k) → K (.inl (some (.int (nI (n - 1))))) I1 J V N L) : aj_M l yX3_removePlace (aj_wc yX3_removePlace cX3_removePlace 2 (some .int)) (aj_rm 6 1 6) [] [.ref 20, .int x] I J V N L K := by
  refine aj_intro (tbl := t_X3_removePlace) (lv0 := [some (.ref 20), some (.int x)]) (by decide) T_X3_removePlace aj_f0 (Nat.le_of_ble_eq_true rfl) rfl ?_
  intro G hl C Z NX hnm hGL hGF
  have C : aj_C G cX3_removePlace t_X3_removePlace RX3 (aj_rm 6 1 6) 2 := C
  refine y_aload0 (q := 1) C 0 rfl rfl ?_
  refine y_iload1 (q := 2) C 1 rfl rfl ?_
  refine y_dV1 (q := 5) C 2 rfl rfl ml_RX3_70 cd_X3_checkPlace cv_X3_checkPlace ⟨by decide, rfl⟩ (by first | assumption | rfl | decide | exact bL hB _ (by decide) | exact vc3 hB (by omega) | exact vcL hB (by omega)) (by decide) (by decide) (Nat.le_of_ble_eq_true rfl) (bc' := 0) (bs' := 0) rfl rfl (s_X3_checkPlace hn hc hB (fun i hi ei => ?_) (fun hn1 => x_out C Z NX (hXO hn1)))
  show aj_X G 5 _ _ _ _ _ _ _ _ _
  subst ei
  refine y_aload0 (q := 6) C 3 rfl rfl ?_
  refine x_getR (q := 9) C 4 rfl rfl fl_RX3_33 (bv_4_5 hB) (fun _ _ => rfl) (by first | assumption | rfl | decide | exact bL hB _ (by decide) | exact vc3 hB (by omega) | exact vcL hB (by omega)) (by first | assumption | rfl | decide | exact bL hB _ (by decide) | exact vc3 hB (by omega) | exact vcL hB (by omega)) ?_
  refine y_iload1 (q := 10) C 5 rfl rfl ?_
  refine y_cV1 (q := 13) C 6 rfl rfl ml_RX3_154 cd_X1_drop cv_X1_drop ⟨by decide, rfl⟩ (by first | assumption | rfl | decide | exact bL hB _ (by decide) | exact vc3 hB (by omega) | exact vcL hB (by omega)) (by decide) (by decide) (Nat.le_of_ble_eq_true rfl) (s_X1_drop hi hn hc hB ?_)
  intro I1 hE hc1 hw hx hy
  show aj_X G 13 _ _ _ _ _ _ _ _ _
  refine y_aload0 (q := 14) C 7 rfl rfl ?_
  refine x_dupr (q := 15) C 8 rfl rfl ?_
  refine x_getI (q := 18) C 9 rfl rfl fl_RX3_148 (fun _ _ => rfl) (by first | assumption | rfl | decide | exact bL hB _ (by decide) | exact vc3 hB (by omega) | exact vcL hB (by omega)) (by first | assumption | rfl | decide | exact bL hB _ (by decide) | exact vc3 hB (by omega) | exact vcL hB (by omega)) ?_
  rw [show I1 20 7 = I 20 7 from congrFun (hE 20 (by decide)) 7]
  refine x_iconst (q := 19) C 10 (n := (1)) (v := (1)) rfl rfl rfl ?_
  refine x_iadd (q := 20) C 11 rfl rfl ?_
  refine x_putI (q := 23) C 12 rfl rfl fl_RX3_148 rfl rfl (by first | assumption | rfl | decide | exact bL hB _ (by decide) | exact vc3 hB (by omega) | exact vcL hB (by omega)) (by first | assumption | rfl | decide | exact bL hB _ (by decide) | exact vc3 hB (by omega) | exact vcL hB (by omega)) ?_
  refine y_aload0 (q := 24) C 13 rfl rfl ?_
  refine x_getR (q := 27) C 14 rfl rfl fl_RX3_33 (bv_4_5 hB) (fun _ _ => rfl) (by first | assumption | rfl | decide | exact bL hB _ (by decide) | exact vc3 hB (by omega) | exact vcL hB (by omega)) (by first | assumption | rfl | decide | exact bL hB _ (by decide) | exact vc3 hB (by omega) | exact vcL hB (by omega)) ?_
  refine x_getI (q := 30) C 15 rfl rfl fl_RX3_141 (fun _ _ => rfl) (by first | assumption | rfl | decide | exact bL hB _ (by decide) | exact vc3 hB (by omega) | exact vcL hB (by omega)) (by first | assumption | rfl | decide | exact bL hB _ (by decide) | exact vc3 hB (by omega) | exact vcL hB (by omega)) ?_
  rw [show aj_u I1 20 7 (I 20 7 + 1) 18 2 = nI (n - 1) by rw [aj_u_i _ _ _ (by decide)]; exact hc1]
  exact x_ireturn C Z 16 rfl rfl rfl (hK i hi rfl _ ⟨eqO.tr (hE.mono (by decide)) (eqO.u (by decide)), fun k hk => by rw [aj_u_k _ _ _ hk, hE 20 (by decide)], aj_u_s _ _ _ _, by rw [aj_u_i _ _ _ (by decide)]; exact hc1, hw.u20, fun k => by rw [aj_u_i _ _ _ (by decide)]; exact hx k, fun k => by rw [aj_u_i _ _ _ (by decide)]; exact hy k⟩)
set_option maxRecDepth 100000 in
set_option maxHeartbeats 800000 in
theorem s_X3_movePlace {l : Launch} {I : Nat → Nat → Int32} {J : Nat → Nat → Int64} {V : Nat → Nat → Option Nat} {N : Nat → Nat} {L : List Nat} {K : aj_K} {w x y : Int32} {n : Nat} (hn : n ≤ 12) (hc : I 18 2 = nI n) (hf : fW I n) (hB : bV V N L) (hXO : (∀ j : Nat, j < n → ¬ w = nI j) → K (.inr "java/lang/IndexOutOfBoundsException") I J V N L) (hXA : ∀ i : Nat, i < n → w = nI i → ¬ ((-64 ≤ x ∧ x ≤ 63) ∧ (-64 ≤ y ∧ y ≤ 63)) → K (.inr "java/lang/IllegalArgumentException") I J V N L) (hR : ∀ i : Nat, i < n → w = nI i → -64 ≤ x → x ≤ 63 → -64 ≤ y → y ≤ 63 → (∃ j, j < n ∧ j ≠ i ∧ I 24 j = x ∧ I 40 j = y ∧ ∀ k, k < j → ¬ (I 24 k = x ∧ I 40 k = y)) → K (.inl (some (.int (-9)))) (stR I) J V N L) (hK : ∀ i : Nat, i < n → w = nI i → -64 ≤ x → x ≤ 63 → -64 ≤ y → y ≤ 63 → ((I 24 i = x ∧ I 40 i = y ∧ ∀ k, k < i → ¬ (I 24 k = x ∧ I 40 k = y)) ∨ ∀ j, j < n → ¬ (I 24 j = x ∧ I 40 j = y)) → ∀ I1, fA I I1 n (fun k => if k = i then x else I 24 k) (fun k => if k = i then y else I 40 k) → K (.inl (some (.int (bI (!(decide (I 24 i = x) && decide (I 40 i = y))))))) I1 J V N L) : aj_M l yX3_movePlace (aj_wc yX3_movePlace cX3_movePlace 5 (some .int)) (aj_rm 6 3 18) [] [.ref 20, .int w, .int x, .int y] I J V N L K := by
  refine aj_intro (tbl := t_X3_movePlace) (lv0 := [some (.ref 20), some (.int w), some (.int x), some (.int y), none]) (by decide) T_X3_movePlace aj_f0 (Nat.le_of_ble_eq_true rfl) rfl ?_
  intro G hl C Z NX hnm hGL hGF
  have C : aj_C G cX3_movePlace t_X3_movePlace RX3 (aj_rm 6 3 18) 5 := C
  refine y_aload0 (q := 1) C 0 rfl rfl ?_
  refine y_iload1 (q := 2) C 1 rfl rfl ?_
  refine y_dV1 (q := 5) C 2 rfl rfl ml_RX3_70 cd_X3_checkPlace cv_X3_checkPlace ⟨by decide, rfl⟩ (by first | assumption | rfl | decide | exact bL hB _ (by decide) | exact vc3 hB (by omega) | exact vcL hB (by omega)) (by decide) (by decide) (Nat.le_of_ble_eq_true rfl) (bc' := 2) (bs' := 12) rfl rfl (s_X3_checkPlace hn hc hB (fun i hi ei => ?_) (fun hn1 => x_out C Z NX (hXO hn1)))
  show aj_X G 5 _ _ _ _ _ _ _ _ _
  refine y_iload2 (q := 6) C 3 rfl rfl ?_
  refine y_iload3 (q := 7) C 4 rfl rfl ?_
  refine y_dS2 (q := 10) C 5 rfl rfl ml_RX3_137 cd_X3_checkSpot sv_X3_checkSpot (by decide) (by decide) (Nat.le_of_ble_eq_true rfl) (bc' := 0) (bs' := 0) rfl rfl (s_X3_checkSpot (fun h1 h2 h3 h4 => ?_) (fun hn1 => x_out C Z NX (hXA i hi ei hn1)))
  show aj_X G 10 _ _ _ _ _ _ _ _ _
  subst ei
  refine y_aload0 (q := 11) C 6 rfl rfl ?_
  refine x_getR (q := 14) C 7 rfl rfl fl_RX3_33 (bv_4_5 hB) (fun _ _ => rfl) (by first | assumption | rfl | decide | exact bL hB _ (by decide) | exact vc3 hB (by omega) | exact vcL hB (by omega)) (by first | assumption | rfl | decide | exact bL hB _ (by decide) | exact vc3 hB (by omega) | exact vcL hB (by omega)) ?_
  refine y_iload2 (q := 15) C 8 rfl rfl ?_
  refine y_iload3 (q := 16) C 9 rfl rfl ?_
  refine y_cV2 (q := 19) C 10 rfl rfl ml_RX3_144 cd_X1_numberAt cv_X1_numberAt ⟨by decide, rfl⟩ (by first | assumption | rfl | decide | exact bL hB _ (by decide) | exact vc3 hB (by omega) | exact vcL hB (by omega)) (by decide) (by decide) (Nat.le_of_ble_eq_true rfl) (s_X1_numberAt hn hc hB ?_)
  intro r hr
  show aj_X G 19 _ _ _ _ _ _ _ _ _
  refine y_istore4 (q := 21) C 11 rfl rfl (Nat.le_of_ble_eq_true rfl) rfl ?_
  refine y_iload4 (q := 23) C 12 rfl rfl ?_
  refine x_if_lt (q := 26) (t := 37) C 13 rfl (by decide) rfl (fun c1 => ?_) (fun c1 => ?_)
  · skip
    refine y_aload0 (q := 38) C 20 rfl rfl ?_
    refine x_dupr (q := 39) C 21 rfl rfl ?_
    refine x_getI (q := 42) C 22 rfl rfl fl_RX3_148 (fun _ _ => rfl) (by first | assumption | rfl | decide | exact bL hB _ (by decide) | exact vc3 hB (by omega) | exact vcL hB (by omega)) (by first | assumption | rfl | decide | exact bL hB _ (by decide) | exact vc3 hB (by omega) | exact vcL hB (by omega)) ?_
    refine x_iconst (q := 43) C 23 (n := (1)) (v := (1)) rfl rfl rfl ?_
    refine x_iadd (q := 44) C 24 rfl rfl ?_
    refine x_putI (q := 47) C 25 rfl rfl fl_RX3_148 rfl rfl (by first | assumption | rfl | decide | exact bL hB _ (by decide) | exact vc3 hB (by omega) | exact vcL hB (by omega)) (by first | assumption | rfl | decide | exact bL hB _ (by decide) | exact vc3 hB (by omega) | exact vcL hB (by omega)) ?_
    refine y_aload0 (q := 48) C 26 rfl rfl ?_
    refine x_getR (q := 51) C 27 rfl rfl fl_RX3_33 (bv_4_5 hB) (fun _ _ => rfl) (by first | assumption | rfl | decide | exact bL hB _ (by decide) | exact vc3 hB (by omega) | exact vcL hB (by omega)) (by first | assumption | rfl | decide | exact bL hB _ (by decide) | exact vc3 hB (by omega) | exact vcL hB (by omega)) ?_
    refine y_iload1 (q := 52) C 28 rfl rfl ?_
    refine y_iload2 (q := 53) C 29 rfl rfl ?_
    refine y_iload3 (q := 54) C 30 rfl rfl ?_
    refine y_cV3 (q := 57) C 31 rfl rfl ml_RX3_157 cd_X1_moveTo cv_X1_moveTo ⟨by decide, rfl⟩ (by first | assumption | rfl | decide | exact bL hB _ (by decide) | exact vc3 hB (by omega) | exact vcL hB (by omega)) (by decide) (by decide) (Nat.le_of_ble_eq_true rfl) (s_X1_moveTo (i := i) (by omega) hn (by rw [aj_u_i _ _ _ (by decide)]; exact hc) hf.u20 hB ?_)
    intro I1 hE hc1 hw hx hy
    rw [show aj_u I 20 7 (I 20 7 + 1) 24 i = I 24 i from congrFun (aj_u_o I _ (by decide)) i, show aj_u I 20 7 (I 20 7 + 1) 40 i = I 40 i from congrFun (aj_u_o I _ (by decide)) i]
    show aj_X G 57 _ _ _ _ _ _ _ _ _
    refine x_if_eqB (q := 60) (t := 64) C 32 rfl (by decide) rfl (fun c2 => ?_) (fun c2 => ?_)
    · skip
      refine x_iconst (q := 65) C 35 (n := (0)) (v := (0)) rfl rfl rfl ?_
      exact x_ireturn C Z 36 rfl rfl rfl (aj_lf (hK i hi rfl h1 h2 h3 h4 (hr.elim (fun ⟨j, a1, a2, a3, a4, a5⟩ => absurd (by assumption : r < 0) (by rw [a2]; exact nI_pos (by omega))) (fun z => Or.inr z.2)) I1 (fA.of hE hc1 hw (fun k => by rw [hx, aj_u_i _ _ _ (by decide)]) (fun k => by rw [hy, aj_u_i _ _ _ (by decide)]))) (by first | (rw [show (!(decide (I 24 i = x) && decide (I 40 i = y))) = true from by assumption]; rfl) | (rw [show (!(decide (I 24 i = x) && decide (I 40 i = y))) = false from by assumption]; rfl)))
    · skip
      refine x_iconst (q := 61) C 33 (n := (1)) (v := (1)) rfl rfl rfl ?_
      refine x_goto (t := 65) C 34 rfl (by decide) ?_
      exact x_ireturn C Z 36 rfl rfl rfl (aj_lf (hK i hi rfl h1 h2 h3 h4 (hr.elim (fun ⟨j, a1, a2, a3, a4, a5⟩ => absurd (by assumption : r < 0) (by rw [a2]; exact nI_pos (by omega))) (fun z => Or.inr z.2)) I1 (fA.of hE hc1 hw (fun k => by rw [hx, aj_u_i _ _ _ (by decide)]) (fun k => by rw [hy, aj_u_i _ _ _ (by decide)]))) (by first | (rw [show (!(decide (I 24 i = x) && decide (I 40 i = y))) = true from by assumption]; rfl) | (rw [show (!(decide (I 24 i = x) && decide (I 40 i = y))) = false from by assumption]; rfl)))
  · skip
    refine y_iload4 (q := 28) C 14 rfl rfl ?_
    refine y_iload1 (q := 29) C 15 rfl rfl ?_
    refine x_icmp_eq (q := 32) (t := 37) C 16 rfl (by decide) rfl (fun c3 => ?_) (fun c3 => ?_)
    · skip
      refine y_aload0 (q := 38) C 20 rfl rfl ?_
      refine x_dupr (q := 39) C 21 rfl rfl ?_
      refine x_getI (q := 42) C 22 rfl rfl fl_RX3_148 (fun _ _ => rfl) (by first | assumption | rfl | decide | exact bL hB _ (by decide) | exact vc3 hB (by omega) | exact vcL hB (by omega)) (by first | assumption | rfl | decide | exact bL hB _ (by decide) | exact vc3 hB (by omega) | exact vcL hB (by omega)) ?_
      refine x_iconst (q := 43) C 23 (n := (1)) (v := (1)) rfl rfl rfl ?_
      refine x_iadd (q := 44) C 24 rfl rfl ?_
      refine x_putI (q := 47) C 25 rfl rfl fl_RX3_148 rfl rfl (by first | assumption | rfl | decide | exact bL hB _ (by decide) | exact vc3 hB (by omega) | exact vcL hB (by omega)) (by first | assumption | rfl | decide | exact bL hB _ (by decide) | exact vc3 hB (by omega) | exact vcL hB (by omega)) ?_
      refine y_aload0 (q := 48) C 26 rfl rfl ?_
      refine x_getR (q := 51) C 27 rfl rfl fl_RX3_33 (bv_4_5 hB) (fun _ _ => rfl) (by first | assumption | rfl | decide | exact bL hB _ (by decide) | exact vc3 hB (by omega) | exact vcL hB (by omega)) (by first | assumption | rfl | decide | exact bL hB _ (by decide) | exact vc3 hB (by omega) | exact vcL hB (by omega)) ?_
      refine y_iload1 (q := 52) C 28 rfl rfl ?_
      refine y_iload2 (q := 53) C 29 rfl rfl ?_
      refine y_iload3 (q := 54) C 30 rfl rfl ?_
      refine y_cV3 (q := 57) C 31 rfl rfl ml_RX3_157 cd_X1_moveTo cv_X1_moveTo ⟨by decide, rfl⟩ (by first | assumption | rfl | decide | exact bL hB _ (by decide) | exact vc3 hB (by omega) | exact vcL hB (by omega)) (by decide) (by decide) (Nat.le_of_ble_eq_true rfl) (s_X1_moveTo (i := i) (by omega) hn (by rw [aj_u_i _ _ _ (by decide)]; exact hc) hf.u20 hB ?_)
      intro I1 hE hc1 hw hx hy
      rw [show aj_u I 20 7 (I 20 7 + 1) 24 i = I 24 i from congrFun (aj_u_o I _ (by decide)) i, show aj_u I 20 7 (I 20 7 + 1) 40 i = I 40 i from congrFun (aj_u_o I _ (by decide)) i]
      show aj_X G 57 _ _ _ _ _ _ _ _ _
      refine x_if_eqB (q := 60) (t := 64) C 32 rfl (by decide) rfl (fun c4 => ?_) (fun c4 => ?_)
      · skip
        refine x_iconst (q := 65) C 35 (n := (0)) (v := (0)) rfl rfl rfl ?_
        exact x_ireturn C Z 36 rfl rfl rfl (aj_lf (hK i hi rfl h1 h2 h3 h4 (hr.elim (fun ⟨j, a1, a2, a3, a4, a5⟩ => Or.inl (by have e : j = i := (nI_eq (by omega) (by omega)).mp (a2.symm.trans (by assumption)); subst e; exact ⟨a3, a4, a5⟩)) (fun z => Or.inr z.2)) I1 (fA.of hE hc1 hw (fun k => by rw [hx, aj_u_i _ _ _ (by decide)]) (fun k => by rw [hy, aj_u_i _ _ _ (by decide)]))) (by first | (rw [show (!(decide (I 24 i = x) && decide (I 40 i = y))) = true from by assumption]; rfl) | (rw [show (!(decide (I 24 i = x) && decide (I 40 i = y))) = false from by assumption]; rfl)))
      · skip
        refine x_iconst (q := 61) C 33 (n := (1)) (v := (1)) rfl rfl rfl ?_
        refine x_goto (t := 65) C 34 rfl (by decide) ?_
        exact x_ireturn C Z 36 rfl rfl rfl (aj_lf (hK i hi rfl h1 h2 h3 h4 (hr.elim (fun ⟨j, a1, a2, a3, a4, a5⟩ => Or.inl (by have e : j = i := (nI_eq (by omega) (by omega)).mp (a2.symm.trans (by assumption)); subst e; exact ⟨a3, a4, a5⟩)) (fun z => Or.inr z.2)) I1 (fA.of hE hc1 hw (fun k => by rw [hx, aj_u_i _ _ _ (by decide)]) (fun k => by rw [hy, aj_u_i _ _ _ (by decide)]))) (by first | (rw [show (!(decide (I 24 i = x) && decide (I 40 i = y))) = true from by assumption]; rfl) | (rw [show (!(decide (I 24 i = x) && decide (I 40 i = y))) = false from by assumption]; rfl)))
    · skip
      refine y_aload0 (q := 33) C 17 rfl rfl ?_
      refine y_cV0 (q := 36) C 18 rfl rfl ml_RX3_96 cd_X3_refuse cv_X3_refuse ⟨by decide, rfl⟩ (by first | assumption | rfl | decide | exact bL hB _ (by decide) | exact vc3 hB (by omega) | exact vcL hB (by omega)) (by decide) (by decide) (Nat.le_of_ble_eq_true rfl) (s_X3_refuse (by first | assumption | rfl | decide | exact bL hB _ (by decide) | exact vc3 hB (by omega) | exact vcL hB (by omega)) ?_)
      show aj_X G 36 _ _ _ _ _ _ _ _ _
      exact x_ireturn C Z 19 rfl rfl rfl (hR i hi rfl h1 h2 h3 h4 (hr.elim (fun ⟨j, a1, a2, a3, a4, a5⟩ => ⟨j, a1, fun z => by subst z; exact absurd a2 (by assumption), a3, a4, a5⟩) (fun z => absurd (by rw [z.1]; decide : r < 0) (by assumption))))
set_option maxRecDepth 100000 in
set_option maxHeartbeats 800000 in
theorem s_X3_centre {l : Launch} {I : Nat → Nat → Int32} {J : Nat → Nat → Int64} {V : Nat → Nat → Option Nat} {N : Nat → Nat} {L : List Nat} {K : aj_K} {x y : Int32} {n : Nat} (hn : n ≤ 12) (hc : I 18 2 = nI n) (hf : fW I n) (hB : bV V N L) (hXA : ¬ ((-64 ≤ x ∧ x ≤ 63) ∧ (-64 ≤ y ∧ y ≤ 63)) → K (.inr "java/lang/IllegalArgumentException") I J V N L) (hK : -64 ≤ x → x ≤ 63 → -64 ≤ y → y ≤ 63 → ∀ I1, fA I I1 n (fun k => if k = 12 then x else I 24 k) (fun k => if k = 12 then y else I 40 k) → K (.inl (some (.int (bI (!(decide (I 24 12 = x) && decide (I 40 12 = y))))))) I1 J V N L) : aj_M l yX3_centre (aj_wc yX3_centre cX3_centre 3 (some .int)) (aj_rm 6 2 12) [] [.ref 20, .int x, .int y] I J V N L K := by
  refine aj_intro (tbl := t_X3_centre) (lv0 := [some (.ref 20), some (.int x), some (.int y)]) (by decide) T_X3_centre aj_f0 (Nat.le_of_ble_eq_true rfl) rfl ?_
  intro G hl C Z NX hnm hGL hGF
  have C : aj_C G cX3_centre t_X3_centre RX3 (aj_rm 6 2 12) 3 := C
  refine y_iload1 (q := 1) C 0 rfl rfl ?_
  refine y_iload2 (q := 2) C 1 rfl rfl ?_
  refine y_dS2 (q := 5) C 2 rfl rfl ml_RX3_137 cd_X3_checkSpot sv_X3_checkSpot (by decide) (by decide) (Nat.le_of_ble_eq_true rfl) (bc' := 0) (bs' := 0) rfl rfl (s_X3_checkSpot (fun h1 h2 h3 h4 => ?_) (fun hn => x_out C Z NX (hXA hn)))
  show aj_X G 5 _ _ _ _ _ _ _ _ _
  refine y_aload0 (q := 6) C 3 rfl rfl ?_
  refine x_dupr (q := 7) C 4 rfl rfl ?_
  refine x_getI (q := 10) C 5 rfl rfl fl_RX3_148 (fun _ _ => rfl) (by first | assumption | rfl | decide | exact bL hB _ (by decide) | exact vc3 hB (by omega) | exact vcL hB (by omega)) (by first | assumption | rfl | decide | exact bL hB _ (by decide) | exact vc3 hB (by omega) | exact vcL hB (by omega)) ?_
  refine x_iconst (q := 11) C 6 (n := (1)) (v := (1)) rfl rfl rfl ?_
  refine x_iadd (q := 12) C 7 rfl rfl ?_
  refine x_putI (q := 15) C 8 rfl rfl fl_RX3_148 rfl rfl (by first | assumption | rfl | decide | exact bL hB _ (by decide) | exact vc3 hB (by omega) | exact vcL hB (by omega)) (by first | assumption | rfl | decide | exact bL hB _ (by decide) | exact vc3 hB (by omega) | exact vcL hB (by omega)) ?_
  refine y_aload0 (q := 16) C 9 rfl rfl ?_
  refine x_getR (q := 19) C 10 rfl rfl fl_RX3_33 (bv_4_5 hB) (fun _ _ => rfl) (by first | assumption | rfl | decide | exact bL hB _ (by decide) | exact vc3 hB (by omega) | exact vcL hB (by omega)) (by first | assumption | rfl | decide | exact bL hB _ (by decide) | exact vc3 hB (by omega) | exact vcL hB (by omega)) ?_
  refine x_bipush (q := 21) C 11 (n := (12)) (v := nI 12) rfl rfl rfl ?_
  refine y_iload1 (q := 22) C 12 rfl rfl ?_
  refine y_iload2 (q := 23) C 13 rfl rfl ?_
  refine y_cV3 (q := 26) C 14 rfl rfl ml_RX3_157 cd_X1_moveTo cv_X1_moveTo ⟨by decide, rfl⟩ (by first | assumption | rfl | decide | exact bL hB _ (by decide) | exact vc3 hB (by omega) | exact vcL hB (by omega)) (by decide) (by decide) (Nat.le_of_ble_eq_true rfl) (s_X1_moveTo (i := 12) (by decide) hn (by rw [aj_u_i _ _ _ (by decide)]; exact hc) hf.u20 hB ?_)
  intro I1 hE hc1 hw hx hy
  rw [show aj_u I 20 7 (I 20 7 + 1) 24 12 = I 24 12 from congrFun (aj_u_o I _ (by decide)) 12, show aj_u I 20 7 (I 20 7 + 1) 40 12 = I 40 12 from congrFun (aj_u_o I _ (by decide)) 12]
  show aj_X G 26 _ _ _ _ _ _ _ _ _
  refine x_if_eqB (q := 29) (t := 33) C 15 rfl (by decide) rfl (fun c1 => ?_) (fun c1 => ?_)
  · skip
    refine x_iconst (q := 34) C 18 (n := (0)) (v := (0)) rfl rfl rfl ?_
    exact x_ireturn C Z 19 rfl rfl rfl (aj_lf (hK h1 h2 h3 h4 I1 (fA.of hE hc1 hw (fun k => by rw [hx, aj_u_i _ _ _ (by decide)]) (fun k => by rw [hy, aj_u_i _ _ _ (by decide)]))) (by first | (rw [show (!(decide (I 24 12 = x) && decide (I 40 12 = y))) = true from by assumption]; rfl) | (rw [show (!(decide (I 24 12 = x) && decide (I 40 12 = y))) = false from by assumption]; rfl)))
  · skip
    refine x_iconst (q := 30) C 16 (n := (1)) (v := (1)) rfl rfl rfl ?_
    refine x_goto (t := 34) C 17 rfl (by decide) ?_
    exact x_ireturn C Z 19 rfl rfl rfl (aj_lf (hK h1 h2 h3 h4 I1 (fA.of hE hc1 hw (fun k => by rw [hx, aj_u_i _ _ _ (by decide)]) (fun k => by rw [hy, aj_u_i _ _ _ (by decide)]))) (by first | (rw [show (!(decide (I 24 12 = x) && decide (I 40 12 = y))) = true from by assumption]; rfl) | (rw [show (!(decide (I 24 12 = x) && decide (I 40 12 = y))) = false from by assumption]; rfl)))
set_option maxRecDepth 100000 in
set_option maxHeartbeats 800000 in
theorem s_X3_turnPlaces {l : Launch} {I : Nat → Nat → Int32} {J : Nat → Nat → Int64} {V : Nat → Nat → Option Nat} {N : Nat → Nat} {L : List Nat} {K : aj_K} {n : Nat} (hn : n ≤ 12) (hc : I 18 2 = nI n) (hB : bV V N L) (hK : ∀ I1 (r : Int32), fA I I1 n (fun k => if k < 13 then -1 - I 40 k else I 24 k) (fun k => if k < 13 then I 24 k else I 40 k) → K (.inl (some (.int r))) I1 J V N L) : aj_M l yX3_turnPlaces (aj_wc yX3_turnPlaces cX3_turnPlaces 1 (some .int)) (aj_rm 6 0 0) [] [.ref 20] I J V N L K := by
  refine aj_intro (tbl := t_X3_turnPlaces) (lv0 := [some (.ref 20)]) (by decide) T_X3_turnPlaces aj_f0 (Nat.le_of_ble_eq_true rfl) rfl ?_
  intro G hl C Z NX hnm hGL hGF
  have C : aj_C G cX3_turnPlaces t_X3_turnPlaces RX3 (aj_rm 6 0 0) 1 := C
  refine y_aload0 (q := 1) C 0 rfl rfl ?_
  refine x_getR (q := 4) C 1 rfl rfl fl_RX3_33 (bv_4_5 hB) (fun _ _ => rfl) (by first | assumption | rfl | decide | exact bL hB _ (by decide) | exact vc3 hB (by omega) | exact vcL hB (by omega)) (by first | assumption | rfl | decide | exact bL hB _ (by decide) | exact vc3 hB (by omega) | exact vcL hB (by omega)) ?_
  refine y_cV0 (q := 7) C 2 rfl rfl ml_RX3_161 cd_X1_turnAll cv_X1_turnAll ⟨by decide, rfl⟩ (by first | assumption | rfl | decide | exact bL hB _ (by decide) | exact vc3 hB (by omega) | exact vcL hB (by omega)) (by decide) (by decide) (Nat.le_of_ble_eq_true rfl) (s_X1_turnAll hn hc hB ?_)
  intro I1 hE hc1 hw hx hy
  show aj_X G 7 _ _ _ _ _ _ _ _ _
  refine y_aload0 (q := 8) C 3 rfl rfl ?_
  refine x_dupr (q := 9) C 4 rfl rfl ?_
  refine x_getI (q := 12) C 5 rfl rfl fl_RX3_148 (fun _ _ => rfl) (by first | assumption | rfl | decide | exact bL hB _ (by decide) | exact vc3 hB (by omega) | exact vcL hB (by omega)) (by first | assumption | rfl | decide | exact bL hB _ (by decide) | exact vc3 hB (by omega) | exact vcL hB (by omega)) ?_
  rw [show I1 20 7 = I 20 7 from congrFun (hE 20 (by decide)) 7]
  refine x_iconst (q := 13) C 6 (n := (1)) (v := (1)) rfl rfl rfl ?_
  refine x_iadd (q := 14) C 7 rfl rfl ?_
  refine x_putI (q := 17) C 8 rfl rfl fl_RX3_148 rfl rfl (by first | assumption | rfl | decide | exact bL hB _ (by decide) | exact vc3 hB (by omega) | exact vcL hB (by omega)) (by first | assumption | rfl | decide | exact bL hB _ (by decide) | exact vc3 hB (by omega) | exact vcL hB (by omega)) ?_
  refine y_aload0 (q := 18) C 9 rfl rfl ?_
  refine x_getR (q := 21) C 10 rfl rfl fl_RX3_33 (bv_4_5 hB) (fun _ _ => rfl) (by first | assumption | rfl | decide | exact bL hB _ (by decide) | exact vc3 hB (by omega) | exact vcL hB (by omega)) (by first | assumption | rfl | decide | exact bL hB _ (by decide) | exact vc3 hB (by omega) | exact vcL hB (by omega)) ?_
  refine y_cV0 (q := 24) C 11 rfl rfl ml_RX3_164 cd_X1_areaOfHull cv_X1_areaOfHull ⟨by decide, rfl⟩ (by first | assumption | rfl | decide | exact bL hB _ (by decide) | exact vc3 hB (by omega) | exact vcL hB (by omega)) (by decide) (by decide) (Nat.le_of_ble_eq_true rfl) (s_X1_areaOfHull hn hw.u20 hB ?_)
  intro r
  show aj_X G 24 _ _ _ _ _ _ _ _ _
  exact x_ireturn C Z 12 rfl rfl rfl (hK _ r ⟨eqO.tr (hE.mono (by decide)) (eqO.u (by decide)), fun k hk => by rw [aj_u_k _ _ _ hk, hE 20 (by decide)], aj_u_s _ _ _ _, by rw [aj_u_i _ _ _ (by decide)]; exact hc1, hw.u20, fun k => by rw [aj_u_i _ _ _ (by decide)]; exact hx k, fun k => by rw [aj_u_i _ _ _ (by decide)]; exact hy k⟩)
set_option maxRecDepth 100000 in
set_option maxHeartbeats 800000 in
theorem s_X3_mirrorPlaces {l : Launch} {I : Nat → Nat → Int32} {J : Nat → Nat → Int64} {V : Nat → Nat → Option Nat} {N : Nat → Nat} {L : List Nat} {K : aj_K} {n : Nat} (hn : n ≤ 12) (hc : I 18 2 = nI n) (hB : bV V N L) (hK : ∀ I1 (r : Int32), fA I I1 n (fun k => if k < 13 then -1 - I 24 k else I 24 k) (fun k => I 40 k) → K (.inl (some (.int r))) I1 J V N L) : aj_M l yX3_mirrorPlaces (aj_wc yX3_mirrorPlaces cX3_mirrorPlaces 1 (some .int)) (aj_rm 6 0 0) [] [.ref 20] I J V N L K := by
  refine aj_intro (tbl := t_X3_mirrorPlaces) (lv0 := [some (.ref 20)]) (by decide) T_X3_mirrorPlaces aj_f0 (Nat.le_of_ble_eq_true rfl) rfl ?_
  intro G hl C Z NX hnm hGL hGF
  have C : aj_C G cX3_mirrorPlaces t_X3_mirrorPlaces RX3 (aj_rm 6 0 0) 1 := C
  refine y_aload0 (q := 1) C 0 rfl rfl ?_
  refine x_getR (q := 4) C 1 rfl rfl fl_RX3_33 (bv_4_5 hB) (fun _ _ => rfl) (by first | assumption | rfl | decide | exact bL hB _ (by decide) | exact vc3 hB (by omega) | exact vcL hB (by omega)) (by first | assumption | rfl | decide | exact bL hB _ (by decide) | exact vc3 hB (by omega) | exact vcL hB (by omega)) ?_
  refine y_cV0 (q := 7) C 2 rfl rfl ml_RX3_167 cd_X1_mirrorAll cv_X1_mirrorAll ⟨by decide, rfl⟩ (by first | assumption | rfl | decide | exact bL hB _ (by decide) | exact vc3 hB (by omega) | exact vcL hB (by omega)) (by decide) (by decide) (Nat.le_of_ble_eq_true rfl) (s_X1_mirrorAll hn hc hB ?_)
  intro I1 hE hc1 hw hx hy
  show aj_X G 7 _ _ _ _ _ _ _ _ _
  refine y_aload0 (q := 8) C 3 rfl rfl ?_
  refine x_dupr (q := 9) C 4 rfl rfl ?_
  refine x_getI (q := 12) C 5 rfl rfl fl_RX3_148 (fun _ _ => rfl) (by first | assumption | rfl | decide | exact bL hB _ (by decide) | exact vc3 hB (by omega) | exact vcL hB (by omega)) (by first | assumption | rfl | decide | exact bL hB _ (by decide) | exact vc3 hB (by omega) | exact vcL hB (by omega)) ?_
  rw [show I1 20 7 = I 20 7 from congrFun (hE 20 (by decide)) 7]
  refine x_iconst (q := 13) C 6 (n := (1)) (v := (1)) rfl rfl rfl ?_
  refine x_iadd (q := 14) C 7 rfl rfl ?_
  refine x_putI (q := 17) C 8 rfl rfl fl_RX3_148 rfl rfl (by first | assumption | rfl | decide | exact bL hB _ (by decide) | exact vc3 hB (by omega) | exact vcL hB (by omega)) (by first | assumption | rfl | decide | exact bL hB _ (by decide) | exact vc3 hB (by omega) | exact vcL hB (by omega)) ?_
  refine y_aload0 (q := 18) C 9 rfl rfl ?_
  refine x_getR (q := 21) C 10 rfl rfl fl_RX3_33 (bv_4_5 hB) (fun _ _ => rfl) (by first | assumption | rfl | decide | exact bL hB _ (by decide) | exact vc3 hB (by omega) | exact vcL hB (by omega)) (by first | assumption | rfl | decide | exact bL hB _ (by decide) | exact vc3 hB (by omega) | exact vcL hB (by omega)) ?_
  refine y_cV0 (q := 24) C 11 rfl rfl ml_RX3_164 cd_X1_areaOfHull cv_X1_areaOfHull ⟨by decide, rfl⟩ (by first | assumption | rfl | decide | exact bL hB _ (by decide) | exact vc3 hB (by omega) | exact vcL hB (by omega)) (by decide) (by decide) (Nat.le_of_ble_eq_true rfl) (s_X1_areaOfHull hn hw.u20 hB ?_)
  intro r
  show aj_X G 24 _ _ _ _ _ _ _ _ _
  exact x_ireturn C Z 12 rfl rfl rfl (hK _ r ⟨eqO.tr (hE.mono (by decide)) (eqO.u (by decide)), fun k hk => by rw [aj_u_k _ _ _ hk, hE 20 (by decide)], aj_u_s _ _ _ _, by rw [aj_u_i _ _ _ (by decide)]; exact hc1, hw.u20, fun k => by rw [aj_u_i _ _ _ (by decide)]; exact hx k, fun k => by rw [aj_u_i _ _ _ (by decide)]; exact hy k⟩)
set_option maxRecDepth 100000 in
set_option maxHeartbeats 800000 in
theorem s_X3_places {l : Launch} {I : Nat → Nat → Int32} {J : Nat → Nat → Int64} {V : Nat → Nat → Option Nat} {N : Nat → Nat} {L : List Nat} {K : aj_K} {n : Nat} (hn : n ≤ 12) (hc : I 18 2 = nI n) (hB : bV V N L) (hK : K (.inl (some (.int (nI n)))) I J V N L) : aj_M l yX3_places (aj_wc yX3_places cX3_places 1 (some .int)) (aj_rm 2 0 0) [] [.ref 20] I J V N L K := by
  refine aj_intro (tbl := t_X3_places) (lv0 := [some (.ref 20)]) (by decide) T_X3_places aj_f0 (Nat.le_of_ble_eq_true rfl) rfl ?_
  intro G hl C Z NX hnm hGL hGF
  have C : aj_C G cX3_places t_X3_places RX3 (aj_rm 2 0 0) 1 := C
  refine y_aload0 (q := 1) C 0 rfl rfl ?_
  refine x_getR (q := 4) C 1 rfl rfl fl_RX3_33 (bv_4_5 hB) (fun _ _ => rfl) (by first | assumption | rfl | decide | exact bL hB _ (by decide) | exact vc3 hB (by omega) | exact vcL hB (by omega)) (by first | assumption | rfl | decide | exact bL hB _ (by decide) | exact vc3 hB (by omega) | exact vcL hB (by omega)) ?_
  refine x_getI (q := 7) C 2 rfl rfl fl_RX3_141 (fun _ _ => rfl) (by first | assumption | rfl | decide | exact bL hB _ (by decide) | exact vc3 hB (by omega) | exact vcL hB (by omega)) (by first | assumption | rfl | decide | exact bL hB _ (by decide) | exact vc3 hB (by omega) | exact vcL hB (by omega)) ?_
  rw [hc]
  exact x_ireturn C Z 3 rfl rfl rfl (hK)
set_option maxRecDepth 100000 in
set_option maxHeartbeats 800000 in
theorem s_X3_place {l : Launch} {I : Nat → Nat → Int32} {J : Nat → Nat → Int64} {V : Nat → Nat → Option Nat} {N : Nat → Nat} {L : List Nat} {K : aj_K} {x : Int32} {b : Bool} {n : Nat} (hn : n ≤ 12) (hc : I 18 2 = nI n) (hB : bV V N L) (hXO : (∀ j : Nat, j < n → ¬ x = nI j) → K (.inr "java/lang/IndexOutOfBoundsException") I J V N L) (hK : ∀ i : Nat, i < n → x = nI i → K (.inl (some (.int (if b = true then I 40 i else I 24 i)))) I J V N L) : aj_M l yX3_place (aj_wc yX3_place cX3_place 3 (some .int)) (aj_rm 2 1 6) [] [.ref 20, .int x, .int (bI b)] I J V N L K := by
  refine aj_intro (tbl := t_X3_place) (lv0 := [some (.ref 20), some (.int x), some (.int (bI b))]) (by decide) T_X3_place aj_f0 (Nat.le_of_ble_eq_true rfl) rfl ?_
  intro G hl C Z NX hnm hGL hGF
  have C : aj_C G cX3_place t_X3_place RX3 (aj_rm 2 1 6) 3 := C
  refine y_aload0 (q := 1) C 0 rfl rfl ?_
  refine y_iload1 (q := 2) C 1 rfl rfl ?_
  refine y_dV1 (q := 5) C 2 rfl rfl ml_RX3_70 cd_X3_checkPlace cv_X3_checkPlace ⟨by decide, rfl⟩ (by first | assumption | rfl | decide | exact bL hB _ (by decide) | exact vc3 hB (by omega) | exact vcL hB (by omega)) (by decide) (by decide) (Nat.le_of_ble_eq_true rfl) (bc' := 0) (bs' := 0) rfl rfl (s_X3_checkPlace hn hc hB (fun i hi ei => ?_) (fun hn1 => x_out C Z NX (hXO hn1)))
  show aj_X G 5 _ _ _ _ _ _ _ _ _
  subst ei
  refine y_iload2 (q := 6) C 3 rfl rfl ?_
  refine x_if_eqB (q := 9) (t := 21) C 4 rfl (by decide) rfl (fun c1 => ?_) (fun c1 => ?_)
  · skip
    refine y_aload0 (q := 22) C 11 rfl rfl ?_
    refine x_getR (q := 25) C 12 rfl rfl fl_RX3_33 (bv_4_5 hB) (fun _ _ => rfl) (by first | assumption | rfl | decide | exact bL hB _ (by decide) | exact vc3 hB (by omega) | exact vcL hB (by omega)) (by first | assumption | rfl | decide | exact bL hB _ (by decide) | exact vc3 hB (by omega) | exact vcL hB (by omega)) ?_
    refine x_getR (q := 28) C 13 rfl rfl fl_RX3_173 (bv_2_0 hB) (fun _ _ => rfl) (by first | assumption | rfl | decide | exact bL hB _ (by decide) | exact vc3 hB (by omega) | exact vcL hB (by omega)) (by first | assumption | rfl | decide | exact bL hB _ (by decide) | exact vc3 hB (by omega) | exact vcL hB (by omega)) ?_
    refine y_iload1 (q := 29) C 14 rfl rfl ?_
    refine x_iald (q := 30) C 15 rfl rfl (by first | assumption | rfl | decide | exact bL hB _ (by decide) | exact vc3 hB (by omega) | exact vcL hB (by omega)) (by first | assumption | rfl | decide | exact bL hB _ (by decide) | exact vc3 hB (by omega) | exact vcL hB (by omega)) (by (first | rw [bn24 hB] | rw [bn40 hB] | rw [bn56 hB] | rw [bn72 hB] | rw [bn27 hB] | rw [bn43 hB] | rw [bn25 hB] | rw [bn41 hB] | rw [bn88 hB] | rw [bn104 hB] | rw [bn120 hB] | rw [bn136 hB] | rw [bn152 hB] | rw [bn168 hB]); first | assumption | exact vp_in_nI (by omega) (by decide)) ?_
    rw [nI_clamp (by omega)]
    exact x_ireturn C Z 16 rfl rfl rfl (aj_lf (hK i hi rfl) (by simp [*]))
  · skip
    refine y_aload0 (q := 10) C 5 rfl rfl ?_
    refine x_getR (q := 13) C 6 rfl rfl fl_RX3_33 (bv_4_5 hB) (fun _ _ => rfl) (by first | assumption | rfl | decide | exact bL hB _ (by decide) | exact vc3 hB (by omega) | exact vcL hB (by omega)) (by first | assumption | rfl | decide | exact bL hB _ (by decide) | exact vc3 hB (by omega) | exact vcL hB (by omega)) ?_
    refine x_getR (q := 16) C 7 rfl rfl fl_RX3_170 (bv_2_1 hB) (fun _ _ => rfl) (by first | assumption | rfl | decide | exact bL hB _ (by decide) | exact vc3 hB (by omega) | exact vcL hB (by omega)) (by first | assumption | rfl | decide | exact bL hB _ (by decide) | exact vc3 hB (by omega) | exact vcL hB (by omega)) ?_
    refine y_iload1 (q := 17) C 8 rfl rfl ?_
    refine x_iald (q := 18) C 9 rfl rfl (by first | assumption | rfl | decide | exact bL hB _ (by decide) | exact vc3 hB (by omega) | exact vcL hB (by omega)) (by first | assumption | rfl | decide | exact bL hB _ (by decide) | exact vc3 hB (by omega) | exact vcL hB (by omega)) (by (first | rw [bn24 hB] | rw [bn40 hB] | rw [bn56 hB] | rw [bn72 hB] | rw [bn27 hB] | rw [bn43 hB] | rw [bn25 hB] | rw [bn41 hB] | rw [bn88 hB] | rw [bn104 hB] | rw [bn120 hB] | rw [bn136 hB] | rw [bn152 hB] | rw [bn168 hB]); first | assumption | exact vp_in_nI (by omega) (by decide)) ?_
    rw [nI_clamp (by omega)]
    refine x_goto (t := 30) C 10 rfl (by decide) ?_
    exact x_ireturn C Z 16 rfl rfl rfl (aj_lf (hK i hi rfl) (by simp [*]))
set_option maxRecDepth 100000 in
set_option maxHeartbeats 800000 in
theorem s_X3_centreAt {l : Launch} {I : Nat → Nat → Int32} {J : Nat → Nat → Int64} {V : Nat → Nat → Option Nat} {N : Nat → Nat} {L : List Nat} {K : aj_K} {b : Bool} (hB : bV V N L) (hK : K (.inl (some (.int (if b = true then I 40 12 else I 24 12)))) I J V N L) : aj_M l yX3_centreAt (aj_wc yX3_centreAt cX3_centreAt 2 (some .int)) (aj_rm 2 0 0) [] [.ref 20, .int (bI b)] I J V N L K := by
  refine aj_intro (tbl := t_X3_centreAt) (lv0 := [some (.ref 20), some (.int (bI b))]) (by decide) T_X3_centreAt aj_f0 (Nat.le_of_ble_eq_true rfl) rfl ?_
  intro G hl C Z NX hnm hGL hGF
  have C : aj_C G cX3_centreAt t_X3_centreAt RX3 (aj_rm 2 0 0) 2 := C
  refine y_iload1 (q := 1) C 0 rfl rfl ?_
  refine x_if_eqB (q := 4) (t := 17) C 1 rfl (by decide) rfl (fun c1 => ?_) (fun c1 => ?_)
  · skip
    refine y_aload0 (q := 18) C 8 rfl rfl ?_
    refine x_getR (q := 21) C 9 rfl rfl fl_RX3_33 (bv_4_5 hB) (fun _ _ => rfl) (by first | assumption | rfl | decide | exact bL hB _ (by decide) | exact vc3 hB (by omega) | exact vcL hB (by omega)) (by first | assumption | rfl | decide | exact bL hB _ (by decide) | exact vc3 hB (by omega) | exact vcL hB (by omega)) ?_
    refine x_getR (q := 24) C 10 rfl rfl fl_RX3_173 (bv_2_0 hB) (fun _ _ => rfl) (by first | assumption | rfl | decide | exact bL hB _ (by decide) | exact vc3 hB (by omega) | exact vcL hB (by omega)) (by first | assumption | rfl | decide | exact bL hB _ (by decide) | exact vc3 hB (by omega) | exact vcL hB (by omega)) ?_
    refine x_bipush (q := 26) C 11 (n := (12)) (v := nI 12) rfl rfl rfl ?_
    refine x_iald (q := 27) C 12 rfl rfl (by first | assumption | rfl | decide | exact bL hB _ (by decide) | exact vc3 hB (by omega) | exact vcL hB (by omega)) (by first | assumption | rfl | decide | exact bL hB _ (by decide) | exact vc3 hB (by omega) | exact vcL hB (by omega)) (by (first | rw [bn24 hB] | rw [bn40 hB] | rw [bn56 hB] | rw [bn72 hB] | rw [bn27 hB] | rw [bn43 hB] | rw [bn25 hB] | rw [bn41 hB] | rw [bn88 hB] | rw [bn104 hB] | rw [bn120 hB] | rw [bn136 hB] | rw [bn152 hB] | rw [bn168 hB]); first | assumption | exact vp_in_nI (by omega) (by decide)) ?_
    rw [nI_clamp (by omega)]
    exact x_ireturn C Z 13 rfl rfl rfl (aj_lf hK (by simp [*]))
  · skip
    refine y_aload0 (q := 5) C 2 rfl rfl ?_
    refine x_getR (q := 8) C 3 rfl rfl fl_RX3_33 (bv_4_5 hB) (fun _ _ => rfl) (by first | assumption | rfl | decide | exact bL hB _ (by decide) | exact vc3 hB (by omega) | exact vcL hB (by omega)) (by first | assumption | rfl | decide | exact bL hB _ (by decide) | exact vc3 hB (by omega) | exact vcL hB (by omega)) ?_
    refine x_getR (q := 11) C 4 rfl rfl fl_RX3_170 (bv_2_1 hB) (fun _ _ => rfl) (by first | assumption | rfl | decide | exact bL hB _ (by decide) | exact vc3 hB (by omega) | exact vcL hB (by omega)) (by first | assumption | rfl | decide | exact bL hB _ (by decide) | exact vc3 hB (by omega) | exact vcL hB (by omega)) ?_
    refine x_bipush (q := 13) C 5 (n := (12)) (v := nI 12) rfl rfl rfl ?_
    refine x_iald (q := 14) C 6 rfl rfl (by first | assumption | rfl | decide | exact bL hB _ (by decide) | exact vc3 hB (by omega) | exact vcL hB (by omega)) (by first | assumption | rfl | decide | exact bL hB _ (by decide) | exact vc3 hB (by omega) | exact vcL hB (by omega)) (by (first | rw [bn24 hB] | rw [bn40 hB] | rw [bn56 hB] | rw [bn72 hB] | rw [bn27 hB] | rw [bn43 hB] | rw [bn25 hB] | rw [bn41 hB] | rw [bn88 hB] | rw [bn104 hB] | rw [bn120 hB] | rw [bn136 hB] | rw [bn152 hB] | rw [bn168 hB]); first | assumption | exact vp_in_nI (by omega) (by decide)) ?_
    rw [nI_clamp (by omega)]
    refine x_goto (t := 27) C 7 rfl (by decide) ?_
    exact x_ireturn C Z 13 rfl rfl rfl (aj_lf hK (by simp [*]))
set_option maxRecDepth 100000 in
set_option maxHeartbeats 800000 in
theorem s_X3_bearing {l : Launch} {I : Nat → Nat → Int32} {J : Nat → Nat → Int64} {V : Nat → Nat → Option Nat} {N : Nat → Nat} {L : List Nat} {K : aj_K} {x y d : Int32} {n : Nat} (hn : n ≤ 12) (hc : I 18 2 = nI n) (hB : bV V N L) (hXO : (vOk n x && vOk n y) = false → K (.inr "java/lang/IndexOutOfBoundsException") I J V N L) (hXA : (vOk n x && vOk n y) = true → pIn d 0 29 = false → K (.inr "java/lang/IllegalArgumentException") I J V N L) (hR : ∀ i : Nat, i < n → x = nI i → y = nI i → 0 ≤ d → d ≤ 29 → K (.inl (some (.int (-9)))) I J V N L) (hK : ∀ i j : Nat, i < n → j < n → i ≠ j → x = nI i → y = nI j → 0 ≤ d → d ≤ 29 → K (.inl (some (.int (pRD (pAng (I 24 j - I 24 i) (I 40 j - I 40 i) (pSg (I 24 j - I 24 i) (I 40 j - I 40 i) 0) (pLk (I 24 j - I 24 i) (I 40 j - I 40 i) 0)) d)))) (stB I 163 (I 24 j - I 24 i) (I 40 j - I 40 i) 0) J V N L) : aj_M l yX3_bearing (aj_wc yX3_bearing cX3_bearing 4 (some .int)) (aj_rm 4 3 18) [] [.ref 20, .int x, .int y, .int d] I J V N L K := by
  refine aj_intro (tbl := t_X3_bearing) (lv0 := [some (.ref 20), some (.int x), some (.int y), some (.int d)]) (by decide) T_X3_bearing aj_f0 (Nat.le_of_ble_eq_true rfl) rfl ?_
  intro G hl C Z NX hnm hGL hGF
  have C : aj_C G cX3_bearing t_X3_bearing RX3 (aj_rm 4 3 18) 4 := C
  refine y_aload0 (q := 1) C 0 rfl rfl ?_
  refine y_iload1 (q := 2) C 1 rfl rfl ?_
  refine y_dV1 (q := 5) C 2 rfl rfl ml_RX3_70 cd_X3_checkPlace cv_X3_checkPlace ⟨by decide, rfl⟩ (by first | assumption | rfl | decide | exact bL hB _ (by decide) | exact vc3 hB (by omega) | exact vcL hB (by omega)) (by decide) (by decide) (Nat.le_of_ble_eq_true rfl) (bc' := 2) (bs' := 12) rfl rfl (s_X3_checkPlace hn hc hB (fun i hi ei => ?_) (fun hn1 => x_out C Z NX (hXO (and_f1 (vOk_f hn hn1)))))
  show aj_X G 5 _ _ _ _ _ _ _ _ _
  refine y_aload0 (q := 6) C 3 rfl rfl ?_
  refine y_iload2 (q := 7) C 4 rfl rfl ?_
  refine y_dV1 (q := 10) C 5 rfl rfl ml_RX3_70 cd_X3_checkPlace cv_X3_checkPlace ⟨by decide, rfl⟩ (by first | assumption | rfl | decide | exact bL hB _ (by decide) | exact vc3 hB (by omega) | exact vcL hB (by omega)) (by decide) (by decide) (Nat.le_of_ble_eq_true rfl) (bc' := 1) (bs' := 6) rfl rfl (s_X3_checkPlace hn hc hB (fun j hj ej => ?_) (fun hn1 => x_out C Z NX (hXO (and_f2 (vOk_f hn hn1)))))
  show aj_X G 10 _ _ _ _ _ _ _ _ _
  refine y_iload3 (q := 11) C 6 rfl rfl ?_
  refine x_iconst (q := 12) C 7 (n := (0)) (v := (0)) rfl rfl rfl ?_
  refine x_bipush (q := 14) C 8 (n := (29)) (v := (29)) rfl rfl rfl ?_
  refine y_dS3 (q := 17) C 9 rfl rfl ml_RX3_41 cd_X3_checkBetween sv_X3_checkBetween (by decide) (by decide) (Nat.le_of_ble_eq_true rfl) (bc' := 0) (bs' := 0) rfl rfl (s_X3_checkBetween (fun h1 h2 => ?_) (fun hn1 => x_out C Z NX (hXA (and_t (by rw [ei]; exact vOk_t hn hi) (by rw [ej]; exact vOk_t hn hj)) (pIn_f hn1))))
  show aj_X G 17 _ _ _ _ _ _ _ _ _
  subst ei
  subst ej
  refine y_iload1 (q := 18) C 10 rfl rfl ?_
  refine y_iload2 (q := 19) C 11 rfl rfl ?_
  refine x_icmp_ne (q := 22) (t := 25) C 12 rfl (by decide) rfl (fun c1 => ?_) (fun c1 => ?_)
  · skip
    refine y_aload0 (q := 26) C 15 rfl rfl ?_
    refine x_getR (q := 29) C 16 rfl rfl fl_RX3_33 (bv_4_5 hB) (fun _ _ => rfl) (by first | assumption | rfl | decide | exact bL hB _ (by decide) | exact vc3 hB (by omega) | exact vcL hB (by omega)) (by first | assumption | rfl | decide | exact bL hB _ (by decide) | exact vc3 hB (by omega) | exact vcL hB (by omega)) ?_
    refine y_aload0 (q := 30) C 17 rfl rfl ?_
    refine x_getR (q := 33) C 18 rfl rfl fl_RX3_27 (bv_4_4 hB) (fun _ _ => rfl) (by first | assumption | rfl | decide | exact bL hB _ (by decide) | exact vc3 hB (by omega) | exact vcL hB (by omega)) (by first | assumption | rfl | decide | exact bL hB _ (by decide) | exact vc3 hB (by omega) | exact vcL hB (by omega)) ?_
    refine y_iload1 (q := 34) C 19 rfl rfl ?_
    refine y_iload2 (q := 35) C 20 rfl rfl ?_
    refine y_cV3 (q := 38) C 21 rfl rfl ml_RX3_73 cd_X1_stepBetween cv_X1_stepBetween ⟨by decide, rfl⟩ (by first | assumption | rfl | decide | exact bL hB _ (by decide) | exact vc3 hB (by omega) | exact vcL hB (by omega)) (by decide) (by decide) (Nat.le_of_ble_eq_true rfl) (s_X1_stepBetween (by decide) (bL hB _ (by decide)) (i := i) (j := j) (by omega) (by omega) hB ?_)
    show aj_X G 38 _ _ _ _ _ _ _ _ _
    refine y_aload0 (q := 39) C 22 rfl rfl ?_
    refine x_getR (q := 42) C 23 rfl rfl fl_RX3_27 (bv_4_4 hB) (fun _ _ => rfl) (by first | assumption | rfl | decide | exact bL hB _ (by decide) | exact vc3 hB (by omega) | exact vcL hB (by omega)) (by first | assumption | rfl | decide | exact bL hB _ (by decide) | exact vc3 hB (by omega) | exact vcL hB (by omega)) ?_
    refine y_cV0 (q := 45) C 24 rfl rfl ml_RX3_103 cd_X2_angle cv_X2_angle (by first | exact ⟨by decide, rfl⟩ | exact vcR hB (by omega)) (by first | assumption | rfl | decide | exact bL hB _ (by decide) | exact vc3 hB (by omega) | exact vcL hB (by omega)) (by decide) (by decide) (Nat.le_of_ble_eq_true rfl) (s_X2_angle (by first | assumption | rfl | decide | exact bL hB _ (by decide) | exact vc3 hB (by omega) | exact vcL hB (by omega)) (by first | assumption | rfl | decide | exact bL hB _ (by decide) | exact vc3 hB (by omega) | exact vcL hB (by omega)) ?_)
    rw [stB_0, stB_1, stB_2, stB_3]
    show aj_X G 45 _ _ _ _ _ _ _ _ _
    refine y_iload3 (q := 46) C 25 rfl rfl ?_
    refine y_cS2 (q := 49) C 26 rfl rfl ml_RX3_118 cd_X0_roundDown sv_X0_roundDown (by decide) (by decide) (Nat.le_of_ble_eq_true rfl) (s_X0_roundDown ?_)
    show aj_X G 49 _ _ _ _ _ _ _ _ _
    exact x_ireturn C Z 27 rfl rfl rfl (hK i j hi hj (fun z => absurd (congrArg nI z) (by assumption)) rfl rfl h1 h2)
  · skip
    refine x_bipush (q := 24) C 13 (n := (-9)) (v := (-9)) rfl rfl rfl ?_
    exact x_ireturn C Z 14 rfl rfl rfl (hR i hi rfl (by rw [(nI_eq (by omega) (by omega)).mp (by assumption : nI i = nI j)]) h1 h2)
set_option maxRecDepth 100000 in
set_option maxHeartbeats 800000 in
theorem s_X3_bearingOrder {l : Launch} {I : Nat → Nat → Int32} {J : Nat → Nat → Int64} {V : Nat → Nat → Option Nat} {N : Nat → Nat} {L : List Nat} {K : aj_K} {x y z : Int32} {n : Nat} (hn : n ≤ 12) (hc : I 18 2 = nI n) (hB : bV V N L) (hXO : (∀ j : Nat, j < n → ¬ x = nI j) ∨ (∀ j : Nat, j < n → ¬ y = nI j) ∨ (∀ j : Nat, j < n → ¬ z = nI j) → K (.inr "java/lang/IndexOutOfBoundsException") I J V N L) (hR : ∀ i j k : Nat, i < n → j < n → k < n → x = nI i → y = nI j → z = nI k → (j = i ∨ k = i) → K (.inl (some (.int (-9)))) I J V N L) (hK : ∀ i j k : Nat, i < n → j < n → k < n → x = nI i → y = nI j → z = nI k → j ≠ i → k ≠ i → K (.inl (some (.int (pOW (I 24 j - I 24 i) (I 40 j - I 40 i) (I 24 k - I 24 i) (I 40 k - I 40 i))))) (tS I (I 24 j - I 24 i) (I 40 j - I 40 i) (I 24 k - I 24 i) (I 40 k - I 40 i)) J V N L) : aj_M l yX3_bearingOrder (aj_wc yX3_bearingOrder cX3_bearingOrder 4 (some .int)) (aj_rm 4 3 18) [] [.ref 20, .int x, .int y, .int z] I J V N L K := by
  refine aj_intro (tbl := t_X3_bearingOrder) (lv0 := [some (.ref 20), some (.int x), some (.int y), some (.int z)]) (by decide) T_X3_bearingOrder aj_f0 (Nat.le_of_ble_eq_true rfl) rfl ?_
  intro G hl C Z NX hnm hGL hGF
  have C : aj_C G cX3_bearingOrder t_X3_bearingOrder RX3 (aj_rm 4 3 18) 4 := C
  refine y_aload0 (q := 1) C 0 rfl rfl ?_
  refine y_iload1 (q := 2) C 1 rfl rfl ?_
  refine y_dV1 (q := 5) C 2 rfl rfl ml_RX3_70 cd_X3_checkPlace cv_X3_checkPlace ⟨by decide, rfl⟩ (by first | assumption | rfl | decide | exact bL hB _ (by decide) | exact vc3 hB (by omega) | exact vcL hB (by omega)) (by decide) (by decide) (Nat.le_of_ble_eq_true rfl) (bc' := 2) (bs' := 12) rfl rfl (s_X3_checkPlace hn hc hB (fun i hi ei => ?_) (fun hn1 => x_out C Z NX (hXO (Or.inl hn1))))
  show aj_X G 5 _ _ _ _ _ _ _ _ _
  refine y_aload0 (q := 6) C 3 rfl rfl ?_
  refine y_iload2 (q := 7) C 4 rfl rfl ?_
  refine y_dV1 (q := 10) C 5 rfl rfl ml_RX3_70 cd_X3_checkPlace cv_X3_checkPlace ⟨by decide, rfl⟩ (by first | assumption | rfl | decide | exact bL hB _ (by decide) | exact vc3 hB (by omega) | exact vcL hB (by omega)) (by decide) (by decide) (Nat.le_of_ble_eq_true rfl) (bc' := 1) (bs' := 6) rfl rfl (s_X3_checkPlace hn hc hB (fun j hj ej => ?_) (fun hn1 => x_out C Z NX (hXO (Or.inr (Or.inl hn1)))))
  show aj_X G 10 _ _ _ _ _ _ _ _ _
  refine y_aload0 (q := 11) C 6 rfl rfl ?_
  refine y_iload3 (q := 12) C 7 rfl rfl ?_
  refine y_dV1 (q := 15) C 8 rfl rfl ml_RX3_70 cd_X3_checkPlace cv_X3_checkPlace ⟨by decide, rfl⟩ (by first | assumption | rfl | decide | exact bL hB _ (by decide) | exact vc3 hB (by omega) | exact vcL hB (by omega)) (by decide) (by decide) (Nat.le_of_ble_eq_true rfl) (bc' := 0) (bs' := 0) rfl rfl (s_X3_checkPlace hn hc hB (fun k hk ek => ?_) (fun hn1 => x_out C Z NX (hXO (Or.inr (Or.inr hn1)))))
  show aj_X G 15 _ _ _ _ _ _ _ _ _
  subst ei
  subst ej
  subst ek
  refine y_iload2 (q := 16) C 9 rfl rfl ?_
  refine y_iload1 (q := 17) C 10 rfl rfl ?_
  refine x_icmp_eq (q := 20) (t := 25) C 11 rfl (by decide) rfl (fun c1 => ?_) (fun c1 => ?_)
  · skip
    refine x_bipush (q := 27) C 15 (n := (-9)) (v := (-9)) rfl rfl rfl ?_
    exact x_ireturn C Z 16 rfl rfl rfl (hR i j k hi hj hk rfl rfl rfl (Or.inl ((nI_eq (by omega) (by omega)).mp (by assumption))))
  · skip
    refine y_iload3 (q := 21) C 12 rfl rfl ?_
    refine y_iload1 (q := 22) C 13 rfl rfl ?_
    refine x_icmp_ne (q := 25) (t := 28) C 14 rfl (by decide) rfl (fun c2 => ?_) (fun c2 => ?_)
    · skip
      refine y_aload0 (q := 29) C 17 rfl rfl ?_
      refine x_getR (q := 32) C 18 rfl rfl fl_RX3_33 (bv_4_5 hB) (fun _ _ => rfl) (by first | assumption | rfl | decide | exact bL hB _ (by decide) | exact vc3 hB (by omega) | exact vcL hB (by omega)) (by first | assumption | rfl | decide | exact bL hB _ (by decide) | exact vc3 hB (by omega) | exact vcL hB (by omega)) ?_
      refine y_iload1 (q := 33) C 19 rfl rfl ?_
      refine y_iload2 (q := 34) C 20 rfl rfl ?_
      refine y_iload3 (q := 35) C 21 rfl rfl ?_
      refine y_cV3 (q := 38) C 22 rfl rfl ml_RX3_176 cd_X1_orderFrom cv_X1_orderFrom ⟨by decide, rfl⟩ (by first | assumption | rfl | decide | exact bL hB _ (by decide) | exact vc3 hB (by omega) | exact vcL hB (by omega)) (by decide) (by decide) (Nat.le_of_ble_eq_true rfl) (s_X1_orderFrom (by omega) (by omega) (by omega) hB ?_)
      show aj_X G 38 _ _ _ _ _ _ _ _ _
      exact x_ireturn C Z 23 rfl rfl rfl (hK i j k hi hj hk rfl rfl rfl (fun w => absurd (congrArg nI w) (by assumption)) (fun w => absurd (congrArg nI w) (by assumption)))
    · skip
      refine x_bipush (q := 27) C 15 (n := (-9)) (v := (-9)) rfl rfl rfl ?_
      exact x_ireturn C Z 16 rfl rfl rfl (hR i j k hi hj hk rfl rfl rfl (Or.inr ((nI_eq (by omega) (by omega)).mp (by assumption))))
set_option maxRecDepth 100000 in
set_option maxHeartbeats 800000 in
theorem s_X3_left {l : Launch} {I : Nat → Nat → Int32} {J : Nat → Nat → Int64} {V : Nat → Nat → Option Nat} {N : Nat → Nat} {L : List Nat} {K : aj_K} {x y z : Int32} {n : Nat} (hn : n ≤ 12) (hc : I 18 2 = nI n) (hB : bV V N L) (hXO : (∀ j : Nat, j < n → ¬ x = nI j) ∨ (∀ j : Nat, j < n → ¬ y = nI j) ∨ (∀ j : Nat, j < n → ¬ z = nI j) → K (.inr "java/lang/IndexOutOfBoundsException") I J V N L) (hR : ∀ i j k : Nat, i < n → j < n → k < n → x = nI i → y = nI j → z = nI k → (j = i ∨ k = i) → K (.inl (some (.int (-9)))) I J V N L) (hK : ∀ i j k : Nat, i < n → j < n → k < n → x = nI i → y = nI j → z = nI k → j ≠ i → k ≠ i → K (.inl (some (.int (pSgn (pCr (I 24 i) (I 40 i) (I 24 j) (I 40 j) (I 24 k) (I 40 k)).toInt64)))) I J V N L) : aj_M l yX3_left (aj_wc yX3_left cX3_left 4 (some .int)) (aj_rm 4 3 18) [] [.ref 20, .int x, .int y, .int z] I J V N L K := by
  refine aj_intro (tbl := t_X3_left) (lv0 := [some (.ref 20), some (.int x), some (.int y), some (.int z)]) (by decide) T_X3_left aj_f0 (Nat.le_of_ble_eq_true rfl) rfl ?_
  intro G hl C Z NX hnm hGL hGF
  have C : aj_C G cX3_left t_X3_left RX3 (aj_rm 4 3 18) 4 := C
  refine y_aload0 (q := 1) C 0 rfl rfl ?_
  refine y_iload1 (q := 2) C 1 rfl rfl ?_
  refine y_dV1 (q := 5) C 2 rfl rfl ml_RX3_70 cd_X3_checkPlace cv_X3_checkPlace ⟨by decide, rfl⟩ (by first | assumption | rfl | decide | exact bL hB _ (by decide) | exact vc3 hB (by omega) | exact vcL hB (by omega)) (by decide) (by decide) (Nat.le_of_ble_eq_true rfl) (bc' := 2) (bs' := 12) rfl rfl (s_X3_checkPlace hn hc hB (fun i hi ei => ?_) (fun hn1 => x_out C Z NX (hXO (Or.inl hn1))))
  show aj_X G 5 _ _ _ _ _ _ _ _ _
  refine y_aload0 (q := 6) C 3 rfl rfl ?_
  refine y_iload2 (q := 7) C 4 rfl rfl ?_
  refine y_dV1 (q := 10) C 5 rfl rfl ml_RX3_70 cd_X3_checkPlace cv_X3_checkPlace ⟨by decide, rfl⟩ (by first | assumption | rfl | decide | exact bL hB _ (by decide) | exact vc3 hB (by omega) | exact vcL hB (by omega)) (by decide) (by decide) (Nat.le_of_ble_eq_true rfl) (bc' := 1) (bs' := 6) rfl rfl (s_X3_checkPlace hn hc hB (fun j hj ej => ?_) (fun hn1 => x_out C Z NX (hXO (Or.inr (Or.inl hn1)))))
  show aj_X G 10 _ _ _ _ _ _ _ _ _
  refine y_aload0 (q := 11) C 6 rfl rfl ?_
  refine y_iload3 (q := 12) C 7 rfl rfl ?_
  refine y_dV1 (q := 15) C 8 rfl rfl ml_RX3_70 cd_X3_checkPlace cv_X3_checkPlace ⟨by decide, rfl⟩ (by first | assumption | rfl | decide | exact bL hB _ (by decide) | exact vc3 hB (by omega) | exact vcL hB (by omega)) (by decide) (by decide) (Nat.le_of_ble_eq_true rfl) (bc' := 0) (bs' := 0) rfl rfl (s_X3_checkPlace hn hc hB (fun k hk ek => ?_) (fun hn1 => x_out C Z NX (hXO (Or.inr (Or.inr hn1)))))
  show aj_X G 15 _ _ _ _ _ _ _ _ _
  subst ei
  subst ej
  subst ek
  refine y_iload2 (q := 16) C 9 rfl rfl ?_
  refine y_iload1 (q := 17) C 10 rfl rfl ?_
  refine x_icmp_eq (q := 20) (t := 25) C 11 rfl (by decide) rfl (fun c1 => ?_) (fun c1 => ?_)
  · skip
    refine x_bipush (q := 27) C 15 (n := (-9)) (v := (-9)) rfl rfl rfl ?_
    exact x_ireturn C Z 16 rfl rfl rfl (hR i j k hi hj hk rfl rfl rfl (Or.inl ((nI_eq (by omega) (by omega)).mp (by assumption))))
  · skip
    refine y_iload3 (q := 21) C 12 rfl rfl ?_
    refine y_iload1 (q := 22) C 13 rfl rfl ?_
    refine x_icmp_ne (q := 25) (t := 28) C 14 rfl (by decide) rfl (fun c2 => ?_) (fun c2 => ?_)
    · skip
      refine y_aload0 (q := 29) C 17 rfl rfl ?_
      refine x_getR (q := 32) C 18 rfl rfl fl_RX3_33 (bv_4_5 hB) (fun _ _ => rfl) (by first | assumption | rfl | decide | exact bL hB _ (by decide) | exact vc3 hB (by omega) | exact vcL hB (by omega)) (by first | assumption | rfl | decide | exact bL hB _ (by decide) | exact vc3 hB (by omega) | exact vcL hB (by omega)) ?_
      refine y_iload1 (q := 33) C 19 rfl rfl ?_
      refine y_iload2 (q := 34) C 20 rfl rfl ?_
      refine y_iload3 (q := 35) C 21 rfl rfl ?_
      refine y_cV3 (q := 38) C 22 rfl rfl ml_RX3_180 cd_X1_cross cv_X1_cross ⟨by decide, rfl⟩ (by first | assumption | rfl | decide | exact bL hB _ (by decide) | exact vc3 hB (by omega) | exact vcL hB (by omega)) (by decide) (by decide) (Nat.le_of_ble_eq_true rfl) (s_X1_cross (by omega) (by omega) (by omega) hB ?_)
      show aj_X G 38 _ _ _ _ _ _ _ _ _
      refine x_i2l (q := 39) C 23 rfl rfl ?_
      refine y_cS1 (q := 42) C 24 rfl rfl ml_RX3_183 cd_X3_signOf sv_X3_signOf (by decide) (by decide) (Nat.le_of_ble_eq_true rfl) (s_X3_signOf ?_)
      show aj_X G 42 _ _ _ _ _ _ _ _ _
      exact x_ireturn C Z 25 rfl rfl rfl (hK i j k hi hj hk rfl rfl rfl (fun w => absurd (congrArg nI w) (by assumption)) (fun w => absurd (congrArg nI w) (by assumption)))
    · skip
      refine x_bipush (q := 27) C 15 (n := (-9)) (v := (-9)) rfl rfl rfl ?_
      exact x_ireturn C Z 16 rfl rfl rfl (hR i j k hi hj hk rfl rfl rfl (Or.inr ((nI_eq (by omega) (by omega)).mp (by assumption))))
set_option maxRecDepth 100000 in
set_option maxHeartbeats 800000 in
theorem s_X3_roundCount {l : Launch} {I : Nat → Nat → Int32} {J : Nat → Nat → Int64} {V : Nat → Nat → Option Nat} {N : Nat → Nat} {L : List Nat} {K : aj_K} {n : Nat} (hn : n ≤ 12) (hf : fW I n) (hB : bV V N L) (hK : ∀ rc : Nat, rc ≤ n → I 18 4 = nI rc → rc = cnt (oP I) n → K (.inl (some (.int (nI rc)))) I J V N L) : aj_M l yX3_roundCount (aj_wc yX3_roundCount cX3_roundCount 1 (some .int)) (aj_rm 2 0 0) [] [.ref 20] I J V N L K := by
  refine aj_intro (tbl := t_X3_roundCount) (lv0 := [some (.ref 20)]) (by decide) T_X3_roundCount aj_f0 (Nat.le_of_ble_eq_true rfl) rfl ?_
  intro G hl C Z NX hnm hGL hGF
  have C : aj_C G cX3_roundCount t_X3_roundCount RX3 (aj_rm 2 0 0) 1 := C
  obtain ⟨rc, qc, hrn, hqn, hr, hq, hv, hw, hrc⟩ := hf
  refine y_aload0 (q := 1) C 0 rfl rfl ?_
  refine x_getR (q := 4) C 1 rfl rfl fl_RX3_33 (bv_4_5 hB) (fun _ _ => rfl) (by first | assumption | rfl | decide | exact bL hB _ (by decide) | exact vc3 hB (by omega) | exact vcL hB (by omega)) (by first | assumption | rfl | decide | exact bL hB _ (by decide) | exact vc3 hB (by omega) | exact vcL hB (by omega)) ?_
  refine x_getI (q := 7) C 2 rfl rfl fl_RX3_186 (fun _ _ => rfl) (by first | assumption | rfl | decide | exact bL hB _ (by decide) | exact vc3 hB (by omega) | exact vcL hB (by omega)) (by first | assumption | rfl | decide | exact bL hB _ (by decide) | exact vc3 hB (by omega) | exact vcL hB (by omega)) ?_
  rw [hr]
  exact x_ireturn C Z 3 rfl rfl rfl (hK rc hrn hr hrc)
set_option maxRecDepth 100000 in
set_option maxHeartbeats 800000 in
theorem s_X3_hullCount {l : Launch} {I : Nat → Nat → Int32} {J : Nat → Nat → Int64} {V : Nat → Nat → Option Nat} {N : Nat → Nat} {L : List Nat} {K : aj_K} {n : Nat} (hn : n ≤ 12) (hf : fW I n) (hB : bV V N L) (hK : ∀ rc : Nat, rc ≤ n → I 18 6 = nI rc → K (.inl (some (.int (nI rc)))) I J V N L) : aj_M l yX3_hullCount (aj_wc yX3_hullCount cX3_hullCount 1 (some .int)) (aj_rm 2 0 0) [] [.ref 20] I J V N L K := by
  refine aj_intro (tbl := t_X3_hullCount) (lv0 := [some (.ref 20)]) (by decide) T_X3_hullCount aj_f0 (Nat.le_of_ble_eq_true rfl) rfl ?_
  intro G hl C Z NX hnm hGL hGF
  have C : aj_C G cX3_hullCount t_X3_hullCount RX3 (aj_rm 2 0 0) 1 := C
  obtain ⟨rc, qc, hrn, hqn, hr, hq, hv, hw, hrc⟩ := hf
  refine y_aload0 (q := 1) C 0 rfl rfl ?_
  refine x_getR (q := 4) C 1 rfl rfl fl_RX3_33 (bv_4_5 hB) (fun _ _ => rfl) (by first | assumption | rfl | decide | exact bL hB _ (by decide) | exact vc3 hB (by omega) | exact vcL hB (by omega)) (by first | assumption | rfl | decide | exact bL hB _ (by decide) | exact vc3 hB (by omega) | exact vcL hB (by omega)) ?_
  refine x_getI (q := 7) C 2 rfl rfl fl_RX3_202 (fun _ _ => rfl) (by first | assumption | rfl | decide | exact bL hB _ (by decide) | exact vc3 hB (by omega) | exact vcL hB (by omega)) (by first | assumption | rfl | decide | exact bL hB _ (by decide) | exact vc3 hB (by omega) | exact vcL hB (by omega)) ?_
  rw [hq]
  exact x_ireturn C Z 3 rfl rfl rfl (hK qc hqn hq)
set_option maxRecDepth 100000 in
set_option maxHeartbeats 800000 in
theorem s_X3_isStar {l : Launch} {I : Nat → Nat → Int32} {J : Nat → Nat → Int64} {V : Nat → Nat → Option Nat} {N : Nat → Nat} {L : List Nat} {K : aj_K} {n : Nat} (hn : n ≤ 12) (hf : fW I n) (hB : bV V N L) (hK : ∀ (b : Bool) (I1 : Nat → Nat → Int32), eqO sX I I1 → K (.inl (some (.int (bI b)))) I1 J V N L) : aj_M l yX3_isStar (aj_wc yX3_isStar cX3_isStar 1 (some .boolean)) (aj_rm 4 0 0) [] [.ref 20] I J V N L K := by
  refine aj_intro (tbl := t_X3_isStar) (lv0 := [some (.ref 20)]) (by decide) T_X3_isStar aj_f0 (Nat.le_of_ble_eq_true rfl) rfl ?_
  intro G hl C Z NX hnm hGL hGF
  have C : aj_C G cX3_isStar t_X3_isStar RX3 (aj_rm 4 0 0) 1 := C
  refine y_aload0 (q := 1) C 0 rfl rfl ?_
  refine x_getR (q := 4) C 1 rfl rfl fl_RX3_33 (bv_4_5 hB) (fun _ _ => rfl) (by first | assumption | rfl | decide | exact bL hB _ (by decide) | exact vc3 hB (by omega) | exact vcL hB (by omega)) (by first | assumption | rfl | decide | exact bL hB _ (by decide) | exact vc3 hB (by omega) | exact vcL hB (by omega)) ?_
  refine y_cV0 (q := 7) C 2 rfl rfl ml_RX3_196 cd_X1_isRoundStar cv_X1_isRoundStar ⟨by decide, rfl⟩ (by first | assumption | rfl | decide | exact bL hB _ (by decide) | exact vc3 hB (by omega) | exact vcL hB (by omega)) (by decide) (by decide) (Nat.le_of_ble_eq_true rfl) (s_X1_isRoundStar hn hf hB ?_)
  intro b I1 hE
  show aj_X G 7 _ _ _ _ _ _ _ _ _
  exact x_ireturn C Z 3 rfl rfl (bI_nar _) (hK b I1 hE)
set_option maxRecDepth 100000 in
set_option maxHeartbeats 800000 in
theorem s_X3_starArea {l : Launch} {I : Nat → Nat → Int32} {J : Nat → Nat → Int64} {V : Nat → Nat → Option Nat} {N : Nat → Nat} {L : List Nat} {K : aj_K} {n : Nat} (hn : n ≤ 12) (hf : fW I n) (hB : bV V N L) (hK : ∀ (r : Int32) (I1 : Nat → Nat → Int32), eqO sX I I1 → K (.inl (some (.int r))) I1 J V N L) : aj_M l yX3_starArea (aj_wc yX3_starArea cX3_starArea 1 (some .int)) (aj_rm 4 0 0) [] [.ref 20] I J V N L K := by
  refine aj_intro (tbl := t_X3_starArea) (lv0 := [some (.ref 20)]) (by decide) T_X3_starArea aj_f0 (Nat.le_of_ble_eq_true rfl) rfl ?_
  intro G hl C Z NX hnm hGL hGF
  have C : aj_C G cX3_starArea t_X3_starArea RX3 (aj_rm 4 0 0) 1 := C
  refine y_aload0 (q := 1) C 0 rfl rfl ?_
  refine x_getR (q := 4) C 1 rfl rfl fl_RX3_33 (bv_4_5 hB) (fun _ _ => rfl) (by first | assumption | rfl | decide | exact bL hB _ (by decide) | exact vc3 hB (by omega) | exact vcL hB (by omega)) (by first | assumption | rfl | decide | exact bL hB _ (by decide) | exact vc3 hB (by omega) | exact vcL hB (by omega)) ?_
  refine y_cV0 (q := 7) C 2 rfl rfl ml_RX3_199 cd_X1_areaOfStar cv_X1_areaOfStar ⟨by decide, rfl⟩ (by first | assumption | rfl | decide | exact bL hB _ (by decide) | exact vc3 hB (by omega) | exact vcL hB (by omega)) (by decide) (by decide) (Nat.le_of_ble_eq_true rfl) (s_X1_areaOfStar hn hf hB ?_)
  intro r I1 hE
  show aj_X G 7 _ _ _ _ _ _ _ _ _
  exact x_ireturn C Z 3 rfl rfl rfl (hK r I1 hE)
set_option maxRecDepth 100000 in
set_option maxHeartbeats 800000 in
theorem s_X3_hullArea {l : Launch} {I : Nat → Nat → Int32} {J : Nat → Nat → Int64} {V : Nat → Nat → Option Nat} {N : Nat → Nat} {L : List Nat} {K : aj_K} {n : Nat} (hn : n ≤ 12) (hf : fW I n) (hB : bV V N L) (hK : ∀ (r : Int32), K (.inl (some (.int r))) I J V N L) : aj_M l yX3_hullArea (aj_wc yX3_hullArea cX3_hullArea 1 (some .int)) (aj_rm 2 0 0) [] [.ref 20] I J V N L K := by
  refine aj_intro (tbl := t_X3_hullArea) (lv0 := [some (.ref 20)]) (by decide) T_X3_hullArea aj_f0 (Nat.le_of_ble_eq_true rfl) rfl ?_
  intro G hl C Z NX hnm hGL hGF
  have C : aj_C G cX3_hullArea t_X3_hullArea RX3 (aj_rm 2 0 0) 1 := C
  refine y_aload0 (q := 1) C 0 rfl rfl ?_
  refine x_getR (q := 4) C 1 rfl rfl fl_RX3_33 (bv_4_5 hB) (fun _ _ => rfl) (by first | assumption | rfl | decide | exact bL hB _ (by decide) | exact vc3 hB (by omega) | exact vcL hB (by omega)) (by first | assumption | rfl | decide | exact bL hB _ (by decide) | exact vc3 hB (by omega) | exact vcL hB (by omega)) ?_
  refine y_cV0 (q := 7) C 2 rfl rfl ml_RX3_164 cd_X1_areaOfHull cv_X1_areaOfHull ⟨by decide, rfl⟩ (by first | assumption | rfl | decide | exact bL hB _ (by decide) | exact vc3 hB (by omega) | exact vcL hB (by omega)) (by decide) (by decide) (Nat.le_of_ble_eq_true rfl) (s_X1_areaOfHull hn hf hB ?_)
  intro r
  show aj_X G 7 _ _ _ _ _ _ _ _ _
  exact x_ireturn C Z 3 rfl rfl rfl (hK r)
set_option maxRecDepth 100000 in
set_option maxHeartbeats 800000 in
theorem s_X3_rounds {l : Launch} {I : Nat → Nat → Int32} {J : Nat → Nat → Int64} {V : Nat → Nat → Option Nat} {N : Nat → Nat} {L : List Nat} {K : aj_K} {n : Nat} (hn : n ≤ 12) (hc : I 18 2 = nI n) (hB : bV V N L) (hK : K (.inl (some (.int (anRo (kW I))))) I J V N L) : aj_M l yX3_rounds (aj_wc yX3_rounds cX3_rounds 1 (some .int)) (aj_rm 3 0 0) [] [.ref 20] I J V N L K := by
  refine aj_intro (tbl := t_X3_rounds) (lv0 := [some (.ref 20)]) (by decide) T_X3_rounds aj_f0 (Nat.le_of_ble_eq_true rfl) rfl ?_
  intro G hl C Z NX hnm hGL hGF
  have C : aj_C G cX3_rounds t_X3_rounds RX3 (aj_rm 3 0 0) 1 := C
  refine y_aload0 (q := 1) C 0 rfl rfl ?_
  refine x_getR (q := 4) C 1 rfl rfl fl_RX3_33 (bv_4_5 hB) (fun _ _ => rfl) (by first | assumption | rfl | decide | exact bL hB _ (by decide) | exact vc3 hB (by omega) | exact vcL hB (by omega)) (by first | assumption | rfl | decide | exact bL hB _ (by decide) | exact vc3 hB (by omega) | exact vcL hB (by omega)) ?_
  refine y_cV0 (q := 7) C 2 rfl rfl ml_RX3_208 cd_X1_isCentreOnWalk cv_X1_isCentreOnWalk ⟨by decide, rfl⟩ (by first | assumption | rfl | decide | exact bL hB _ (by decide) | exact vc3 hB (by omega) | exact vcL hB (by omega)) (by decide) (by decide) (Nat.le_of_ble_eq_true rfl) (s_X1_isCentreOnWalk hn hc hB ?_)
  intro b hb1 hb2
  show aj_X G 7 _ _ _ _ _ _ _ _ _
  refine x_if_eqB (q := 10) (t := 15) C 3 rfl (by decide) rfl (fun c1 => ?_) (fun c1 => ?_)
  · skip
    refine y_aload0 (q := 16) C 6 rfl rfl ?_
    refine x_getR (q := 19) C 7 rfl rfl fl_RX3_33 (bv_4_5 hB) (fun _ _ => rfl) (by first | assumption | rfl | decide | exact bL hB _ (by decide) | exact vc3 hB (by omega) | exact vcL hB (by omega)) (by first | assumption | rfl | decide | exact bL hB _ (by decide) | exact vc3 hB (by omega) | exact vcL hB (by omega)) ?_
    refine y_cV0 (q := 22) C 8 rfl rfl ml_RX3_211 cd_X1_windings cv_X1_windings ⟨by decide, rfl⟩ (by first | assumption | rfl | decide | exact bL hB _ (by decide) | exact vc3 hB (by omega) | exact vcL hB (by omega)) (by decide) (by decide) (Nat.le_of_ble_eq_true rfl) (s_X1_windings hn hc hB ?_)
    show aj_X G 22 _ _ _ _ _ _ _ _ _
    exact x_ireturn C Z 9 rfl rfl rfl (aj_lf hK (by rw [kW_n hn hc, anRo_of]; exact wRo_f (hb2 (by assumption))))
  · skip
    refine x_bipush (q := 12) C 4 (n := (-9)) (v := (-9)) rfl rfl rfl ?_
    refine x_goto (t := 22) C 5 rfl (by decide) ?_
    exact x_ireturn C Z 9 rfl rfl rfl (aj_lf hK (by rw [kW_n hn hc, anRo_of]; obtain ⟨k, hk, e⟩ := hb1 (by assumption); exact wRo_t hk e))
set_option maxRecDepth 100000 in
set_option maxHeartbeats 800000 in
theorem s_X3_knock {l : Launch} {I : Nat → Nat → Int32} {J : Nat → Nat → Int64} {V : Nat → Nat → Option Nat} {N : Nat → Nat} {L : List Nat} {K : aj_K} (hB : bV V N L) (hK : K (.inl (some (.int (I 20 9 + 1)))) (aj_u I 20 9 (I 20 9 + 1)) J V N L) : aj_M l yX3_knock (aj_wc yX3_knock cX3_knock 1 (some .int)) (aj_rm 0 0 0) [] [.ref 20] I J V N L K := by
  refine aj_intro (tbl := t_X3_knock) (lv0 := [some (.ref 20)]) (by decide) T_X3_knock aj_f0 (Nat.le_of_ble_eq_true rfl) rfl ?_
  intro G hl C Z NX hnm hGL hGF
  have C : aj_C G cX3_knock t_X3_knock RX3 (aj_rm 0 0 0) 1 := C
  refine y_aload0 (q := 1) C 0 rfl rfl ?_
  refine x_dupr (q := 2) C 1 rfl rfl ?_
  refine x_getI (q := 5) C 2 rfl rfl fl_RX3_228 (fun _ _ => rfl) (by first | assumption | rfl | decide | exact bL hB _ (by decide) | exact vc3 hB (by omega) | exact vcL hB (by omega)) (by first | assumption | rfl | decide | exact bL hB _ (by decide) | exact vc3 hB (by omega) | exact vcL hB (by omega)) ?_
  refine x_iconst (q := 6) C 3 (n := (1)) (v := (1)) rfl rfl rfl ?_
  refine x_iadd (q := 7) C 4 rfl rfl ?_
  refine x_putI (q := 10) C 5 rfl rfl fl_RX3_228 rfl rfl (by first | assumption | rfl | decide | exact bL hB _ (by decide) | exact vc3 hB (by omega) | exact vcL hB (by omega)) (by first | assumption | rfl | decide | exact bL hB _ (by decide) | exact vc3 hB (by omega) | exact vcL hB (by omega)) ?_
  refine y_aload0 (q := 11) C 6 rfl rfl ?_
  refine x_getI (q := 14) C 7 rfl rfl fl_RX3_228 (fun _ _ => rfl) (by first | assumption | rfl | decide | exact bL hB _ (by decide) | exact vc3 hB (by omega) | exact vcL hB (by omega)) (by first | assumption | rfl | decide | exact bL hB _ (by decide) | exact vc3 hB (by omega) | exact vcL hB (by omega)) ?_
  rw [aj_u_s]
  exact x_ireturn C Z 8 rfl rfl rfl (hK)
set_option maxRecDepth 100000 in
set_option maxHeartbeats 800000 in
theorem s_X3_house {l : Launch} {I : Nat → Nat → Int32} {J : Nat → Nat → Int64} {V : Nat → Nat → Option Nat} {N : Nat → Nat} {L : List Nat} {K : aj_K} {x : Int32} (hB : bV V N L) (hXA : K (.inr "java/lang/IllegalArgumentException") I J V N L) (hK : ∀ w : Nat, w < 4 → x = nI w → K (.inl (some (.int (I 20 (6 + w))))) I J V N L) : aj_M l yX3_house (aj_wc yX3_house cX3_house 2 (some .int)) (aj_rm 1 1 6) [] [.ref 20, .int x] I J V N L K := by
  refine aj_intro (tbl := t_X3_house) (lv0 := [some (.ref 20), some (.int x)]) (by decide) T_X3_house aj_f0 (Nat.le_of_ble_eq_true rfl) rfl ?_
  intro G hl C Z NX hnm hGL hGF
  have C : aj_C G cX3_house t_X3_house RX3 (aj_rm 1 1 6) 2 := C
  refine y_iload1 (q := 1) C 0 rfl rfl ?_
  refine x_iconst (q := 2) C 1 (n := (0)) (v := (0)) rfl rfl rfl ?_
  refine x_iconst (q := 3) C 2 (n := (3)) (v := (3)) rfl rfl rfl ?_
  refine y_dS3 (q := 6) C 3 rfl rfl ml_RX3_41 cd_X3_checkBetween sv_X3_checkBetween (by decide) (by decide) (Nat.le_of_ble_eq_true rfl) (bc' := 0) (bs' := 0) rfl rfl (s_X3_checkBetween (fun h1 h2 => ?_) (fun _ => x_out C Z NX hXA))
  show aj_X G 6 _ _ _ _ _ _ _ _ _
  obtain ⟨w, hw, rfl⟩ : ∃ v : Nat, v < 4 ∧ x = nI v := by
    rcases pk_ix x (n := 4) (by decide) with h | h | h
    · exact absurd h1 (Int32.not_le.mpr h)
    · exact absurd (Int32.le_trans h h2) (by decide)
    · exact h
  refine y_iload1 (q := 7) C 4 rfl rfl ?_
  rcases (show w = 0 ∨ w = 1 ∨ w = 2 ∨ w = 3 by omega) with rfl | rfl | rfl | rfl
  · skip
    refine x_swIn (off := 25) (t := 32) C 5 rfl (by decide) (by decide) (by decide) (by decide) ?_
    refine y_aload0 (q := 33) C 6 rfl rfl ?_
    refine x_getI (q := 36) C 7 rfl rfl fl_RX3_85 (fun _ _ => rfl) (by first | assumption | rfl | decide | exact bL hB _ (by decide) | exact vc3 hB (by omega) | exact vcL hB (by omega)) (by first | assumption | rfl | decide | exact bL hB _ (by decide) | exact vc3 hB (by omega) | exact vcL hB (by omega)) ?_
    exact x_ireturn C Z 8 rfl rfl rfl (hK _ (by decide) rfl)
  · skip
    refine x_swIn (off := 30) (t := 37) C 5 rfl (by decide) (by decide) (by decide) (by decide) ?_
    refine y_aload0 (q := 38) C 9 rfl rfl ?_
    refine x_getI (q := 41) C 10 rfl rfl fl_RX3_148 (fun _ _ => rfl) (by first | assumption | rfl | decide | exact bL hB _ (by decide) | exact vc3 hB (by omega) | exact vcL hB (by omega)) (by first | assumption | rfl | decide | exact bL hB _ (by decide) | exact vc3 hB (by omega) | exact vcL hB (by omega)) ?_
    exact x_ireturn C Z 11 rfl rfl rfl (hK _ (by decide) rfl)
  · skip
    refine x_swIn (off := 35) (t := 42) C 5 rfl (by decide) (by decide) (by decide) (by decide) ?_
    refine y_aload0 (q := 43) C 12 rfl rfl ?_
    refine x_getI (q := 46) C 13 rfl rfl fl_RX3_100 (fun _ _ => rfl) (by first | assumption | rfl | decide | exact bL hB _ (by decide) | exact vc3 hB (by omega) | exact vcL hB (by omega)) (by first | assumption | rfl | decide | exact bL hB _ (by decide) | exact vc3 hB (by omega) | exact vcL hB (by omega)) ?_
    exact x_ireturn C Z 14 rfl rfl rfl (hK _ (by decide) rfl)
  · skip
    refine x_swOut (t := 47) C 5 rfl (by decide) (by decide) ?_
    refine y_aload0 (q := 48) C 15 rfl rfl ?_
    refine x_getI (q := 51) C 16 rfl rfl fl_RX3_228 (fun _ _ => rfl) (by first | assumption | rfl | decide | exact bL hB _ (by decide) | exact vc3 hB (by omega) | exact vcL hB (by omega)) (by first | assumption | rfl | decide | exact bL hB _ (by decide) | exact vc3 hB (by omega) | exact vcL hB (by omega)) ?_
    exact x_ireturn C Z 17 rfl rfl rfl (hK _ (by decide) rfl)
