set_option maxRecDepth 100000 in
set_option maxHeartbeats 800000 in
theorem s_X5_found {l : Launch} {I : Nat → Nat → Int32} {J : Nat → Nat → Int64} {V : Nat → Nat → Option Nat} {N : Nat → Nat} {L : List Nat} {K : aj_K} {j : Nat} {b : Bool} (hj : j < 8) (hM : mI I) (hB : bV V N L) (hK : K (.inl (some (.int (nI (fdN b (cV I) j))))) I J V N L) : aj_M l yX5_found (aj_wc yX5_found cX5_found 4 (some .int)) (aj_rm 3 0 0) [] [.ref 22, .int (nI j), .int (bI b)] I J V N L K := by
  refine aj_intro (tbl := t_X5_found) (lv0 := [some (.ref 22), some (.int (nI j)), some (.int (bI b)), none]) (by decide) T_X5_found aj_f0 (Nat.le_of_ble_eq_true rfl) rfl ?_
  intro G hl C Z NX hnm hGL hGF
  have C : aj_C G cX5_found t_X5_found RX5 (aj_rm 3 0 0) 4 := C
  refine y_iload2 (q := 1) C 0 rfl rfl ?_
  refine x_if_eqB (q := 4) (t := 9) C 1 rfl (by decide) rfl (fun c1 => ?_) (fun c1 => ?_)
  · skip
    refine x_iconst (q := 10) C 4 (n := (0)) (v := nI 0) rfl rfl rfl ?_
    refine y_istore3 (q := 11) C 5 rfl rfl (Nat.le_of_ble_eq_true rfl) rfl ?_
    have lp11 : ∀ (m i : Nat), i < 8 → (b = true → i = j + m) → (b = false → i + m = j) → (∀ q, q < 8 → (if b = true then i < q else q < i) → ¬ mOA I q j = 0) → aj_X G 11 [some (.ref 22), some (.int (nI j)), some (.int (bI b)), some (.int (nI i))] [] I J V N L 0 0 := by
      intro m
      induction m with
      | zero =>
        intro i hi hb1 hb2 hp
        refine y_aload0 (q := 12) C 6 rfl rfl ?_
        refine y_iload3 (q := 13) C 7 rfl rfl ?_
        refine y_iload1 (q := 14) C 8 rfl rfl ?_
        refine y_cV2 (q := 17) C 9 rfl rfl ml_RX5_104 cd_X5_orderAt cv_X5_orderAt ⟨by decide, rfl⟩ (by first | assumption | rfl | decide | omega | exact bL hB _ (by decide)) (by decide) (by decide) (Nat.le_of_ble_eq_true rfl) (s_X5_orderAt (by first | assumption | rfl | decide | omega | exact bL hB _ (by decide)) (by first | assumption | rfl | decide | omega | exact bL hB _ (by decide)) (by first | assumption | rfl | decide | omega | exact bL hB _ (by decide)) ?_)
        show aj_X G 17 _ _ _ _ _ _ _ _ _
        refine x_if_eq (q := 20) (t := 35) C 10 rfl (by decide) rfl (fun c2 => ?_) (fun c2 => ?_)
        · skip
          refine y_iload3 (q := 36) C 20 rfl rfl ?_
          exact x_ireturn C Z 21 rfl rfl rfl (aj_lf hK (congrArg nI (by have z := fdN_e (b := b) (c := cV I) (j := j) (i := cdN b i) (by unfold cdN; cases b <;> simp <;> omega) (by rw [show cdN b (cdN b i) = i by (unfold cdN; cases b <;> simp <;> omega), cV_l hi, cV_l hj]; assumption) (fun q hq => by rw [cV_l (show cdN b q < 8 by (unfold cdN at hq ⊢; cases b <;> simp at hq ⊢ <;> omega)), cV_l hj]; exact hp (cdN b q) (by unfold cdN at hq ⊢; cases b <;> simp at hq ⊢ <;> omega) (by unfold cdN at hq ⊢; cases b <;> simp at hq ⊢ <;> omega)); rw [z, show cdN b (cdN b i) = i by (unfold cdN; cases b <;> simp <;> omega)])))
        · skip
          have hij : i = j := by
            cases b
            · have := hb2 rfl; omega
            · have := hb1 rfl; omega
          subst hij
          exact absurd (mOA_self hM hj) c2
      | succ m ih =>
        intro i hi hb1 hb2 hp
        refine y_aload0 (q := 12) C 6 rfl rfl ?_
        refine y_iload3 (q := 13) C 7 rfl rfl ?_
        refine y_iload1 (q := 14) C 8 rfl rfl ?_
        refine y_cV2 (q := 17) C 9 rfl rfl ml_RX5_104 cd_X5_orderAt cv_X5_orderAt ⟨by decide, rfl⟩ (by first | assumption | rfl | decide | omega | exact bL hB _ (by decide)) (by decide) (by decide) (Nat.le_of_ble_eq_true rfl) (s_X5_orderAt (by first | assumption | rfl | decide | omega | exact bL hB _ (by decide)) (by first | assumption | rfl | decide | omega | exact bL hB _ (by decide)) (by first | assumption | rfl | decide | omega | exact bL hB _ (by decide)) ?_)
        show aj_X G 17 _ _ _ _ _ _ _ _ _
        refine x_if_eq (q := 20) (t := 35) C 10 rfl (by decide) rfl (fun c3 => ?_) (fun c3 => ?_)
        · skip
          refine y_iload3 (q := 36) C 20 rfl rfl ?_
          exact x_ireturn C Z 21 rfl rfl rfl (aj_lf hK (congrArg nI (by have z := fdN_e (b := b) (c := cV I) (j := j) (i := cdN b i) (by unfold cdN; cases b <;> simp <;> omega) (by rw [show cdN b (cdN b i) = i by (unfold cdN; cases b <;> simp <;> omega), cV_l hi, cV_l hj]; assumption) (fun q hq => by rw [cV_l (show cdN b q < 8 by (unfold cdN at hq ⊢; cases b <;> simp at hq ⊢ <;> omega)), cV_l hj]; exact hp (cdN b q) (by unfold cdN at hq ⊢; cases b <;> simp at hq ⊢ <;> omega) (by unfold cdN at hq ⊢; cases b <;> simp at hq ⊢ <;> omega)); rw [z, show cdN b (cdN b i) = i by (unfold cdN; cases b <;> simp <;> omega)])))
        · skip
          refine y_iload3 (q := 21) C 11 rfl rfl ?_
          refine y_iload2 (q := 22) C 12 rfl rfl ?_
          refine x_if_eqB (q := 25) (t := 29) C 13 rfl (by decide) rfl (fun c4 => ?_) (fun c4 => ?_)
          · skip
            refine x_iconst (q := 30) C 16 (n := (1)) (v := (1)) rfl rfl rfl ?_
            refine x_iadd (q := 31) C 17 rfl rfl ?_
            rw [nI_1]
            refine y_istore3 (q := 32) C 18 rfl rfl (Nat.le_of_ble_eq_true rfl) rfl ?_
            refine x_goto (t := 11) C 19 rfl (by decide) ?_
            exact ih (i + 1) (by have := hb2 (by assumption); omega) (fun z => absurd (z.symm.trans (show b = false by assumption)) (by decide)) (fun z => by have := hb2 z; omega) (fun q hq hb => by rw [show b = false by assumption, if_neg (by decide)] at hb; rcases Nat.lt_or_ge q i with w | w; exact hp q hq (by rw [show b = false by assumption, if_neg (by decide)]; exact w); rw [show q = i by omega]; assumption)
          · skip
            refine x_iconst (q := 26) C 14 (n := (-1)) (v := (-1)) rfl rfl rfl ?_
            refine x_goto (t := 30) C 15 rfl (by decide) ?_
            refine x_iadd (q := 31) C 17 rfl rfl ?_
            rw [show nI i + -1 = nI (j + m) from by rw [hb1 (by assumption)]; exact pk_m1 (j + m)]
            refine y_istore3 (q := 32) C 18 rfl rfl (Nat.le_of_ble_eq_true rfl) rfl ?_
            refine x_goto (t := 11) C 19 rfl (by decide) ?_
            exact ih (j + m) (by have := hb1 (by assumption); omega) (fun _ => rfl) (fun z => absurd (z.symm.trans (show b = true by assumption)) (by decide)) (fun q hq hb => by have e := hb1 (by assumption); rw [show b = true by assumption, if_pos rfl] at hb; rcases Nat.lt_or_ge i q with w | w; exact hp q hq (by rw [show b = true by assumption, if_pos rfl]; exact w); rw [show q = i by omega]; assumption)
    exact lp11 j 0 (by omega) (fun z => absurd (z.symm.trans (show b = false by assumption)) (by decide)) (fun _ => by omega) (fun q hq hb => by rw [show b = false by assumption, if_neg (by decide)] at hb; exact absurd hb (Nat.not_lt_zero q))
  · skip
    refine x_bipush (q := 6) C 2 (n := (7)) (v := nI 7) rfl rfl rfl ?_
    refine x_goto (t := 10) C 3 rfl (by decide) ?_
    refine y_istore3 (q := 11) C 5 rfl rfl (Nat.le_of_ble_eq_true rfl) rfl ?_
    have lp11 : ∀ (m i : Nat), i < 8 → (b = true → i = j + m) → (b = false → i + m = j) → (∀ q, q < 8 → (if b = true then i < q else q < i) → ¬ mOA I q j = 0) → aj_X G 11 [some (.ref 22), some (.int (nI j)), some (.int (bI b)), some (.int (nI i))] [] I J V N L 0 0 := by
      intro m
      induction m with
      | zero =>
        intro i hi hb1 hb2 hp
        refine y_aload0 (q := 12) C 6 rfl rfl ?_
        refine y_iload3 (q := 13) C 7 rfl rfl ?_
        refine y_iload1 (q := 14) C 8 rfl rfl ?_
        refine y_cV2 (q := 17) C 9 rfl rfl ml_RX5_104 cd_X5_orderAt cv_X5_orderAt ⟨by decide, rfl⟩ (by first | assumption | rfl | decide | omega | exact bL hB _ (by decide)) (by decide) (by decide) (Nat.le_of_ble_eq_true rfl) (s_X5_orderAt (by first | assumption | rfl | decide | omega | exact bL hB _ (by decide)) (by first | assumption | rfl | decide | omega | exact bL hB _ (by decide)) (by first | assumption | rfl | decide | omega | exact bL hB _ (by decide)) ?_)
        show aj_X G 17 _ _ _ _ _ _ _ _ _
        refine x_if_eq (q := 20) (t := 35) C 10 rfl (by decide) rfl (fun c5 => ?_) (fun c5 => ?_)
        · skip
          refine y_iload3 (q := 36) C 20 rfl rfl ?_
          exact x_ireturn C Z 21 rfl rfl rfl (aj_lf hK (congrArg nI (by have z := fdN_e (b := b) (c := cV I) (j := j) (i := cdN b i) (by unfold cdN; cases b <;> simp <;> omega) (by rw [show cdN b (cdN b i) = i by (unfold cdN; cases b <;> simp <;> omega), cV_l hi, cV_l hj]; assumption) (fun q hq => by rw [cV_l (show cdN b q < 8 by (unfold cdN at hq ⊢; cases b <;> simp at hq ⊢ <;> omega)), cV_l hj]; exact hp (cdN b q) (by unfold cdN at hq ⊢; cases b <;> simp at hq ⊢ <;> omega) (by unfold cdN at hq ⊢; cases b <;> simp at hq ⊢ <;> omega)); rw [z, show cdN b (cdN b i) = i by (unfold cdN; cases b <;> simp <;> omega)])))
        · skip
          have hij : i = j := by
            cases b
            · have := hb2 rfl; omega
            · have := hb1 rfl; omega
          subst hij
          exact absurd (mOA_self hM hj) c5
      | succ m ih =>
        intro i hi hb1 hb2 hp
        refine y_aload0 (q := 12) C 6 rfl rfl ?_
        refine y_iload3 (q := 13) C 7 rfl rfl ?_
        refine y_iload1 (q := 14) C 8 rfl rfl ?_
        refine y_cV2 (q := 17) C 9 rfl rfl ml_RX5_104 cd_X5_orderAt cv_X5_orderAt ⟨by decide, rfl⟩ (by first | assumption | rfl | decide | omega | exact bL hB _ (by decide)) (by decide) (by decide) (Nat.le_of_ble_eq_true rfl) (s_X5_orderAt (by first | assumption | rfl | decide | omega | exact bL hB _ (by decide)) (by first | assumption | rfl | decide | omega | exact bL hB _ (by decide)) (by first | assumption | rfl | decide | omega | exact bL hB _ (by decide)) ?_)
        show aj_X G 17 _ _ _ _ _ _ _ _ _
        refine x_if_eq (q := 20) (t := 35) C 10 rfl (by decide) rfl (fun c6 => ?_) (fun c6 => ?_)
        · skip
          refine y_iload3 (q := 36) C 20 rfl rfl ?_
          exact x_ireturn C Z 21 rfl rfl rfl (aj_lf hK (congrArg nI (by have z := fdN_e (b := b) (c := cV I) (j := j) (i := cdN b i) (by unfold cdN; cases b <;> simp <;> omega) (by rw [show cdN b (cdN b i) = i by (unfold cdN; cases b <;> simp <;> omega), cV_l hi, cV_l hj]; assumption) (fun q hq => by rw [cV_l (show cdN b q < 8 by (unfold cdN at hq ⊢; cases b <;> simp at hq ⊢ <;> omega)), cV_l hj]; exact hp (cdN b q) (by unfold cdN at hq ⊢; cases b <;> simp at hq ⊢ <;> omega) (by unfold cdN at hq ⊢; cases b <;> simp at hq ⊢ <;> omega)); rw [z, show cdN b (cdN b i) = i by (unfold cdN; cases b <;> simp <;> omega)])))
        · skip
          refine y_iload3 (q := 21) C 11 rfl rfl ?_
          refine y_iload2 (q := 22) C 12 rfl rfl ?_
          refine x_if_eqB (q := 25) (t := 29) C 13 rfl (by decide) rfl (fun c7 => ?_) (fun c7 => ?_)
          · skip
            refine x_iconst (q := 30) C 16 (n := (1)) (v := (1)) rfl rfl rfl ?_
            refine x_iadd (q := 31) C 17 rfl rfl ?_
            rw [nI_1]
            refine y_istore3 (q := 32) C 18 rfl rfl (Nat.le_of_ble_eq_true rfl) rfl ?_
            refine x_goto (t := 11) C 19 rfl (by decide) ?_
            exact ih (i + 1) (by have := hb2 (by assumption); omega) (fun z => absurd (z.symm.trans (show b = false by assumption)) (by decide)) (fun z => by have := hb2 z; omega) (fun q hq hb => by rw [show b = false by assumption, if_neg (by decide)] at hb; rcases Nat.lt_or_ge q i with w | w; exact hp q hq (by rw [show b = false by assumption, if_neg (by decide)]; exact w); rw [show q = i by omega]; assumption)
          · skip
            refine x_iconst (q := 26) C 14 (n := (-1)) (v := (-1)) rfl rfl rfl ?_
            refine x_goto (t := 30) C 15 rfl (by decide) ?_
            refine x_iadd (q := 31) C 17 rfl rfl ?_
            rw [show nI i + -1 = nI (j + m) from by rw [hb1 (by assumption)]; exact pk_m1 (j + m)]
            refine y_istore3 (q := 32) C 18 rfl rfl (Nat.le_of_ble_eq_true rfl) rfl ?_
            refine x_goto (t := 11) C 19 rfl (by decide) ?_
            exact ih (j + m) (by have := hb1 (by assumption); omega) (fun _ => rfl) (fun z => absurd (z.symm.trans (show b = true by assumption)) (by decide)) (fun q hq hb => by have e := hb1 (by assumption); rw [show b = true by assumption, if_pos rfl] at hb; rcases Nat.lt_or_ge i q with w | w; exact hp q hq (by rw [show b = true by assumption, if_pos rfl]; exact w); rw [show q = i by omega]; assumption)
    exact lp11 (7 - j) 7 (by omega) (fun _ => by omega) (fun z => absurd (z.symm.trans (show b = true by assumption)) (by decide)) (fun q hq hb => by rw [show b = true by assumption, if_pos rfl] at hb; exact absurd hb (by omega))
set_option maxRecDepth 100000 in
set_option maxHeartbeats 800000 in
theorem s_X5_find {l : Launch} {I : Nat → Nat → Int32} {J : Nat → Nat → Int64} {V : Nat → Nat → Option Nat} {N : Nat → Nat} {L : List Nat} {K : aj_K} {x : Int32} {b : Bool} (hM : mI I) (hB : bV V N L) (hK : ∀ (r : Int32) I1 J1, mR I J I1 J1 → I1 22 0 = cd1 (ckI x) → (cd1 (ckI x) = 0 → r = nI (fdN b (cV I) (nn x))) → K (.inl (some (.int r))) I1 J1 V N L) : aj_M l yX5_find (aj_wc yX5_find cX5_find 3 (some .int)) (aj_rm 4 0 0) [] [.ref 22, .int x, .int (bI b)] I J V N L K := by
  refine aj_intro (tbl := t_X5_find) (lv0 := [some (.ref 22), some (.int x), some (.int (bI b))]) (by decide) T_X5_find aj_f0 (Nat.le_of_ble_eq_true rfl) rfl ?_
  intro G hl C Z NX hnm hGL hGF
  have C : aj_C G cX5_find t_X5_find RX5 (aj_rm 4 0 0) 3 := C
  refine y_aload0 (q := 1) C 0 rfl rfl ?_
  refine y_iload1 (q := 2) C 1 rfl rfl ?_
  refine y_cS1 (q := 5) C 2 rfl rfl ml_RX5_132 cd_X5_isNoCell sv_X5_isNoCell (by decide) (by decide) (Nat.le_of_ble_eq_true rfl) (s_X5_isNoCell ?_)
  show aj_X G 5 _ _ _ _ _ _ _ _ _
  refine x_iconst (q := 6) C 3 (n := (1)) (v := (1)) rfl rfl rfl ?_
  refine y_cV2 (q := 9) C 4 rfl rfl ml_RX5_135 cd_X5_start cv_X5_start ⟨by decide, rfl⟩ (by first | assumption | rfl | decide | omega | exact bL hB _ (by decide)) (by decide) (by decide) (Nat.le_of_ble_eq_true rfl) (s_X5_start (by first | assumption | rfl | decide | omega | exact bL hB _ (by decide)) (by first | assumption | rfl | decide | omega | exact bL hB _ (by decide)) ?_)
  show aj_X G 9 _ _ _ _ _ _ _ _ _
  refine x_if_eqB (q := 12) (t := 16) C 5 rfl (by decide) rfl (fun c1 => ?_) (fun c1 => ?_)
  · skip
    rw [show (!pIn x 0 7) = false by assumption, tH_f]
    have hR0 : mR I J (aj_u I 22 0 0) J := mR.t hM
    have hT : aj_u I 22 0 0 22 0 = 0 := aj_u_s _ _ _ _
    generalize aj_u I 22 0 0 = I0 at hR0 hT ⊢
    obtain ⟨j, hj, rfl⟩ := nC (by assumption)
    refine y_aload0 (q := 17) C 8 rfl rfl ?_
    refine y_iload1 (q := 18) C 9 rfl rfl ?_
    refine y_iload2 (q := 19) C 10 rfl rfl ?_
    refine y_cV2 (q := 22) C 11 rfl rfl ml_RX5_175 cd_X5_found cv_X5_found ⟨by decide, rfl⟩ (by first | assumption | rfl | decide | omega | exact bL hB _ (by decide)) (by decide) (by decide) (Nat.le_of_ble_eq_true rfl) (s_X5_found hj hR0.2.1 hB ?_)
    show aj_X G 22 _ _ _ _ _ _ _ _ _
    exact x_ireturn C Z 12 rfl rfl rfl (hK _ _ _ hR0 (by rw [cd1_t (ckI_t hj)]; exact hT) (fun _ => by rw [mR_cV hR0, nn_nI (by omega)]))
  · skip
    refine x_iconst (q := 13) C 6 (n := (0)) (v := (0)) rfl rfl rfl ?_
    refine x_goto (t := 22) C 7 rfl (by decide) ?_
    exact x_ireturn C Z 12 rfl rfl rfl (hK _ _ _ (mR.th hM) (by rw [cd1_f (ckm_f (by assumption))]; exact tH_t (by assumption)) (cd1_n (ckm_f (by assumption))))
set_option maxRecDepth 100000 in
set_option maxHeartbeats 800000 in
theorem s_X5_turn {l : Launch} {I : Nat → Nat → Int32} {J : Nat → Nat → Int64} {V : Nat → Nat → Option Nat} {N : Nat → Nat} {L : List Nat} {K : aj_K} {i j k : Nat} (hi : i < 12) (hj : j < 12) (hk : k < 12) (hB : bV V N L) (hK : K (.inl (some (.int (mTu I i j k)))) I J V N L) : aj_M l yX5_turn (aj_wc yX5_turn cX5_turn 4 (some .int)) (aj_rm 1 0 0) [] [.ref 22, .int (nI i), .int (nI j), .int (nI k)] I J V N L K := by
  refine aj_intro (tbl := t_X5_turn) (lv0 := [some (.ref 22), some (.int (nI i)), some (.int (nI j)), some (.int (nI k))]) (by decide) T_X5_turn aj_f0 (Nat.le_of_ble_eq_true rfl) rfl ?_
  intro G hl C Z NX hnm hGL hGF
  have C : aj_C G cX5_turn t_X5_turn RX5 (aj_rm 1 0 0) 4 := C
  refine y_aload0 (q := 1) C 0 rfl rfl ?_
  refine x_getR (q := 4) C 1 rfl rfl fl_RX5_23 (bv_6_5 hB) (fun _ _ => rfl) (by first | assumption | rfl | decide | omega | exact bL hB _ (by decide)) (by first | assumption | rfl | decide | omega | exact bL hB _ (by decide)) ?_
  refine y_iload2 (q := 5) C 2 rfl rfl ?_
  refine x_iald (q := 6) C 3 rfl rfl (by first | assumption | rfl | decide | omega | exact bL hB _ (by decide)) (by first | assumption | rfl | decide | omega | exact bL hB _ (by decide)) (by (first | rw [bn24 hB] | rw [bn40 hB] | rw [bn56 hB] | rw [bn72 hB] | rw [bn27 hB] | rw [bn43 hB] | rw [bn25 hB] | rw [bn41 hB] | rw [bn88 hB] | rw [bn104 hB] | rw [bn120 hB] | rw [bn136 hB] | rw [bn152 hB] | rw [bn168 hB]); first | assumption | exact vp_in_nI (by omega) (by decide)) ?_
  rw [nI_clamp (by omega)]
  refine y_aload0 (q := 7) C 4 rfl rfl ?_
  refine x_getR (q := 10) C 5 rfl rfl fl_RX5_23 (bv_6_5 hB) (fun _ _ => rfl) (by first | assumption | rfl | decide | omega | exact bL hB _ (by decide)) (by first | assumption | rfl | decide | omega | exact bL hB _ (by decide)) ?_
  refine y_iload1 (q := 11) C 6 rfl rfl ?_
  refine x_iald (q := 12) C 7 rfl rfl (by first | assumption | rfl | decide | omega | exact bL hB _ (by decide)) (by first | assumption | rfl | decide | omega | exact bL hB _ (by decide)) (by (first | rw [bn24 hB] | rw [bn40 hB] | rw [bn56 hB] | rw [bn72 hB] | rw [bn27 hB] | rw [bn43 hB] | rw [bn25 hB] | rw [bn41 hB] | rw [bn88 hB] | rw [bn104 hB] | rw [bn120 hB] | rw [bn136 hB] | rw [bn152 hB] | rw [bn168 hB]); first | assumption | exact vp_in_nI (by omega) (by decide)) ?_
  rw [nI_clamp (by omega)]
  refine x_isub (q := 13) C 8 rfl rfl ?_
  refine y_aload0 (q := 14) C 9 rfl rfl ?_
  refine x_getR (q := 17) C 10 rfl rfl fl_RX5_26 (bv_6_6 hB) (fun _ _ => rfl) (by first | assumption | rfl | decide | omega | exact bL hB _ (by decide)) (by first | assumption | rfl | decide | omega | exact bL hB _ (by decide)) ?_
  refine y_iload2 (q := 18) C 11 rfl rfl ?_
  refine x_iald (q := 19) C 12 rfl rfl (by first | assumption | rfl | decide | omega | exact bL hB _ (by decide)) (by first | assumption | rfl | decide | omega | exact bL hB _ (by decide)) (by (first | rw [bn24 hB] | rw [bn40 hB] | rw [bn56 hB] | rw [bn72 hB] | rw [bn27 hB] | rw [bn43 hB] | rw [bn25 hB] | rw [bn41 hB] | rw [bn88 hB] | rw [bn104 hB] | rw [bn120 hB] | rw [bn136 hB] | rw [bn152 hB] | rw [bn168 hB]); first | assumption | exact vp_in_nI (by omega) (by decide)) ?_
  rw [nI_clamp (by omega)]
  refine y_aload0 (q := 20) C 13 rfl rfl ?_
  refine x_getR (q := 23) C 14 rfl rfl fl_RX5_26 (bv_6_6 hB) (fun _ _ => rfl) (by first | assumption | rfl | decide | omega | exact bL hB _ (by decide)) (by first | assumption | rfl | decide | omega | exact bL hB _ (by decide)) ?_
  refine y_iload1 (q := 24) C 15 rfl rfl ?_
  refine x_iald (q := 25) C 16 rfl rfl (by first | assumption | rfl | decide | omega | exact bL hB _ (by decide)) (by first | assumption | rfl | decide | omega | exact bL hB _ (by decide)) (by (first | rw [bn24 hB] | rw [bn40 hB] | rw [bn56 hB] | rw [bn72 hB] | rw [bn27 hB] | rw [bn43 hB] | rw [bn25 hB] | rw [bn41 hB] | rw [bn88 hB] | rw [bn104 hB] | rw [bn120 hB] | rw [bn136 hB] | rw [bn152 hB] | rw [bn168 hB]); first | assumption | exact vp_in_nI (by omega) (by decide)) ?_
  rw [nI_clamp (by omega)]
  refine x_isub (q := 26) C 17 rfl rfl ?_
  refine y_aload0 (q := 27) C 18 rfl rfl ?_
  refine x_getR (q := 30) C 19 rfl rfl fl_RX5_23 (bv_6_5 hB) (fun _ _ => rfl) (by first | assumption | rfl | decide | omega | exact bL hB _ (by decide)) (by first | assumption | rfl | decide | omega | exact bL hB _ (by decide)) ?_
  refine y_iload3 (q := 31) C 20 rfl rfl ?_
  refine x_iald (q := 32) C 21 rfl rfl (by first | assumption | rfl | decide | omega | exact bL hB _ (by decide)) (by first | assumption | rfl | decide | omega | exact bL hB _ (by decide)) (by (first | rw [bn24 hB] | rw [bn40 hB] | rw [bn56 hB] | rw [bn72 hB] | rw [bn27 hB] | rw [bn43 hB] | rw [bn25 hB] | rw [bn41 hB] | rw [bn88 hB] | rw [bn104 hB] | rw [bn120 hB] | rw [bn136 hB] | rw [bn152 hB] | rw [bn168 hB]); first | assumption | exact vp_in_nI (by omega) (by decide)) ?_
  rw [nI_clamp (by omega)]
  refine y_aload0 (q := 33) C 22 rfl rfl ?_
  refine x_getR (q := 36) C 23 rfl rfl fl_RX5_23 (bv_6_5 hB) (fun _ _ => rfl) (by first | assumption | rfl | decide | omega | exact bL hB _ (by decide)) (by first | assumption | rfl | decide | omega | exact bL hB _ (by decide)) ?_
  refine y_iload1 (q := 37) C 24 rfl rfl ?_
  refine x_iald (q := 38) C 25 rfl rfl (by first | assumption | rfl | decide | omega | exact bL hB _ (by decide)) (by first | assumption | rfl | decide | omega | exact bL hB _ (by decide)) (by (first | rw [bn24 hB] | rw [bn40 hB] | rw [bn56 hB] | rw [bn72 hB] | rw [bn27 hB] | rw [bn43 hB] | rw [bn25 hB] | rw [bn41 hB] | rw [bn88 hB] | rw [bn104 hB] | rw [bn120 hB] | rw [bn136 hB] | rw [bn152 hB] | rw [bn168 hB]); first | assumption | exact vp_in_nI (by omega) (by decide)) ?_
  rw [nI_clamp (by omega)]
  refine x_isub (q := 39) C 26 rfl rfl ?_
  refine y_aload0 (q := 40) C 27 rfl rfl ?_
  refine x_getR (q := 43) C 28 rfl rfl fl_RX5_26 (bv_6_6 hB) (fun _ _ => rfl) (by first | assumption | rfl | decide | omega | exact bL hB _ (by decide)) (by first | assumption | rfl | decide | omega | exact bL hB _ (by decide)) ?_
  refine y_iload3 (q := 44) C 29 rfl rfl ?_
  refine x_iald (q := 45) C 30 rfl rfl (by first | assumption | rfl | decide | omega | exact bL hB _ (by decide)) (by first | assumption | rfl | decide | omega | exact bL hB _ (by decide)) (by (first | rw [bn24 hB] | rw [bn40 hB] | rw [bn56 hB] | rw [bn72 hB] | rw [bn27 hB] | rw [bn43 hB] | rw [bn25 hB] | rw [bn41 hB] | rw [bn88 hB] | rw [bn104 hB] | rw [bn120 hB] | rw [bn136 hB] | rw [bn152 hB] | rw [bn168 hB]); first | assumption | exact vp_in_nI (by omega) (by decide)) ?_
  rw [nI_clamp (by omega)]
  refine y_aload0 (q := 46) C 31 rfl rfl ?_
  refine x_getR (q := 49) C 32 rfl rfl fl_RX5_26 (bv_6_6 hB) (fun _ _ => rfl) (by first | assumption | rfl | decide | omega | exact bL hB _ (by decide)) (by first | assumption | rfl | decide | omega | exact bL hB _ (by decide)) ?_
  refine y_iload1 (q := 50) C 33 rfl rfl ?_
  refine x_iald (q := 51) C 34 rfl rfl (by first | assumption | rfl | decide | omega | exact bL hB _ (by decide)) (by first | assumption | rfl | decide | omega | exact bL hB _ (by decide)) (by (first | rw [bn24 hB] | rw [bn40 hB] | rw [bn56 hB] | rw [bn72 hB] | rw [bn27 hB] | rw [bn43 hB] | rw [bn25 hB] | rw [bn41 hB] | rw [bn88 hB] | rw [bn104 hB] | rw [bn120 hB] | rw [bn136 hB] | rw [bn152 hB] | rw [bn168 hB]); first | assumption | exact vp_in_nI (by omega) (by decide)) ?_
  rw [nI_clamp (by omega)]
  refine x_isub (q := 52) C 35 rfl rfl ?_
  refine y_cS4 (q := 55) C 36 rfl rfl ml_RX5_51 cd_X5_cross sv_X5_cross (by decide) (by decide) (Nat.le_of_ble_eq_true rfl) (s_X5_cross ?_)
  show aj_X G 55 _ _ _ _ _ _ _ _ _
  exact x_ireturn C Z 37 rfl rfl rfl (hK)
set_option maxRecDepth 100000 in
set_option maxHeartbeats 800000 in
theorem s_X5_isOut {l : Launch} {I : Nat → Nat → Int32} {J : Nat → Nat → Int64} {V : Nat → Nat → Option Nat} {N : Nat → Nat} {L : List Nat} {K : aj_K} {j : Nat} (hj : j < 12) (hB : bV V N L) (hK : K (.inl (some (.int (bI (mOut I j))))) I J V N L) : aj_M l yX5_isOut (aj_wc yX5_isOut cX5_isOut 2 (some .boolean)) (aj_rm 0 0 0) [] [.ref 22, .int (nI j)] I J V N L K := by
  refine aj_intro (tbl := t_X5_isOut) (lv0 := [some (.ref 22), some (.int (nI j))]) (by decide) T_X5_isOut aj_f0 (Nat.le_of_ble_eq_true rfl) rfl ?_
  intro G hl C Z NX hnm hGL hGF
  have C : aj_C G cX5_isOut t_X5_isOut RX5 (aj_rm 0 0 0) 2 := C
  refine y_aload0 (q := 1) C 0 rfl rfl ?_
  refine x_getR (q := 4) C 1 rfl rfl fl_RX5_23 (bv_6_5 hB) (fun _ _ => rfl) (by first | assumption | rfl | decide | omega | exact bL hB _ (by decide)) (by first | assumption | rfl | decide | omega | exact bL hB _ (by decide)) ?_
  refine y_iload1 (q := 5) C 2 rfl rfl ?_
  refine x_iald (q := 6) C 3 rfl rfl (by first | assumption | rfl | decide | omega | exact bL hB _ (by decide)) (by first | assumption | rfl | decide | omega | exact bL hB _ (by decide)) (by (first | rw [bn24 hB] | rw [bn40 hB] | rw [bn56 hB] | rw [bn72 hB] | rw [bn27 hB] | rw [bn43 hB] | rw [bn25 hB] | rw [bn41 hB] | rw [bn88 hB] | rw [bn104 hB] | rw [bn120 hB] | rw [bn136 hB] | rw [bn152 hB] | rw [bn168 hB]); first | assumption | exact vp_in_nI (by omega) (by decide)) ?_
  rw [nI_clamp (by omega)]
  refine y_aload0 (q := 7) C 4 rfl rfl ?_
  refine x_getI (q := 10) C 5 rfl rfl fl_RX5_185 (fun _ _ => rfl) (by first | assumption | rfl | decide | omega | exact bL hB _ (by decide)) (by first | assumption | rfl | decide | omega | exact bL hB _ (by decide)) ?_
  refine x_icmp_ne (q := 13) (t := 26) C 6 rfl (by decide) rfl (fun c1 => ?_) (fun c1 => ?_)
  · skip
    refine x_iconst (q := 27) C 14 (n := (1)) (v := (1)) rfl rfl rfl ?_
    refine x_goto (t := 31) C 15 rfl (by decide) ?_
    exact x_ireturn C Z 17 rfl rfl rfl (aj_lf hK (by clear hK C Z; simp_all [mOut, bI_0, bI_1]))
  · skip
    refine y_aload0 (q := 14) C 7 rfl rfl ?_
    refine x_getR (q := 17) C 8 rfl rfl fl_RX5_26 (bv_6_6 hB) (fun _ _ => rfl) (by first | assumption | rfl | decide | omega | exact bL hB _ (by decide)) (by first | assumption | rfl | decide | omega | exact bL hB _ (by decide)) ?_
    refine y_iload1 (q := 18) C 9 rfl rfl ?_
    refine x_iald (q := 19) C 10 rfl rfl (by first | assumption | rfl | decide | omega | exact bL hB _ (by decide)) (by first | assumption | rfl | decide | omega | exact bL hB _ (by decide)) (by (first | rw [bn24 hB] | rw [bn40 hB] | rw [bn56 hB] | rw [bn72 hB] | rw [bn27 hB] | rw [bn43 hB] | rw [bn25 hB] | rw [bn41 hB] | rw [bn88 hB] | rw [bn104 hB] | rw [bn120 hB] | rw [bn136 hB] | rw [bn152 hB] | rw [bn168 hB]); first | assumption | exact vp_in_nI (by omega) (by decide)) ?_
    rw [nI_clamp (by omega)]
    refine y_aload0 (q := 20) C 11 rfl rfl ?_
    refine x_getI (q := 23) C 12 rfl rfl fl_RX5_188 (fun _ _ => rfl) (by first | assumption | rfl | decide | omega | exact bL hB _ (by decide)) (by first | assumption | rfl | decide | omega | exact bL hB _ (by decide)) ?_
    refine x_icmp_eq (q := 26) (t := 30) C 13 rfl (by decide) rfl (fun c2 => ?_) (fun c2 => ?_)
    · skip
      refine x_iconst (q := 31) C 16 (n := (0)) (v := (0)) rfl rfl rfl ?_
      exact x_ireturn C Z 17 rfl rfl rfl (aj_lf hK (by clear hK C Z; simp_all [mOut, bI_0, bI_1]))
    · skip
      refine x_iconst (q := 27) C 14 (n := (1)) (v := (1)) rfl rfl rfl ?_
      refine x_goto (t := 31) C 15 rfl (by decide) ?_
      exact x_ireturn C Z 17 rfl rfl rfl (aj_lf hK (by clear hK C Z; simp_all [mOut, bI_0, bI_1]))
set_option maxRecDepth 100000 in
set_option maxHeartbeats 800000 in
theorem s_X5_outOrder {l : Launch} {I : Nat → Nat → Int32} {J : Nat → Nat → Int64} {V : Nat → Nat → Option Nat} {N : Nat → Nat} {L : List Nat} {K : aj_K} {j k : Nat} (hj : j < 12) (hk : k < 12) (hB : bV V N L) (hK : ∀ r : Int32, K (.inl (some (.int r))) I J V N L) : aj_M l yX5_outOrder (aj_wc yX5_outOrder cX5_outOrder 3 (some .int)) (aj_rm 3 0 0) [] [.ref 22, .int (nI j), .int (nI k)] I J V N L K := by
  refine aj_intro (tbl := t_X5_outOrder) (lv0 := [some (.ref 22), some (.int (nI j)), some (.int (nI k))]) (by decide) T_X5_outOrder aj_f0 (Nat.le_of_ble_eq_true rfl) rfl ?_
  intro G hl C Z NX hnm hGL hGF
  have C : aj_C G cX5_outOrder t_X5_outOrder RX5 (aj_rm 3 0 0) 3 := C
  refine y_aload0 (q := 1) C 0 rfl rfl ?_
  refine x_getR (q := 4) C 1 rfl rfl fl_RX5_23 (bv_6_5 hB) (fun _ _ => rfl) (by first | assumption | rfl | decide | omega | exact bL hB _ (by decide)) (by first | assumption | rfl | decide | omega | exact bL hB _ (by decide)) ?_
  refine y_iload1 (q := 5) C 2 rfl rfl ?_
  refine x_iald (q := 6) C 3 rfl rfl (by first | assumption | rfl | decide | omega | exact bL hB _ (by decide)) (by first | assumption | rfl | decide | omega | exact bL hB _ (by decide)) (by (first | rw [bn24 hB] | rw [bn40 hB] | rw [bn56 hB] | rw [bn72 hB] | rw [bn27 hB] | rw [bn43 hB] | rw [bn25 hB] | rw [bn41 hB] | rw [bn88 hB] | rw [bn104 hB] | rw [bn120 hB] | rw [bn136 hB] | rw [bn152 hB] | rw [bn168 hB]); first | assumption | exact vp_in_nI (by omega) (by decide)) ?_
  rw [nI_clamp (by omega)]
  refine y_aload0 (q := 7) C 4 rfl rfl ?_
  refine x_getI (q := 10) C 5 rfl rfl fl_RX5_185 (fun _ _ => rfl) (by first | assumption | rfl | decide | omega | exact bL hB _ (by decide)) (by first | assumption | rfl | decide | omega | exact bL hB _ (by decide)) ?_
  refine x_isub (q := 11) C 6 rfl rfl ?_
  refine y_aload0 (q := 12) C 7 rfl rfl ?_
  refine x_getR (q := 15) C 8 rfl rfl fl_RX5_26 (bv_6_6 hB) (fun _ _ => rfl) (by first | assumption | rfl | decide | omega | exact bL hB _ (by decide)) (by first | assumption | rfl | decide | omega | exact bL hB _ (by decide)) ?_
  refine y_iload1 (q := 16) C 9 rfl rfl ?_
  refine x_iald (q := 17) C 10 rfl rfl (by first | assumption | rfl | decide | omega | exact bL hB _ (by decide)) (by first | assumption | rfl | decide | omega | exact bL hB _ (by decide)) (by (first | rw [bn24 hB] | rw [bn40 hB] | rw [bn56 hB] | rw [bn72 hB] | rw [bn27 hB] | rw [bn43 hB] | rw [bn25 hB] | rw [bn41 hB] | rw [bn88 hB] | rw [bn104 hB] | rw [bn120 hB] | rw [bn136 hB] | rw [bn152 hB] | rw [bn168 hB]); first | assumption | exact vp_in_nI (by omega) (by decide)) ?_
  rw [nI_clamp (by omega)]
  refine y_aload0 (q := 18) C 11 rfl rfl ?_
  refine x_getI (q := 21) C 12 rfl rfl fl_RX5_188 (fun _ _ => rfl) (by first | assumption | rfl | decide | omega | exact bL hB _ (by decide)) (by first | assumption | rfl | decide | omega | exact bL hB _ (by decide)) ?_
  refine x_isub (q := 22) C 13 rfl rfl ?_
  refine y_aload0 (q := 23) C 14 rfl rfl ?_
  refine x_getR (q := 26) C 15 rfl rfl fl_RX5_23 (bv_6_5 hB) (fun _ _ => rfl) (by first | assumption | rfl | decide | omega | exact bL hB _ (by decide)) (by first | assumption | rfl | decide | omega | exact bL hB _ (by decide)) ?_
  refine y_iload2 (q := 27) C 16 rfl rfl ?_
  refine x_iald (q := 28) C 17 rfl rfl (by first | assumption | rfl | decide | omega | exact bL hB _ (by decide)) (by first | assumption | rfl | decide | omega | exact bL hB _ (by decide)) (by (first | rw [bn24 hB] | rw [bn40 hB] | rw [bn56 hB] | rw [bn72 hB] | rw [bn27 hB] | rw [bn43 hB] | rw [bn25 hB] | rw [bn41 hB] | rw [bn88 hB] | rw [bn104 hB] | rw [bn120 hB] | rw [bn136 hB] | rw [bn152 hB] | rw [bn168 hB]); first | assumption | exact vp_in_nI (by omega) (by decide)) ?_
  rw [nI_clamp (by omega)]
  refine y_aload0 (q := 29) C 18 rfl rfl ?_
  refine x_getI (q := 32) C 19 rfl rfl fl_RX5_185 (fun _ _ => rfl) (by first | assumption | rfl | decide | omega | exact bL hB _ (by decide)) (by first | assumption | rfl | decide | omega | exact bL hB _ (by decide)) ?_
  refine x_isub (q := 33) C 20 rfl rfl ?_
  refine y_aload0 (q := 34) C 21 rfl rfl ?_
  refine x_getR (q := 37) C 22 rfl rfl fl_RX5_26 (bv_6_6 hB) (fun _ _ => rfl) (by first | assumption | rfl | decide | omega | exact bL hB _ (by decide)) (by first | assumption | rfl | decide | omega | exact bL hB _ (by decide)) ?_
  refine y_iload2 (q := 38) C 23 rfl rfl ?_
  refine x_iald (q := 39) C 24 rfl rfl (by first | assumption | rfl | decide | omega | exact bL hB _ (by decide)) (by first | assumption | rfl | decide | omega | exact bL hB _ (by decide)) (by (first | rw [bn24 hB] | rw [bn40 hB] | rw [bn56 hB] | rw [bn72 hB] | rw [bn27 hB] | rw [bn43 hB] | rw [bn25 hB] | rw [bn41 hB] | rw [bn88 hB] | rw [bn104 hB] | rw [bn120 hB] | rw [bn136 hB] | rw [bn152 hB] | rw [bn168 hB]); first | assumption | exact vp_in_nI (by omega) (by decide)) ?_
  rw [nI_clamp (by omega)]
  refine y_aload0 (q := 40) C 25 rfl rfl ?_
  refine x_getI (q := 43) C 26 rfl rfl fl_RX5_188 (fun _ _ => rfl) (by first | assumption | rfl | decide | omega | exact bL hB _ (by decide)) (by first | assumption | rfl | decide | omega | exact bL hB _ (by decide)) ?_
  refine x_isub (q := 44) C 27 rfl rfl ?_
  refine y_cS4 (q := 47) C 28 rfl rfl ml_RX5_199 cd_X5_wayOrder sv_X5_wayOrder (by decide) (by decide) (Nat.le_of_ble_eq_true rfl) (s_X5_wayOrder ?_)
  show aj_X G 47 _ _ _ _ _ _ _ _ _
  exact x_ireturn C Z 29 rfl rfl rfl (hK _)
set_option maxRecDepth 100000 in
set_option maxHeartbeats 800000 in
theorem s_X5_outCross {l : Launch} {I : Nat → Nat → Int32} {J : Nat → Nat → Int64} {V : Nat → Nat → Option Nat} {N : Nat → Nat} {L : List Nat} {K : aj_K} {j k : Nat} (hj : j < 12) (hk : k < 12) (hB : bV V N L) (hK : ∀ r : Int32, K (.inl (some (.int r))) I J V N L) : aj_M l yX5_outCross (aj_wc yX5_outCross cX5_outCross 3 (some .int)) (aj_rm 1 0 0) [] [.ref 22, .int (nI j), .int (nI k)] I J V N L K := by
  refine aj_intro (tbl := t_X5_outCross) (lv0 := [some (.ref 22), some (.int (nI j)), some (.int (nI k))]) (by decide) T_X5_outCross aj_f0 (Nat.le_of_ble_eq_true rfl) rfl ?_
  intro G hl C Z NX hnm hGL hGF
  have C : aj_C G cX5_outCross t_X5_outCross RX5 (aj_rm 1 0 0) 3 := C
  refine y_aload0 (q := 1) C 0 rfl rfl ?_
  refine x_getR (q := 4) C 1 rfl rfl fl_RX5_23 (bv_6_5 hB) (fun _ _ => rfl) (by first | assumption | rfl | decide | omega | exact bL hB _ (by decide)) (by first | assumption | rfl | decide | omega | exact bL hB _ (by decide)) ?_
  refine y_iload1 (q := 5) C 2 rfl rfl ?_
  refine x_iald (q := 6) C 3 rfl rfl (by first | assumption | rfl | decide | omega | exact bL hB _ (by decide)) (by first | assumption | rfl | decide | omega | exact bL hB _ (by decide)) (by (first | rw [bn24 hB] | rw [bn40 hB] | rw [bn56 hB] | rw [bn72 hB] | rw [bn27 hB] | rw [bn43 hB] | rw [bn25 hB] | rw [bn41 hB] | rw [bn88 hB] | rw [bn104 hB] | rw [bn120 hB] | rw [bn136 hB] | rw [bn152 hB] | rw [bn168 hB]); first | assumption | exact vp_in_nI (by omega) (by decide)) ?_
  rw [nI_clamp (by omega)]
  refine y_aload0 (q := 7) C 4 rfl rfl ?_
  refine x_getI (q := 10) C 5 rfl rfl fl_RX5_185 (fun _ _ => rfl) (by first | assumption | rfl | decide | omega | exact bL hB _ (by decide)) (by first | assumption | rfl | decide | omega | exact bL hB _ (by decide)) ?_
  refine x_isub (q := 11) C 6 rfl rfl ?_
  refine y_aload0 (q := 12) C 7 rfl rfl ?_
  refine x_getR (q := 15) C 8 rfl rfl fl_RX5_26 (bv_6_6 hB) (fun _ _ => rfl) (by first | assumption | rfl | decide | omega | exact bL hB _ (by decide)) (by first | assumption | rfl | decide | omega | exact bL hB _ (by decide)) ?_
  refine y_iload1 (q := 16) C 9 rfl rfl ?_
  refine x_iald (q := 17) C 10 rfl rfl (by first | assumption | rfl | decide | omega | exact bL hB _ (by decide)) (by first | assumption | rfl | decide | omega | exact bL hB _ (by decide)) (by (first | rw [bn24 hB] | rw [bn40 hB] | rw [bn56 hB] | rw [bn72 hB] | rw [bn27 hB] | rw [bn43 hB] | rw [bn25 hB] | rw [bn41 hB] | rw [bn88 hB] | rw [bn104 hB] | rw [bn120 hB] | rw [bn136 hB] | rw [bn152 hB] | rw [bn168 hB]); first | assumption | exact vp_in_nI (by omega) (by decide)) ?_
  rw [nI_clamp (by omega)]
  refine y_aload0 (q := 18) C 11 rfl rfl ?_
  refine x_getI (q := 21) C 12 rfl rfl fl_RX5_188 (fun _ _ => rfl) (by first | assumption | rfl | decide | omega | exact bL hB _ (by decide)) (by first | assumption | rfl | decide | omega | exact bL hB _ (by decide)) ?_
  refine x_isub (q := 22) C 13 rfl rfl ?_
  refine y_aload0 (q := 23) C 14 rfl rfl ?_
  refine x_getR (q := 26) C 15 rfl rfl fl_RX5_23 (bv_6_5 hB) (fun _ _ => rfl) (by first | assumption | rfl | decide | omega | exact bL hB _ (by decide)) (by first | assumption | rfl | decide | omega | exact bL hB _ (by decide)) ?_
  refine y_iload2 (q := 27) C 16 rfl rfl ?_
  refine x_iald (q := 28) C 17 rfl rfl (by first | assumption | rfl | decide | omega | exact bL hB _ (by decide)) (by first | assumption | rfl | decide | omega | exact bL hB _ (by decide)) (by (first | rw [bn24 hB] | rw [bn40 hB] | rw [bn56 hB] | rw [bn72 hB] | rw [bn27 hB] | rw [bn43 hB] | rw [bn25 hB] | rw [bn41 hB] | rw [bn88 hB] | rw [bn104 hB] | rw [bn120 hB] | rw [bn136 hB] | rw [bn152 hB] | rw [bn168 hB]); first | assumption | exact vp_in_nI (by omega) (by decide)) ?_
  rw [nI_clamp (by omega)]
  refine y_aload0 (q := 29) C 18 rfl rfl ?_
  refine x_getI (q := 32) C 19 rfl rfl fl_RX5_185 (fun _ _ => rfl) (by first | assumption | rfl | decide | omega | exact bL hB _ (by decide)) (by first | assumption | rfl | decide | omega | exact bL hB _ (by decide)) ?_
  refine x_isub (q := 33) C 20 rfl rfl ?_
  refine y_aload0 (q := 34) C 21 rfl rfl ?_
  refine x_getR (q := 37) C 22 rfl rfl fl_RX5_26 (bv_6_6 hB) (fun _ _ => rfl) (by first | assumption | rfl | decide | omega | exact bL hB _ (by decide)) (by first | assumption | rfl | decide | omega | exact bL hB _ (by decide)) ?_
  refine y_iload2 (q := 38) C 23 rfl rfl ?_
  refine x_iald (q := 39) C 24 rfl rfl (by first | assumption | rfl | decide | omega | exact bL hB _ (by decide)) (by first | assumption | rfl | decide | omega | exact bL hB _ (by decide)) (by (first | rw [bn24 hB] | rw [bn40 hB] | rw [bn56 hB] | rw [bn72 hB] | rw [bn27 hB] | rw [bn43 hB] | rw [bn25 hB] | rw [bn41 hB] | rw [bn88 hB] | rw [bn104 hB] | rw [bn120 hB] | rw [bn136 hB] | rw [bn152 hB] | rw [bn168 hB]); first | assumption | exact vp_in_nI (by omega) (by decide)) ?_
  rw [nI_clamp (by omega)]
  refine y_aload0 (q := 40) C 25 rfl rfl ?_
  refine x_getI (q := 43) C 26 rfl rfl fl_RX5_188 (fun _ _ => rfl) (by first | assumption | rfl | decide | omega | exact bL hB _ (by decide)) (by first | assumption | rfl | decide | omega | exact bL hB _ (by decide)) ?_
  refine x_isub (q := 44) C 27 rfl rfl ?_
  refine y_cS4 (q := 47) C 28 rfl rfl ml_RX5_51 cd_X5_cross sv_X5_cross (by decide) (by decide) (Nat.le_of_ble_eq_true rfl) (s_X5_cross ?_)
  show aj_X G 47 _ _ _ _ _ _ _ _ _
  exact x_ireturn C Z 29 rfl rfl rfl (hK _)
set_option maxRecDepth 100000 in
set_option maxHeartbeats 800000 in
theorem s_X5_far {l : Launch} {I : Nat → Nat → Int32} {J : Nat → Nat → Int64} {V : Nat → Nat → Option Nat} {N : Nat → Nat} {L : List Nat} {K : aj_K} {j : Nat} (hj : j < 12) (hB : bV V N L) (hK : ∀ r : Int32, K (.inl (some (.int r))) I J V N L) : aj_M l yX5_far (aj_wc yX5_far cX5_far 2 (some .int)) (aj_rm 0 0 0) [] [.ref 22, .int (nI j)] I J V N L K := by
  refine aj_intro (tbl := t_X5_far) (lv0 := [some (.ref 22), some (.int (nI j))]) (by decide) T_X5_far aj_f0 (Nat.le_of_ble_eq_true rfl) rfl ?_
  intro G hl C Z NX hnm hGL hGF
  have C : aj_C G cX5_far t_X5_far RX5 (aj_rm 0 0 0) 2 := C
  refine y_aload0 (q := 1) C 0 rfl rfl ?_
  refine x_getR (q := 4) C 1 rfl rfl fl_RX5_23 (bv_6_5 hB) (fun _ _ => rfl) (by first | assumption | rfl | decide | omega | exact bL hB _ (by decide)) (by first | assumption | rfl | decide | omega | exact bL hB _ (by decide)) ?_
  refine y_iload1 (q := 5) C 2 rfl rfl ?_
  refine x_iald (q := 6) C 3 rfl rfl (by first | assumption | rfl | decide | omega | exact bL hB _ (by decide)) (by first | assumption | rfl | decide | omega | exact bL hB _ (by decide)) (by (first | rw [bn24 hB] | rw [bn40 hB] | rw [bn56 hB] | rw [bn72 hB] | rw [bn27 hB] | rw [bn43 hB] | rw [bn25 hB] | rw [bn41 hB] | rw [bn88 hB] | rw [bn104 hB] | rw [bn120 hB] | rw [bn136 hB] | rw [bn152 hB] | rw [bn168 hB]); first | assumption | exact vp_in_nI (by omega) (by decide)) ?_
  rw [nI_clamp (by omega)]
  refine y_aload0 (q := 7) C 4 rfl rfl ?_
  refine x_getI (q := 10) C 5 rfl rfl fl_RX5_185 (fun _ _ => rfl) (by first | assumption | rfl | decide | omega | exact bL hB _ (by decide)) (by first | assumption | rfl | decide | omega | exact bL hB _ (by decide)) ?_
  refine x_isub (q := 11) C 6 rfl rfl ?_
  refine y_aload0 (q := 12) C 7 rfl rfl ?_
  refine x_getR (q := 15) C 8 rfl rfl fl_RX5_23 (bv_6_5 hB) (fun _ _ => rfl) (by first | assumption | rfl | decide | omega | exact bL hB _ (by decide)) (by first | assumption | rfl | decide | omega | exact bL hB _ (by decide)) ?_
  refine y_iload1 (q := 16) C 9 rfl rfl ?_
  refine x_iald (q := 17) C 10 rfl rfl (by first | assumption | rfl | decide | omega | exact bL hB _ (by decide)) (by first | assumption | rfl | decide | omega | exact bL hB _ (by decide)) (by (first | rw [bn24 hB] | rw [bn40 hB] | rw [bn56 hB] | rw [bn72 hB] | rw [bn27 hB] | rw [bn43 hB] | rw [bn25 hB] | rw [bn41 hB] | rw [bn88 hB] | rw [bn104 hB] | rw [bn120 hB] | rw [bn136 hB] | rw [bn152 hB] | rw [bn168 hB]); first | assumption | exact vp_in_nI (by omega) (by decide)) ?_
  rw [nI_clamp (by omega)]
  refine y_aload0 (q := 18) C 11 rfl rfl ?_
  refine x_getI (q := 21) C 12 rfl rfl fl_RX5_185 (fun _ _ => rfl) (by first | assumption | rfl | decide | omega | exact bL hB _ (by decide)) (by first | assumption | rfl | decide | omega | exact bL hB _ (by decide)) ?_
  refine x_isub (q := 22) C 13 rfl rfl ?_
  refine x_imul (q := 23) C 14 rfl rfl ?_
  refine y_aload0 (q := 24) C 15 rfl rfl ?_
  refine x_getR (q := 27) C 16 rfl rfl fl_RX5_26 (bv_6_6 hB) (fun _ _ => rfl) (by first | assumption | rfl | decide | omega | exact bL hB _ (by decide)) (by first | assumption | rfl | decide | omega | exact bL hB _ (by decide)) ?_
  refine y_iload1 (q := 28) C 17 rfl rfl ?_
  refine x_iald (q := 29) C 18 rfl rfl (by first | assumption | rfl | decide | omega | exact bL hB _ (by decide)) (by first | assumption | rfl | decide | omega | exact bL hB _ (by decide)) (by (first | rw [bn24 hB] | rw [bn40 hB] | rw [bn56 hB] | rw [bn72 hB] | rw [bn27 hB] | rw [bn43 hB] | rw [bn25 hB] | rw [bn41 hB] | rw [bn88 hB] | rw [bn104 hB] | rw [bn120 hB] | rw [bn136 hB] | rw [bn152 hB] | rw [bn168 hB]); first | assumption | exact vp_in_nI (by omega) (by decide)) ?_
  rw [nI_clamp (by omega)]
  refine y_aload0 (q := 30) C 19 rfl rfl ?_
  refine x_getI (q := 33) C 20 rfl rfl fl_RX5_188 (fun _ _ => rfl) (by first | assumption | rfl | decide | omega | exact bL hB _ (by decide)) (by first | assumption | rfl | decide | omega | exact bL hB _ (by decide)) ?_
  refine x_isub (q := 34) C 21 rfl rfl ?_
  refine y_aload0 (q := 35) C 22 rfl rfl ?_
  refine x_getR (q := 38) C 23 rfl rfl fl_RX5_26 (bv_6_6 hB) (fun _ _ => rfl) (by first | assumption | rfl | decide | omega | exact bL hB _ (by decide)) (by first | assumption | rfl | decide | omega | exact bL hB _ (by decide)) ?_
  refine y_iload1 (q := 39) C 24 rfl rfl ?_
  refine x_iald (q := 40) C 25 rfl rfl (by first | assumption | rfl | decide | omega | exact bL hB _ (by decide)) (by first | assumption | rfl | decide | omega | exact bL hB _ (by decide)) (by (first | rw [bn24 hB] | rw [bn40 hB] | rw [bn56 hB] | rw [bn72 hB] | rw [bn27 hB] | rw [bn43 hB] | rw [bn25 hB] | rw [bn41 hB] | rw [bn88 hB] | rw [bn104 hB] | rw [bn120 hB] | rw [bn136 hB] | rw [bn152 hB] | rw [bn168 hB]); first | assumption | exact vp_in_nI (by omega) (by decide)) ?_
  rw [nI_clamp (by omega)]
  refine y_aload0 (q := 41) C 26 rfl rfl ?_
  refine x_getI (q := 44) C 27 rfl rfl fl_RX5_188 (fun _ _ => rfl) (by first | assumption | rfl | decide | omega | exact bL hB _ (by decide)) (by first | assumption | rfl | decide | omega | exact bL hB _ (by decide)) ?_
  refine x_isub (q := 45) C 28 rfl rfl ?_
  refine x_imul (q := 46) C 29 rfl rfl ?_
  refine x_iadd (q := 47) C 30 rfl rfl ?_
  exact x_ireturn C Z 31 rfl rfl rfl (hK _)
set_option maxRecDepth 100000 in
set_option maxHeartbeats 800000 in
theorem s_X5_outs {l : Launch} {I : Nat → Nat → Int32} {J : Nat → Nat → Int64} {V : Nat → Nat → Option Nat} {N : Nat → Nat} {L : List Nat} {K : aj_K} {n : Nat} (hn : n ≤ 12) (he : I 22 7 = nI n) (hB : bV V N L) (hK : K (.inl (some (.int (nI (cnt (mOut I) n))))) I J V N L) : aj_M l yX5_outs (aj_wc yX5_outs cX5_outs 3 (some .int)) (aj_rm 1 0 0) [] [.ref 22] I J V N L K := by
  refine aj_intro (tbl := t_X5_outs) (lv0 := [some (.ref 22), none, none]) (by decide) T_X5_outs aj_f0 (Nat.le_of_ble_eq_true rfl) rfl ?_
  intro G hl C Z NX hnm hGL hGF
  have C : aj_C G cX5_outs t_X5_outs RX5 (aj_rm 1 0 0) 3 := C
  refine x_iconst (q := 1) C 0 (n := (0)) (v := nI 0) rfl rfl rfl ?_
  refine y_istore1 (q := 2) C 1 rfl rfl (Nat.le_of_ble_eq_true rfl) rfl ?_
  refine x_iconst (q := 3) C 2 (n := (0)) (v := nI 0) rfl rfl rfl ?_
  refine y_istore2 (q := 4) C 3 rfl rfl (Nat.le_of_ble_eq_true rfl) rfl ?_
  have lp4 : ∀ (m j : Nat), j + m = n → aj_X G 4 [some (.ref 22), some (.int (nI (cnt (mOut I) j))), some (.int (nI j))] [] I J V N L 0 0 := by
    intro m
    induction m with
    | zero =>
      intro j hj
      refine y_iload2 (q := 5) C 4 rfl rfl ?_
      refine y_aload0 (q := 6) C 5 rfl rfl ?_
      refine x_getI (q := 9) C 6 rfl rfl fl_RX5_44 (fun _ _ => rfl) (by first | assumption | rfl | decide | omega | exact bL hB _ (by decide)) (by first | assumption | rfl | decide | omega | exact bL hB _ (by decide)) ?_
      rw [he]
      refine x_icmp_ge (q := 12) (t := 29) C 7 rfl (by decide) rfl (fun c1 => ?_) (fun c1 => ?_)
      · skip
        refine y_iload1 (q := 30) C 17 rfl rfl ?_
        exact x_ireturn C Z 18 rfl rfl rfl (by rw [show j = n from by first | omega | exact Nat.le_antisymm (by omega) (by omega)]; exact hK)
      · skip
        exact absurd (nI_le (by omega) (by omega)) c1
    | succ m ih =>
      intro j hj
      refine y_iload2 (q := 5) C 4 rfl rfl ?_
      refine y_aload0 (q := 6) C 5 rfl rfl ?_
      refine x_getI (q := 9) C 6 rfl rfl fl_RX5_44 (fun _ _ => rfl) (by first | assumption | rfl | decide | omega | exact bL hB _ (by decide)) (by first | assumption | rfl | decide | omega | exact bL hB _ (by decide)) ?_
      rw [he]
      refine x_icmp_ge (q := 12) (t := 29) C 7 rfl (by decide) rfl (fun c2 => ?_) (fun c2 => ?_)
      · skip
        exact absurd c2 (nI_ge (by omega) (by omega))
      · skip
        refine y_iload1 (q := 13) C 8 rfl rfl ?_
        refine y_aload0 (q := 14) C 9 rfl rfl ?_
        refine y_iload2 (q := 15) C 10 rfl rfl ?_
        refine y_cV1 (q := 18) C 11 rfl rfl ml_RX5_205 cd_X5_isOut cv_X5_isOut ⟨by decide, rfl⟩ (by first | assumption | rfl | decide | omega | exact bL hB _ (by decide)) (by decide) (by decide) (Nat.le_of_ble_eq_true rfl) (s_X5_isOut (by first | assumption | rfl | decide | omega | exact bL hB _ (by decide)) (by first | assumption | rfl | decide | omega | exact bL hB _ (by decide)) ?_)
        show aj_X G 18 _ _ _ _ _ _ _ _ _
        refine y_cS1 (q := 21) C 12 rfl rfl ml_RX5_47 cd_X5_one sv_X5_one (by decide) (by decide) (Nat.le_of_ble_eq_true rfl) (s_X5_one ?_)
        show aj_X G 21 _ _ _ _ _ _ _ _ _
        refine x_iadd (q := 22) C 13 rfl rfl ?_
        rw [cnt_one]
        refine y_istore1 (q := 23) C 14 rfl rfl (Nat.le_of_ble_eq_true rfl) rfl ?_
        refine y_iinc2 (q := 26) C 15 rfl rfl (nI_1 j) (Nat.le_of_ble_eq_true rfl) rfl ?_
        refine x_goto (t := 4) C 16 rfl (by decide) ?_
        exact ih (j + 1) (by omega)
  exact lp4 n 0 (by omega)
set_option maxRecDepth 100000 in
set_option maxHeartbeats 800000 in
theorem s_X5_bearing {l : Launch} {I : Nat → Nat → Int32} {J : Nat → Nat → Int64} {V : Nat → Nat → Option Nat} {N : Nat → Nat} {L : List Nat} {K : aj_K} {p q t : Int32} (hM : mI I) (hB : bV V N L) (hK : ∀ (r : Int32) I1 J1, mR I J I1 J1 → I1 22 0 = cd2 (vOk (vN (kV I)) p && vOk (vN (kV I)) q) (pIn t 0 29) → (cd2 (vOk (vN (kV I)) p && vOk (vN (kV I)) q) (pIn t 0 29) = 0 → r = anBe p q t (kV I)) → K (.inl (some (.int r))) I1 J1 V N L) : aj_M l yX5_bearing (aj_wc yX5_bearing cX5_bearing 5 (some .int)) (aj_rm 4 0 0) [] [.ref 22, .int p, .int q, .int t] I J V N L K := by
  refine aj_intro (tbl := t_X5_bearing) (lv0 := [some (.ref 22), some (.int p), some (.int q), some (.int t), none]) (by decide) T_X5_bearing aj_f0 (Nat.le_of_ble_eq_true rfl) rfl ?_
  intro G hl C Z NX hnm hGL hGF
  have C : aj_C G cX5_bearing t_X5_bearing RX5 (aj_rm 4 0 0) 5 := C
  obtain ⟨n, hn, he⟩ := hM.2.1
  refine y_aload0 (q := 1) C 0 rfl rfl ?_
  refine y_aload0 (q := 2) C 1 rfl rfl ?_
  refine y_iload1 (q := 3) C 2 rfl rfl ?_
  refine y_cV1 (q := 6) C 3 rfl rfl ml_RX5_149 cd_X5_isNoPlace cv_X5_isNoPlace ⟨by decide, rfl⟩ (by first | assumption | rfl | decide | omega | exact bL hB _ (by decide)) (by decide) (by decide) (Nat.le_of_ble_eq_true rfl) (s_X5_isNoPlace (by first | assumption | rfl | decide | omega | exact bL hB _ (by decide)) ?_)
  show aj_X G 6 _ _ _ _ _ _ _ _ _
  refine x_if_neB (q := 9) (t := 17) C 4 rfl (by decide) rfl (fun c1 => ?_) (fun c1 => ?_)
  · skip
    refine x_iconst (q := 18) C 9 (n := (1)) (v := (1)) rfl rfl rfl ?_
    refine x_goto (t := 22) C 10 rfl (by decide) ?_
    refine x_iconst (q := 23) C 12 (n := (1)) (v := (1)) rfl rfl rfl ?_
    refine y_cV2 (q := 26) C 13 rfl rfl ml_RX5_135 cd_X5_start cv_X5_start ⟨by decide, rfl⟩ (by first | assumption | rfl | decide | omega | exact bL hB _ (by decide)) (by decide) (by decide) (Nat.le_of_ble_eq_true rfl) (s_X5_start (b := true) (by decide) hB ?_)
    show aj_X G 26 _ _ _ _ _ _ _ _ _
    refine x_if_neB (q := 29) (t := 52) C 14 rfl (by decide) rfl (fun c2 => ?_) (fun c2 => ?_)
    · skip
      refine x_iconst (q := 53) C 27 (n := (0)) (v := (0)) rfl rfl rfl ?_
      exact x_ireturn C Z 28 rfl rfl rfl (hK _ _ _ (mR.th hM) (by rw [cd2_1 (and_f1 (kV.okf hn he (by assumption)))]; exact tH_t rfl) (cd2_n (Or.inl (and_f1 (kV.okf hn he (by assumption))))))
    · skip
      exact absurd c2 (by decide)
  · skip
    refine y_aload0 (q := 10) C 5 rfl rfl ?_
    refine y_iload2 (q := 11) C 6 rfl rfl ?_
    refine y_cV1 (q := 14) C 7 rfl rfl ml_RX5_149 cd_X5_isNoPlace cv_X5_isNoPlace ⟨by decide, rfl⟩ (by first | assumption | rfl | decide | omega | exact bL hB _ (by decide)) (by decide) (by decide) (Nat.le_of_ble_eq_true rfl) (s_X5_isNoPlace (by first | assumption | rfl | decide | omega | exact bL hB _ (by decide)) ?_)
    show aj_X G 14 _ _ _ _ _ _ _ _ _
    refine x_if_eqB (q := 17) (t := 21) C 8 rfl (by decide) rfl (fun c3 => ?_) (fun c3 => ?_)
    · skip
      refine x_iconst (q := 22) C 11 (n := (0)) (v := (0)) rfl rfl rfl ?_
      refine x_iconst (q := 23) C 12 (n := (1)) (v := (1)) rfl rfl rfl ?_
      refine y_cV2 (q := 26) C 13 rfl rfl ml_RX5_135 cd_X5_start cv_X5_start ⟨by decide, rfl⟩ (by first | assumption | rfl | decide | omega | exact bL hB _ (by decide)) (by decide) (by decide) (Nat.le_of_ble_eq_true rfl) (s_X5_start (b := false) (by decide) hB ?_)
      show aj_X G 26 _ _ _ _ _ _ _ _ _
      refine x_if_neB (q := 29) (t := 52) C 14 rfl (by decide) rfl (fun c4 => ?_) (fun c4 => ?_)
      · skip
        exact absurd c4 (by decide)
      · skip
        rw [tH_f]
        have hR0 : mR I J (aj_u I 22 0 0) J := mR.t hM
        have hT : aj_u I 22 0 0 22 0 = 0 := aj_u_s _ _ _ _
        have he0 : aj_u I 22 0 0 22 7 = nI n := (aj_u_k _ _ _ (by decide)).trans he
        generalize aj_u I 22 0 0 = I0 at hR0 hT he0 ⊢
        obtain ⟨j, hj, rfl⟩ := nP hn he (show (!pIn p 0 (I 22 7 - 1)) = false by assumption)
        obtain ⟨k, hk, rfl⟩ := nP hn he (show (!pIn q 0 (I 22 7 - 1)) = false by assumption)
        refine y_aload0 (q := 30) C 15 rfl rfl ?_
        refine y_iload3 (q := 31) C 16 rfl rfl ?_
        refine x_iconst (q := 32) C 17 (n := (0)) (v := (0)) rfl rfl rfl ?_
        refine x_bipush (q := 34) C 18 (n := (29)) (v := (29)) rfl rfl rfl ?_
        refine y_cS3 (q := 37) C 19 rfl rfl ml_RX5_40 cd_X5_isIn sv_X5_isIn (by decide) (by decide) (Nat.le_of_ble_eq_true rfl) (s_X5_isIn ?_)
        show aj_X G 37 _ _ _ _ _ _ _ _ _
        refine x_if_neB (q := 40) (t := 44) C 20 rfl (by decide) rfl (fun c5 => ?_) (fun c5 => ?_)
        · skip
          refine x_iconst (q := 45) C 23 (n := (0)) (v := (0)) rfl rfl rfl ?_
          refine x_iconst (q := 46) C 24 (n := (2)) (v := (2)) rfl rfl rfl ?_
          refine y_cV2 (q := 49) C 25 rfl rfl ml_RX5_36 cd_X5_refuse cv_X5_refuse ⟨by decide, rfl⟩ (by first | assumption | rfl | decide | omega | exact bL hB _ (by decide)) (by decide) (by decide) (Nat.le_of_ble_eq_true rfl) (s_X5_refuse (b := false) (by decide) hT hB ?_)
          show aj_X G 49 _ _ _ _ _ _ _ _ _
          refine x_if_eqB (q := 52) (t := 54) C 26 rfl (by decide) rfl (fun c6 => ?_) (fun c6 => ?_)
          · skip
            rw [tH_f]
            refine y_aload0 (q := 55) C 29 rfl rfl ?_
            refine x_getR (q := 58) C 30 rfl rfl fl_RX5_26 (bv_6_6 hB) (fun _ _ => rfl) (by first | assumption | rfl | decide | omega | exact bL hB _ (by decide)) (by first | assumption | rfl | decide | omega | exact bL hB _ (by decide)) ?_
            refine y_iload2 (q := 59) C 31 rfl rfl ?_
            refine x_iald (q := 60) C 32 rfl rfl (by first | assumption | rfl | decide | omega | exact bL hB _ (by decide)) (by first | assumption | rfl | decide | omega | exact bL hB _ (by decide)) (by (first | rw [bn24 hB] | rw [bn40 hB] | rw [bn56 hB] | rw [bn72 hB] | rw [bn27 hB] | rw [bn43 hB] | rw [bn25 hB] | rw [bn41 hB] | rw [bn88 hB] | rw [bn104 hB] | rw [bn120 hB] | rw [bn136 hB] | rw [bn152 hB] | rw [bn168 hB]); first | assumption | exact vp_in_nI (by omega) (by decide)) ?_
            rw [nI_clamp (by omega)]
            refine y_aload0 (q := 61) C 33 rfl rfl ?_
            refine x_getR (q := 64) C 34 rfl rfl fl_RX5_26 (bv_6_6 hB) (fun _ _ => rfl) (by first | assumption | rfl | decide | omega | exact bL hB _ (by decide)) (by first | assumption | rfl | decide | omega | exact bL hB _ (by decide)) ?_
            refine y_iload1 (q := 65) C 35 rfl rfl ?_
            refine x_iald (q := 66) C 36 rfl rfl (by first | assumption | rfl | decide | omega | exact bL hB _ (by decide)) (by first | assumption | rfl | decide | omega | exact bL hB _ (by decide)) (by (first | rw [bn24 hB] | rw [bn40 hB] | rw [bn56 hB] | rw [bn72 hB] | rw [bn27 hB] | rw [bn43 hB] | rw [bn25 hB] | rw [bn41 hB] | rw [bn88 hB] | rw [bn104 hB] | rw [bn120 hB] | rw [bn136 hB] | rw [bn152 hB] | rw [bn168 hB]); first | assumption | exact vp_in_nI (by omega) (by decide)) ?_
            rw [nI_clamp (by omega)]
            refine x_isub (q := 67) C 37 rfl rfl ?_
            refine y_istore4 (q := 69) C 38 rfl rfl (Nat.le_of_ble_eq_true rfl) rfl ?_
            refine y_iload1 (q := 70) C 39 rfl rfl ?_
            refine y_iload2 (q := 71) C 40 rfl rfl ?_
            refine x_icmp_ne (q := 74) (t := 79) C 41 rfl (by decide) rfl (fun c7 => ?_) (fun c7 => ?_)
            · skip
              refine y_aload0 (q := 80) C 44 rfl rfl ?_
              refine x_getR (q := 83) C 45 rfl rfl fl_RX5_23 (bv_6_5 hB) (fun _ _ => rfl) (by first | assumption | rfl | decide | omega | exact bL hB _ (by decide)) (by first | assumption | rfl | decide | omega | exact bL hB _ (by decide)) ?_
              refine y_iload2 (q := 84) C 46 rfl rfl ?_
              refine x_iald (q := 85) C 47 rfl rfl (by first | assumption | rfl | decide | omega | exact bL hB _ (by decide)) (by first | assumption | rfl | decide | omega | exact bL hB _ (by decide)) (by (first | rw [bn24 hB] | rw [bn40 hB] | rw [bn56 hB] | rw [bn72 hB] | rw [bn27 hB] | rw [bn43 hB] | rw [bn25 hB] | rw [bn41 hB] | rw [bn88 hB] | rw [bn104 hB] | rw [bn120 hB] | rw [bn136 hB] | rw [bn152 hB] | rw [bn168 hB]); first | assumption | exact vp_in_nI (by omega) (by decide)) ?_
              rw [nI_clamp (by omega)]
              refine y_aload0 (q := 86) C 48 rfl rfl ?_
              refine x_getR (q := 89) C 49 rfl rfl fl_RX5_23 (bv_6_5 hB) (fun _ _ => rfl) (by first | assumption | rfl | decide | omega | exact bL hB _ (by decide)) (by first | assumption | rfl | decide | omega | exact bL hB _ (by decide)) ?_
              refine y_iload1 (q := 90) C 50 rfl rfl ?_
              refine x_iald (q := 91) C 51 rfl rfl (by first | assumption | rfl | decide | omega | exact bL hB _ (by decide)) (by first | assumption | rfl | decide | omega | exact bL hB _ (by decide)) (by (first | rw [bn24 hB] | rw [bn40 hB] | rw [bn56 hB] | rw [bn72 hB] | rw [bn27 hB] | rw [bn43 hB] | rw [bn25 hB] | rw [bn41 hB] | rw [bn88 hB] | rw [bn104 hB] | rw [bn120 hB] | rw [bn136 hB] | rw [bn152 hB] | rw [bn168 hB]); first | assumption | exact vp_in_nI (by omega) (by decide)) ?_
              rw [nI_clamp (by omega)]
              refine x_isub (q := 92) C 52 rfl rfl ?_
              refine y_iload4 (q := 94) C 53 rfl rfl ?_
              refine x_iconst (q := 95) C 54 (n := (0)) (v := (0)) rfl rfl rfl ?_
              refine y_cS3 (q := 98) C 55 rfl rfl ml_RX5_128 cd_X5_sizeOf sv_X5_sizeOf (by decide) (by decide) (Nat.le_of_ble_eq_true rfl) (s_X5_sizeOf (pIn_sub (hR0.2.1.2.2.1 _ (by omega)).1 (hR0.2.1.2.2.1 _ (by omega)).1) (pIn_sub (hR0.2.1.2.2.1 _ (by omega)).2 (hR0.2.1.2.2.1 _ (by omega)).2) ?_)
              show aj_X G 98 _ _ _ _ _ _ _ _ _
              refine y_iload4 (q := 100) C 56 rfl rfl ?_
              refine x_if_ge (q := 103) (t := 107) C 57 rfl (by decide) rfl (fun c8 => ?_) (fun c8 => ?_)
              · skip
                refine x_iconst (q := 108) C 60 (n := (0)) (v := (0)) rfl rfl rfl ?_
                refine y_cS1 (q := 111) C 61 rfl rfl ml_RX5_47 cd_X5_one sv_X5_one (by decide) (by decide) (Nat.le_of_ble_eq_true rfl) (s_X5_one ?_)
                show aj_X G 111 _ _ _ _ _ _ _ _ _
                refine y_iload3 (q := 112) C 62 rfl rfl ?_
                refine y_cS3 (q := 115) C 63 rfl rfl ml_RX5_158 cd_X5_gradeOf sv_X5_gradeOf (by decide) (by decide) (Nat.le_of_ble_eq_true rfl) (s_X5_gradeOf ?_)
                show aj_X G 115 _ _ _ _ _ _ _ _ _
                exact x_ireturn C Z 64 rfl rfl rfl (hK _ _ _ hR0 (by rw [cd2_t (and_t (kV.okt hn he hj) (kV.okt hn he hk)) (by assumption)]; exact hT) (fun _ => by rw [← hR0.2.2.1, kV_n hn he0, anBe_t hn hj hk (fun w => absurd (congrArg nI w) (by assumption)), show decide (I0 152 k - I0 152 j < 0) = false from decide_eq_false (Int32.not_lt.mpr (by assumption))]; rfl))
              · skip
                refine x_iconst (q := 104) C 58 (n := (1)) (v := (1)) rfl rfl rfl ?_
                refine x_goto (t := 108) C 59 rfl (by decide) ?_
                refine y_cS1 (q := 111) C 61 rfl rfl ml_RX5_47 cd_X5_one sv_X5_one (by decide) (by decide) (Nat.le_of_ble_eq_true rfl) (s_X5_one ?_)
                show aj_X G 111 _ _ _ _ _ _ _ _ _
                refine y_iload3 (q := 112) C 62 rfl rfl ?_
                refine y_cS3 (q := 115) C 63 rfl rfl ml_RX5_158 cd_X5_gradeOf sv_X5_gradeOf (by decide) (by decide) (Nat.le_of_ble_eq_true rfl) (s_X5_gradeOf ?_)
                show aj_X G 115 _ _ _ _ _ _ _ _ _
                exact x_ireturn C Z 64 rfl rfl rfl (hK _ _ _ hR0 (by rw [cd2_t (and_t (kV.okt hn he hj) (kV.okt hn he hk)) (by assumption)]; exact hT) (fun _ => by rw [← hR0.2.2.1, kV_n hn he0, anBe_t hn hj hk (fun w => absurd (congrArg nI w) (by assumption)), show decide (I0 152 k - I0 152 j < 0) = true from decide_eq_true (Int32.not_le.mp (by assumption))]; rfl))
            · skip
              refine x_bipush (q := 76) C 42 (n := (-9)) (v := (-9)) rfl rfl rfl ?_
              refine x_goto (t := 115) C 43 rfl (by decide) ?_
              exact x_ireturn C Z 64 rfl rfl rfl (hK _ _ _ hR0 (by rw [cd2_t (and_t (kV.okt hn he hj) (kV.okt hn he hk)) (by assumption)]; exact hT) (fun _ => by rw [show j = k from (nI_eq (by omega) (by omega)).mp (by assumption)]; exact anBe_n.symm))
          · skip
            exact absurd c6 (by decide)
        · skip
          refine x_iconst (q := 41) C 21 (n := (1)) (v := (1)) rfl rfl rfl ?_
          refine x_goto (t := 45) C 22 rfl (by decide) ?_
          refine x_iconst (q := 46) C 24 (n := (2)) (v := (2)) rfl rfl rfl ?_
          refine y_cV2 (q := 49) C 25 rfl rfl ml_RX5_36 cd_X5_refuse cv_X5_refuse ⟨by decide, rfl⟩ (by first | assumption | rfl | decide | omega | exact bL hB _ (by decide)) (by decide) (by decide) (Nat.le_of_ble_eq_true rfl) (s_X5_refuse (b := true) (by decide) hT hB ?_)
          show aj_X G 49 _ _ _ _ _ _ _ _ _
          refine x_if_eqB (q := 52) (t := 54) C 26 rfl (by decide) rfl (fun c9 => ?_) (fun c9 => ?_)
          · skip
            exact absurd c9 (by decide)
          · skip
            refine x_iconst (q := 53) C 27 (n := (0)) (v := (0)) rfl rfl rfl ?_
            exact x_ireturn C Z 28 rfl rfl rfl (hK _ _ _ (mR.tr hR0 (mR.tw hR0.2.1)) (by rw [cd2_2 (and_t (kV.okt hn he hj) (kV.okt hn he hk)) (by assumption)]; exact tH_t rfl) (cd2_n (Or.inr (by assumption))))
    · skip
      refine x_iconst (q := 18) C 9 (n := (1)) (v := (1)) rfl rfl rfl ?_
      refine x_goto (t := 22) C 10 rfl (by decide) ?_
      refine x_iconst (q := 23) C 12 (n := (1)) (v := (1)) rfl rfl rfl ?_
      refine y_cV2 (q := 26) C 13 rfl rfl ml_RX5_135 cd_X5_start cv_X5_start ⟨by decide, rfl⟩ (by first | assumption | rfl | decide | omega | exact bL hB _ (by decide)) (by decide) (by decide) (Nat.le_of_ble_eq_true rfl) (s_X5_start (b := true) (by decide) hB ?_)
      show aj_X G 26 _ _ _ _ _ _ _ _ _
      refine x_if_neB (q := 29) (t := 52) C 14 rfl (by decide) rfl (fun c10 => ?_) (fun c10 => ?_)
      · skip
        refine x_iconst (q := 53) C 27 (n := (0)) (v := (0)) rfl rfl rfl ?_
        exact x_ireturn C Z 28 rfl rfl rfl (hK _ _ _ (mR.th hM) (by rw [cd2_1 (and_f2 (kV.okf hn he (by assumption)))]; exact tH_t rfl) (cd2_n (Or.inl (and_f2 (kV.okf hn he (by assumption))))))
      · skip
        exact absurd c10 (by decide)
set_option maxRecDepth 100000 in
set_option maxHeartbeats 800000 in
theorem s_X5_left {l : Launch} {I : Nat → Nat → Int32} {J : Nat → Nat → Int64} {V : Nat → Nat → Option Nat} {N : Nat → Nat} {L : List Nat} {K : aj_K} {p q t : Int32} (hM : mI I) (hB : bV V N L) (hK : ∀ (r : Int32) I1 J1, mR I J I1 J1 → I1 22 0 = cd1 (bAll3 p q t (kV I)) → (cd1 (bAll3 p q t (kV I)) = 0 → r = anLe p q t (kV I)) → K (.inl (some (.int r))) I1 J1 V N L) : aj_M l yX5_left (aj_wc yX5_left cX5_left 4 (some .int)) (aj_rm 2 0 0) [] [.ref 22, .int p, .int q, .int t] I J V N L K := by
  refine aj_intro (tbl := t_X5_left) (lv0 := [some (.ref 22), some (.int p), some (.int q), some (.int t)]) (by decide) T_X5_left aj_f0 (Nat.le_of_ble_eq_true rfl) rfl ?_
  intro G hl C Z NX hnm hGL hGF
  have C : aj_C G cX5_left t_X5_left RX5 (aj_rm 2 0 0) 4 := C
  obtain ⟨n, hn, he⟩ := hM.2.1
  refine y_aload0 (q := 1) C 0 rfl rfl ?_
  refine y_aload0 (q := 2) C 1 rfl rfl ?_
  refine y_iload1 (q := 3) C 2 rfl rfl ?_
  refine y_cV1 (q := 6) C 3 rfl rfl ml_RX5_149 cd_X5_isNoPlace cv_X5_isNoPlace ⟨by decide, rfl⟩ (by first | assumption | rfl | decide | omega | exact bL hB _ (by decide)) (by decide) (by decide) (Nat.le_of_ble_eq_true rfl) (s_X5_isNoPlace (by first | assumption | rfl | decide | omega | exact bL hB _ (by decide)) ?_)
  show aj_X G 6 _ _ _ _ _ _ _ _ _
  refine x_if_neB (q := 9) (t := 25) C 4 rfl (by decide) rfl (fun c1 => ?_) (fun c1 => ?_)
  · skip
    refine x_iconst (q := 26) C 13 (n := (1)) (v := (1)) rfl rfl rfl ?_
    refine x_goto (t := 30) C 14 rfl (by decide) ?_
    refine x_iconst (q := 31) C 16 (n := (1)) (v := (1)) rfl rfl rfl ?_
    refine y_cV2 (q := 34) C 17 rfl rfl ml_RX5_135 cd_X5_start cv_X5_start ⟨by decide, rfl⟩ (by first | assumption | rfl | decide | omega | exact bL hB _ (by decide)) (by decide) (by decide) (Nat.le_of_ble_eq_true rfl) (s_X5_start (b := true) (by decide) hB ?_)
    show aj_X G 34 _ _ _ _ _ _ _ _ _
    refine x_if_eqB (q := 37) (t := 39) C 18 rfl (by decide) rfl (fun c2 => ?_) (fun c2 => ?_)
    · skip
      exact absurd c2 (by decide)
    · skip
      refine x_iconst (q := 38) C 19 (n := (0)) (v := (0)) rfl rfl rfl ?_
      exact x_ireturn C Z 20 rfl rfl rfl (hK _ _ _ (mR.th hM) (by rw [cd1_f (all3_f (Or.inl (kV.okf hn he (by assumption))))]; exact tH_t rfl) (cd1_n (all3_f (Or.inl (kV.okf hn he (by assumption))))))
  · skip
    refine y_aload0 (q := 10) C 5 rfl rfl ?_
    refine y_iload2 (q := 11) C 6 rfl rfl ?_
    refine y_cV1 (q := 14) C 7 rfl rfl ml_RX5_149 cd_X5_isNoPlace cv_X5_isNoPlace ⟨by decide, rfl⟩ (by first | assumption | rfl | decide | omega | exact bL hB _ (by decide)) (by decide) (by decide) (Nat.le_of_ble_eq_true rfl) (s_X5_isNoPlace (by first | assumption | rfl | decide | omega | exact bL hB _ (by decide)) ?_)
    show aj_X G 14 _ _ _ _ _ _ _ _ _
    refine x_if_neB (q := 17) (t := 25) C 8 rfl (by decide) rfl (fun c3 => ?_) (fun c3 => ?_)
    · skip
      refine x_iconst (q := 26) C 13 (n := (1)) (v := (1)) rfl rfl rfl ?_
      refine x_goto (t := 30) C 14 rfl (by decide) ?_
      refine x_iconst (q := 31) C 16 (n := (1)) (v := (1)) rfl rfl rfl ?_
      refine y_cV2 (q := 34) C 17 rfl rfl ml_RX5_135 cd_X5_start cv_X5_start ⟨by decide, rfl⟩ (by first | assumption | rfl | decide | omega | exact bL hB _ (by decide)) (by decide) (by decide) (Nat.le_of_ble_eq_true rfl) (s_X5_start (b := true) (by decide) hB ?_)
      show aj_X G 34 _ _ _ _ _ _ _ _ _
      refine x_if_eqB (q := 37) (t := 39) C 18 rfl (by decide) rfl (fun c4 => ?_) (fun c4 => ?_)
      · skip
        exact absurd c4 (by decide)
      · skip
        refine x_iconst (q := 38) C 19 (n := (0)) (v := (0)) rfl rfl rfl ?_
        exact x_ireturn C Z 20 rfl rfl rfl (hK _ _ _ (mR.th hM) (by rw [cd1_f (all3_f (Or.inr (Or.inl (kV.okf hn he (by assumption)))))]; exact tH_t rfl) (cd1_n (all3_f (Or.inr (Or.inl (kV.okf hn he (by assumption)))))))
    · skip
      refine y_aload0 (q := 18) C 9 rfl rfl ?_
      refine y_iload3 (q := 19) C 10 rfl rfl ?_
      refine y_cV1 (q := 22) C 11 rfl rfl ml_RX5_149 cd_X5_isNoPlace cv_X5_isNoPlace ⟨by decide, rfl⟩ (by first | assumption | rfl | decide | omega | exact bL hB _ (by decide)) (by decide) (by decide) (Nat.le_of_ble_eq_true rfl) (s_X5_isNoPlace (by first | assumption | rfl | decide | omega | exact bL hB _ (by decide)) ?_)
      show aj_X G 22 _ _ _ _ _ _ _ _ _
      refine x_if_eqB (q := 25) (t := 29) C 12 rfl (by decide) rfl (fun c5 => ?_) (fun c5 => ?_)
      · skip
        refine x_iconst (q := 30) C 15 (n := (0)) (v := (0)) rfl rfl rfl ?_
        refine x_iconst (q := 31) C 16 (n := (1)) (v := (1)) rfl rfl rfl ?_
        refine y_cV2 (q := 34) C 17 rfl rfl ml_RX5_135 cd_X5_start cv_X5_start ⟨by decide, rfl⟩ (by first | assumption | rfl | decide | omega | exact bL hB _ (by decide)) (by decide) (by decide) (Nat.le_of_ble_eq_true rfl) (s_X5_start (b := false) (by decide) hB ?_)
        show aj_X G 34 _ _ _ _ _ _ _ _ _
        refine x_if_eqB (q := 37) (t := 39) C 18 rfl (by decide) rfl (fun c6 => ?_) (fun c6 => ?_)
        · skip
          rw [tH_f]
          have hR0 : mR I J (aj_u I 22 0 0) J := mR.t hM
          have hT : aj_u I 22 0 0 22 0 = 0 := aj_u_s _ _ _ _
          have he0 : aj_u I 22 0 0 22 7 = nI n := (aj_u_k _ _ _ (by decide)).trans he
          generalize aj_u I 22 0 0 = I0 at hR0 hT he0 ⊢
          obtain ⟨j, hj, rfl⟩ := nP hn he (show (!pIn p 0 (I 22 7 - 1)) = false by assumption)
          obtain ⟨k, hk, rfl⟩ := nP hn he (show (!pIn q 0 (I 22 7 - 1)) = false by assumption)
          obtain ⟨i, hi, rfl⟩ := nP hn he (show (!pIn t 0 (I 22 7 - 1)) = false by assumption)
          refine y_iload2 (q := 40) C 21 rfl rfl ?_
          refine y_iload1 (q := 41) C 22 rfl rfl ?_
          refine x_icmp_eq (q := 44) (t := 49) C 23 rfl (by decide) rfl (fun c7 => ?_) (fun c7 => ?_)
          · skip
            refine x_bipush (q := 51) C 27 (n := (-9)) (v := (-9)) rfl rfl rfl ?_
            refine x_goto (t := 64) C 28 rfl (by decide) ?_
            exact x_ireturn C Z 35 rfl rfl rfl (hK _ _ _ hR0 (by rw [cd1_t (all3_t (kV.okt hn he hj) (kV.okt hn he hk) (kV.okt hn he hi))]; exact hT) (fun _ => (anLe_n (by omega) (by omega) (by omega) (Or.inl ((nI_eq (by omega) (by omega)).mp (by assumption)))).symm))
          · skip
            refine y_iload3 (q := 45) C 24 rfl rfl ?_
            refine y_iload1 (q := 46) C 25 rfl rfl ?_
            refine x_icmp_ne (q := 49) (t := 54) C 26 rfl (by decide) rfl (fun c8 => ?_) (fun c8 => ?_)
            · skip
              refine y_aload0 (q := 55) C 29 rfl rfl ?_
              refine y_iload1 (q := 56) C 30 rfl rfl ?_
              refine y_iload2 (q := 57) C 31 rfl rfl ?_
              refine y_iload3 (q := 58) C 32 rfl rfl ?_
              refine y_cV3 (q := 61) C 33 rfl rfl ml_RX5_202 cd_X5_turn cv_X5_turn ⟨by decide, rfl⟩ (by first | assumption | rfl | decide | omega | exact bL hB _ (by decide)) (by decide) (by decide) (Nat.le_of_ble_eq_true rfl) (s_X5_turn (by omega) (by omega) (by omega) hB ?_)
              show aj_X G 61 _ _ _ _ _ _ _ _ _
              refine y_cS1 (q := 64) C 34 rfl rfl ml_RX5_111 cd_J6_signum_0f7a4 sv_J6_signum_0f7a4 (by decide) (by decide) (Nat.le_of_ble_eq_true rfl) (s_J6_signum_0f7a4 ?_)
              show aj_X G 64 _ _ _ _ _ _ _ _ _
              exact x_ireturn C Z 35 rfl rfl rfl (hK _ _ _ hR0 (by rw [cd1_t (all3_t (kV.okt hn he hj) (kV.okt hn he hk) (kV.okt hn he hi))]; exact hT) (fun _ => by rw [kV.le hR0 hn he0 hj hk hi (fun w => absurd (congrArg nI w) (by assumption)) (fun w => absurd (congrArg nI w) (by assumption))]; exact mSn_vSg _))
            · skip
              refine x_bipush (q := 51) C 27 (n := (-9)) (v := (-9)) rfl rfl rfl ?_
              refine x_goto (t := 64) C 28 rfl (by decide) ?_
              exact x_ireturn C Z 35 rfl rfl rfl (hK _ _ _ hR0 (by rw [cd1_t (all3_t (kV.okt hn he hj) (kV.okt hn he hk) (kV.okt hn he hi))]; exact hT) (fun _ => (anLe_n (by omega) (by omega) (by omega) (Or.inr ((nI_eq (by omega) (by omega)).mp (by assumption)))).symm))
        · skip
          exact absurd c6 (by decide)
      · skip
        refine x_iconst (q := 26) C 13 (n := (1)) (v := (1)) rfl rfl rfl ?_
        refine x_goto (t := 30) C 14 rfl (by decide) ?_
        refine x_iconst (q := 31) C 16 (n := (1)) (v := (1)) rfl rfl rfl ?_
        refine y_cV2 (q := 34) C 17 rfl rfl ml_RX5_135 cd_X5_start cv_X5_start ⟨by decide, rfl⟩ (by first | assumption | rfl | decide | omega | exact bL hB _ (by decide)) (by decide) (by decide) (Nat.le_of_ble_eq_true rfl) (s_X5_start (b := true) (by decide) hB ?_)
        show aj_X G 34 _ _ _ _ _ _ _ _ _
        refine x_if_eqB (q := 37) (t := 39) C 18 rfl (by decide) rfl (fun c9 => ?_) (fun c9 => ?_)
        · skip
          exact absurd c9 (by decide)
        · skip
          refine x_iconst (q := 38) C 19 (n := (0)) (v := (0)) rfl rfl rfl ?_
          exact x_ireturn C Z 20 rfl rfl rfl (hK _ _ _ (mR.th hM) (by rw [cd1_f (all3_f (Or.inr (Or.inr (kV.okf hn he (by assumption)))))]; exact tH_t rfl) (cd1_n (all3_f (Or.inr (Or.inr (kV.okf hn he (by assumption)))))))
set_option maxRecDepth 100000 in
set_option maxHeartbeats 800000 in
theorem s_X5_bearingOrder {l : Launch} {I : Nat → Nat → Int32} {J : Nat → Nat → Int64} {V : Nat → Nat → Option Nat} {N : Nat → Nat} {L : List Nat} {K : aj_K} {p q t : Int32} (hM : mI I) (hB : bV V N L) (hK : ∀ (r : Int32) I1 J1, mR I J I1 J1 → I1 22 0 = cd1 (bAll3 p q t (kV I)) → (cd1 (bAll3 p q t (kV I)) = 0 → r = anBO p q t (kV I)) → K (.inl (some (.int r))) I1 J1 V N L) : aj_M l yX5_bearingOrder (aj_wc yX5_bearingOrder cX5_bearingOrder 4 (some .int)) (aj_rm 3 0 0) [] [.ref 22, .int p, .int q, .int t] I J V N L K := by
  refine aj_intro (tbl := t_X5_bearingOrder) (lv0 := [some (.ref 22), some (.int p), some (.int q), some (.int t)]) (by decide) T_X5_bearingOrder aj_f0 (Nat.le_of_ble_eq_true rfl) rfl ?_
  intro G hl C Z NX hnm hGL hGF
  have C : aj_C G cX5_bearingOrder t_X5_bearingOrder RX5 (aj_rm 3 0 0) 4 := C
  obtain ⟨n, hn, he⟩ := hM.2.1
  refine y_aload0 (q := 1) C 0 rfl rfl ?_
  refine y_aload0 (q := 2) C 1 rfl rfl ?_
  refine y_iload1 (q := 3) C 2 rfl rfl ?_
  refine y_cV1 (q := 6) C 3 rfl rfl ml_RX5_149 cd_X5_isNoPlace cv_X5_isNoPlace ⟨by decide, rfl⟩ (by first | assumption | rfl | decide | omega | exact bL hB _ (by decide)) (by decide) (by decide) (Nat.le_of_ble_eq_true rfl) (s_X5_isNoPlace (by first | assumption | rfl | decide | omega | exact bL hB _ (by decide)) ?_)
  show aj_X G 6 _ _ _ _ _ _ _ _ _
  refine x_if_neB (q := 9) (t := 25) C 4 rfl (by decide) rfl (fun c1 => ?_) (fun c1 => ?_)
  · skip
    refine x_iconst (q := 26) C 13 (n := (1)) (v := (1)) rfl rfl rfl ?_
    refine x_goto (t := 30) C 14 rfl (by decide) ?_
    refine x_iconst (q := 31) C 16 (n := (1)) (v := (1)) rfl rfl rfl ?_
    refine y_cV2 (q := 34) C 17 rfl rfl ml_RX5_135 cd_X5_start cv_X5_start ⟨by decide, rfl⟩ (by first | assumption | rfl | decide | omega | exact bL hB _ (by decide)) (by decide) (by decide) (Nat.le_of_ble_eq_true rfl) (s_X5_start (b := true) (by decide) hB ?_)
    show aj_X G 34 _ _ _ _ _ _ _ _ _
    refine x_if_eqB (q := 37) (t := 39) C 18 rfl (by decide) rfl (fun c2 => ?_) (fun c2 => ?_)
    · skip
      exact absurd c2 (by decide)
    · skip
      refine x_iconst (q := 38) C 19 (n := (0)) (v := (0)) rfl rfl rfl ?_
      exact x_ireturn C Z 20 rfl rfl rfl (hK _ _ _ (mR.th hM) (by rw [cd1_f (all3_f (Or.inl (kV.okf hn he (by assumption))))]; exact tH_t rfl) (cd1_n (all3_f (Or.inl (kV.okf hn he (by assumption))))))
  · skip
    refine y_aload0 (q := 10) C 5 rfl rfl ?_
    refine y_iload2 (q := 11) C 6 rfl rfl ?_
    refine y_cV1 (q := 14) C 7 rfl rfl ml_RX5_149 cd_X5_isNoPlace cv_X5_isNoPlace ⟨by decide, rfl⟩ (by first | assumption | rfl | decide | omega | exact bL hB _ (by decide)) (by decide) (by decide) (Nat.le_of_ble_eq_true rfl) (s_X5_isNoPlace (by first | assumption | rfl | decide | omega | exact bL hB _ (by decide)) ?_)
    show aj_X G 14 _ _ _ _ _ _ _ _ _
    refine x_if_neB (q := 17) (t := 25) C 8 rfl (by decide) rfl (fun c3 => ?_) (fun c3 => ?_)
    · skip
      refine x_iconst (q := 26) C 13 (n := (1)) (v := (1)) rfl rfl rfl ?_
      refine x_goto (t := 30) C 14 rfl (by decide) ?_
      refine x_iconst (q := 31) C 16 (n := (1)) (v := (1)) rfl rfl rfl ?_
      refine y_cV2 (q := 34) C 17 rfl rfl ml_RX5_135 cd_X5_start cv_X5_start ⟨by decide, rfl⟩ (by first | assumption | rfl | decide | omega | exact bL hB _ (by decide)) (by decide) (by decide) (Nat.le_of_ble_eq_true rfl) (s_X5_start (b := true) (by decide) hB ?_)
      show aj_X G 34 _ _ _ _ _ _ _ _ _
      refine x_if_eqB (q := 37) (t := 39) C 18 rfl (by decide) rfl (fun c4 => ?_) (fun c4 => ?_)
      · skip
        exact absurd c4 (by decide)
      · skip
        refine x_iconst (q := 38) C 19 (n := (0)) (v := (0)) rfl rfl rfl ?_
        exact x_ireturn C Z 20 rfl rfl rfl (hK _ _ _ (mR.th hM) (by rw [cd1_f (all3_f (Or.inr (Or.inl (kV.okf hn he (by assumption)))))]; exact tH_t rfl) (cd1_n (all3_f (Or.inr (Or.inl (kV.okf hn he (by assumption)))))))
    · skip
      refine y_aload0 (q := 18) C 9 rfl rfl ?_
      refine y_iload3 (q := 19) C 10 rfl rfl ?_
      refine y_cV1 (q := 22) C 11 rfl rfl ml_RX5_149 cd_X5_isNoPlace cv_X5_isNoPlace ⟨by decide, rfl⟩ (by first | assumption | rfl | decide | omega | exact bL hB _ (by decide)) (by decide) (by decide) (Nat.le_of_ble_eq_true rfl) (s_X5_isNoPlace (by first | assumption | rfl | decide | omega | exact bL hB _ (by decide)) ?_)
      show aj_X G 22 _ _ _ _ _ _ _ _ _
      refine x_if_eqB (q := 25) (t := 29) C 12 rfl (by decide) rfl (fun c5 => ?_) (fun c5 => ?_)
      · skip
        refine x_iconst (q := 30) C 15 (n := (0)) (v := (0)) rfl rfl rfl ?_
        refine x_iconst (q := 31) C 16 (n := (1)) (v := (1)) rfl rfl rfl ?_
        refine y_cV2 (q := 34) C 17 rfl rfl ml_RX5_135 cd_X5_start cv_X5_start ⟨by decide, rfl⟩ (by first | assumption | rfl | decide | omega | exact bL hB _ (by decide)) (by decide) (by decide) (Nat.le_of_ble_eq_true rfl) (s_X5_start (b := false) (by decide) hB ?_)
        show aj_X G 34 _ _ _ _ _ _ _ _ _
        refine x_if_eqB (q := 37) (t := 39) C 18 rfl (by decide) rfl (fun c6 => ?_) (fun c6 => ?_)
        · skip
          rw [tH_f]
          have hR0 : mR I J (aj_u I 22 0 0) J := mR.t hM
          have hT : aj_u I 22 0 0 22 0 = 0 := aj_u_s _ _ _ _
          have he0 : aj_u I 22 0 0 22 7 = nI n := (aj_u_k _ _ _ (by decide)).trans he
          generalize aj_u I 22 0 0 = I0 at hR0 hT he0 ⊢
          obtain ⟨j, hj, rfl⟩ := nP hn he (show (!pIn p 0 (I 22 7 - 1)) = false by assumption)
          obtain ⟨k, hk, rfl⟩ := nP hn he (show (!pIn q 0 (I 22 7 - 1)) = false by assumption)
          obtain ⟨i, hi, rfl⟩ := nP hn he (show (!pIn t 0 (I 22 7 - 1)) = false by assumption)
          refine y_iload2 (q := 40) C 21 rfl rfl ?_
          refine y_iload1 (q := 41) C 22 rfl rfl ?_
          refine x_icmp_eq (q := 44) (t := 49) C 23 rfl (by decide) rfl (fun c7 => ?_) (fun c7 => ?_)
          · skip
            refine x_bipush (q := 51) C 27 (n := (-9)) (v := (-9)) rfl rfl rfl ?_
            refine x_goto (t := 109) C 28 rfl (by decide) ?_
            exact x_ireturn C Z 66 rfl rfl rfl (hK _ _ _ hR0 (by rw [cd1_t (all3_t (kV.okt hn he hj) (kV.okt hn he hk) (kV.okt hn he hi))]; exact hT) (fun _ => (anBO_n (by omega) (by omega) (by omega) (Or.inl ((nI_eq (by omega) (by omega)).mp (by assumption)))).symm))
          · skip
            refine y_iload3 (q := 45) C 24 rfl rfl ?_
            refine y_iload1 (q := 46) C 25 rfl rfl ?_
            refine x_icmp_ne (q := 49) (t := 54) C 26 rfl (by decide) rfl (fun c8 => ?_) (fun c8 => ?_)
            · skip
              refine y_aload0 (q := 55) C 29 rfl rfl ?_
              refine x_getR (q := 58) C 30 rfl rfl fl_RX5_23 (bv_6_5 hB) (fun _ _ => rfl) (by first | assumption | rfl | decide | omega | exact bL hB _ (by decide)) (by first | assumption | rfl | decide | omega | exact bL hB _ (by decide)) ?_
              refine y_iload2 (q := 59) C 31 rfl rfl ?_
              refine x_iald (q := 60) C 32 rfl rfl (by first | assumption | rfl | decide | omega | exact bL hB _ (by decide)) (by first | assumption | rfl | decide | omega | exact bL hB _ (by decide)) (by (first | rw [bn24 hB] | rw [bn40 hB] | rw [bn56 hB] | rw [bn72 hB] | rw [bn27 hB] | rw [bn43 hB] | rw [bn25 hB] | rw [bn41 hB] | rw [bn88 hB] | rw [bn104 hB] | rw [bn120 hB] | rw [bn136 hB] | rw [bn152 hB] | rw [bn168 hB]); first | assumption | exact vp_in_nI (by omega) (by decide)) ?_
              rw [nI_clamp (by omega)]
              refine y_aload0 (q := 61) C 33 rfl rfl ?_
              refine x_getR (q := 64) C 34 rfl rfl fl_RX5_23 (bv_6_5 hB) (fun _ _ => rfl) (by first | assumption | rfl | decide | omega | exact bL hB _ (by decide)) (by first | assumption | rfl | decide | omega | exact bL hB _ (by decide)) ?_
              refine y_iload1 (q := 65) C 35 rfl rfl ?_
              refine x_iald (q := 66) C 36 rfl rfl (by first | assumption | rfl | decide | omega | exact bL hB _ (by decide)) (by first | assumption | rfl | decide | omega | exact bL hB _ (by decide)) (by (first | rw [bn24 hB] | rw [bn40 hB] | rw [bn56 hB] | rw [bn72 hB] | rw [bn27 hB] | rw [bn43 hB] | rw [bn25 hB] | rw [bn41 hB] | rw [bn88 hB] | rw [bn104 hB] | rw [bn120 hB] | rw [bn136 hB] | rw [bn152 hB] | rw [bn168 hB]); first | assumption | exact vp_in_nI (by omega) (by decide)) ?_
              rw [nI_clamp (by omega)]
              refine x_isub (q := 67) C 37 rfl rfl ?_
              refine y_aload0 (q := 68) C 38 rfl rfl ?_
              refine x_getR (q := 71) C 39 rfl rfl fl_RX5_26 (bv_6_6 hB) (fun _ _ => rfl) (by first | assumption | rfl | decide | omega | exact bL hB _ (by decide)) (by first | assumption | rfl | decide | omega | exact bL hB _ (by decide)) ?_
              refine y_iload2 (q := 72) C 40 rfl rfl ?_
              refine x_iald (q := 73) C 41 rfl rfl (by first | assumption | rfl | decide | omega | exact bL hB _ (by decide)) (by first | assumption | rfl | decide | omega | exact bL hB _ (by decide)) (by (first | rw [bn24 hB] | rw [bn40 hB] | rw [bn56 hB] | rw [bn72 hB] | rw [bn27 hB] | rw [bn43 hB] | rw [bn25 hB] | rw [bn41 hB] | rw [bn88 hB] | rw [bn104 hB] | rw [bn120 hB] | rw [bn136 hB] | rw [bn152 hB] | rw [bn168 hB]); first | assumption | exact vp_in_nI (by omega) (by decide)) ?_
              rw [nI_clamp (by omega)]
              refine y_aload0 (q := 74) C 42 rfl rfl ?_
              refine x_getR (q := 77) C 43 rfl rfl fl_RX5_26 (bv_6_6 hB) (fun _ _ => rfl) (by first | assumption | rfl | decide | omega | exact bL hB _ (by decide)) (by first | assumption | rfl | decide | omega | exact bL hB _ (by decide)) ?_
              refine y_iload1 (q := 78) C 44 rfl rfl ?_
              refine x_iald (q := 79) C 45 rfl rfl (by first | assumption | rfl | decide | omega | exact bL hB _ (by decide)) (by first | assumption | rfl | decide | omega | exact bL hB _ (by decide)) (by (first | rw [bn24 hB] | rw [bn40 hB] | rw [bn56 hB] | rw [bn72 hB] | rw [bn27 hB] | rw [bn43 hB] | rw [bn25 hB] | rw [bn41 hB] | rw [bn88 hB] | rw [bn104 hB] | rw [bn120 hB] | rw [bn136 hB] | rw [bn152 hB] | rw [bn168 hB]); first | assumption | exact vp_in_nI (by omega) (by decide)) ?_
              rw [nI_clamp (by omega)]
              refine x_isub (q := 80) C 46 rfl rfl ?_
              refine y_aload0 (q := 81) C 47 rfl rfl ?_
              refine x_getR (q := 84) C 48 rfl rfl fl_RX5_23 (bv_6_5 hB) (fun _ _ => rfl) (by first | assumption | rfl | decide | omega | exact bL hB _ (by decide)) (by first | assumption | rfl | decide | omega | exact bL hB _ (by decide)) ?_
              refine y_iload3 (q := 85) C 49 rfl rfl ?_
              refine x_iald (q := 86) C 50 rfl rfl (by first | assumption | rfl | decide | omega | exact bL hB _ (by decide)) (by first | assumption | rfl | decide | omega | exact bL hB _ (by decide)) (by (first | rw [bn24 hB] | rw [bn40 hB] | rw [bn56 hB] | rw [bn72 hB] | rw [bn27 hB] | rw [bn43 hB] | rw [bn25 hB] | rw [bn41 hB] | rw [bn88 hB] | rw [bn104 hB] | rw [bn120 hB] | rw [bn136 hB] | rw [bn152 hB] | rw [bn168 hB]); first | assumption | exact vp_in_nI (by omega) (by decide)) ?_
              rw [nI_clamp (by omega)]
              refine y_aload0 (q := 87) C 51 rfl rfl ?_
              refine x_getR (q := 90) C 52 rfl rfl fl_RX5_23 (bv_6_5 hB) (fun _ _ => rfl) (by first | assumption | rfl | decide | omega | exact bL hB _ (by decide)) (by first | assumption | rfl | decide | omega | exact bL hB _ (by decide)) ?_
              refine y_iload1 (q := 91) C 53 rfl rfl ?_
              refine x_iald (q := 92) C 54 rfl rfl (by first | assumption | rfl | decide | omega | exact bL hB _ (by decide)) (by first | assumption | rfl | decide | omega | exact bL hB _ (by decide)) (by (first | rw [bn24 hB] | rw [bn40 hB] | rw [bn56 hB] | rw [bn72 hB] | rw [bn27 hB] | rw [bn43 hB] | rw [bn25 hB] | rw [bn41 hB] | rw [bn88 hB] | rw [bn104 hB] | rw [bn120 hB] | rw [bn136 hB] | rw [bn152 hB] | rw [bn168 hB]); first | assumption | exact vp_in_nI (by omega) (by decide)) ?_
              rw [nI_clamp (by omega)]
              refine x_isub (q := 93) C 55 rfl rfl ?_
              refine y_aload0 (q := 94) C 56 rfl rfl ?_
              refine x_getR (q := 97) C 57 rfl rfl fl_RX5_26 (bv_6_6 hB) (fun _ _ => rfl) (by first | assumption | rfl | decide | omega | exact bL hB _ (by decide)) (by first | assumption | rfl | decide | omega | exact bL hB _ (by decide)) ?_
              refine y_iload3 (q := 98) C 58 rfl rfl ?_
              refine x_iald (q := 99) C 59 rfl rfl (by first | assumption | rfl | decide | omega | exact bL hB _ (by decide)) (by first | assumption | rfl | decide | omega | exact bL hB _ (by decide)) (by (first | rw [bn24 hB] | rw [bn40 hB] | rw [bn56 hB] | rw [bn72 hB] | rw [bn27 hB] | rw [bn43 hB] | rw [bn25 hB] | rw [bn41 hB] | rw [bn88 hB] | rw [bn104 hB] | rw [bn120 hB] | rw [bn136 hB] | rw [bn152 hB] | rw [bn168 hB]); first | assumption | exact vp_in_nI (by omega) (by decide)) ?_
              rw [nI_clamp (by omega)]
              refine y_aload0 (q := 100) C 60 rfl rfl ?_
              refine x_getR (q := 103) C 61 rfl rfl fl_RX5_26 (bv_6_6 hB) (fun _ _ => rfl) (by first | assumption | rfl | decide | omega | exact bL hB _ (by decide)) (by first | assumption | rfl | decide | omega | exact bL hB _ (by decide)) ?_
              refine y_iload1 (q := 104) C 62 rfl rfl ?_
              refine x_iald (q := 105) C 63 rfl rfl (by first | assumption | rfl | decide | omega | exact bL hB _ (by decide)) (by first | assumption | rfl | decide | omega | exact bL hB _ (by decide)) (by (first | rw [bn24 hB] | rw [bn40 hB] | rw [bn56 hB] | rw [bn72 hB] | rw [bn27 hB] | rw [bn43 hB] | rw [bn25 hB] | rw [bn41 hB] | rw [bn88 hB] | rw [bn104 hB] | rw [bn120 hB] | rw [bn136 hB] | rw [bn152 hB] | rw [bn168 hB]); first | assumption | exact vp_in_nI (by omega) (by decide)) ?_
              rw [nI_clamp (by omega)]
              refine x_isub (q := 106) C 64 rfl rfl ?_
              refine y_cS4 (q := 109) C 65 rfl rfl ml_RX5_199 cd_X5_wayOrder sv_X5_wayOrder (by decide) (by decide) (Nat.le_of_ble_eq_true rfl) (s_X5_wayOrder ?_)
              show aj_X G 109 _ _ _ _ _ _ _ _ _
              exact x_ireturn C Z 66 rfl rfl rfl (hK _ _ _ hR0 (by rw [cd1_t (all3_t (kV.okt hn he hj) (kV.okt hn he hk) (kV.okt hn he hi))]; exact hT) (fun _ => by rw [kV.bo hR0 hn he0 hj hk hi (fun w => absurd (congrArg nI w) (by assumption)) (fun w => absurd (congrArg nI w) (by assumption))]))
            · skip
              refine x_bipush (q := 51) C 27 (n := (-9)) (v := (-9)) rfl rfl rfl ?_
              refine x_goto (t := 109) C 28 rfl (by decide) ?_
              exact x_ireturn C Z 66 rfl rfl rfl (hK _ _ _ hR0 (by rw [cd1_t (all3_t (kV.okt hn he hj) (kV.okt hn he hk) (kV.okt hn he hi))]; exact hT) (fun _ => (anBO_n (by omega) (by omega) (by omega) (Or.inr ((nI_eq (by omega) (by omega)).mp (by assumption)))).symm))
        · skip
          exact absurd c6 (by decide)
      · skip
        refine x_iconst (q := 26) C 13 (n := (1)) (v := (1)) rfl rfl rfl ?_
        refine x_goto (t := 30) C 14 rfl (by decide) ?_
        refine x_iconst (q := 31) C 16 (n := (1)) (v := (1)) rfl rfl rfl ?_
        refine y_cV2 (q := 34) C 17 rfl rfl ml_RX5_135 cd_X5_start cv_X5_start ⟨by decide, rfl⟩ (by first | assumption | rfl | decide | omega | exact bL hB _ (by decide)) (by decide) (by decide) (Nat.le_of_ble_eq_true rfl) (s_X5_start (b := true) (by decide) hB ?_)
        show aj_X G 34 _ _ _ _ _ _ _ _ _
        refine x_if_eqB (q := 37) (t := 39) C 18 rfl (by decide) rfl (fun c9 => ?_) (fun c9 => ?_)
        · skip
          exact absurd c9 (by decide)
        · skip
          refine x_iconst (q := 38) C 19 (n := (0)) (v := (0)) rfl rfl rfl ?_
          exact x_ireturn C Z 20 rfl rfl rfl (hK _ _ _ (mR.th hM) (by rw [cd1_f (all3_f (Or.inr (Or.inr (kV.okf hn he (by assumption)))))]; exact tH_t rfl) (cd1_n (all3_f (Or.inr (Or.inr (kV.okf hn he (by assumption)))))))
set_option maxRecDepth 100000 in
set_option maxHeartbeats 800000 in
theorem s_X5_centre {l : Launch} {I : Nat → Nat → Int32} {J : Nat → Nat → Int64} {V : Nat → Nat → Option Nat} {N : Nat → Nat} {L : List Nat} {K : aj_K} {x y : Int32} (hM : mI I) (hB : bV V N L) (hK : ∀ (r : Int32) I1 J1, mQ I J I1 J1 (nxCe x y (kV I)) → I1 22 0 = cd1 (vAt x y) → (cd1 (vAt x y) = 0 → r = anCe x y (kV I)) → K (.inl (some (.int r))) I1 J1 V N L) : aj_M l yX5_centre (aj_wc yX5_centre cX5_centre 4 (some .int)) (aj_rm 2 0 0) [] [.ref 22, .int x, .int y] I J V N L K := by
  refine aj_intro (tbl := t_X5_centre) (lv0 := [some (.ref 22), some (.int x), some (.int y), none]) (by decide) T_X5_centre aj_f0 (Nat.le_of_ble_eq_true rfl) rfl ?_
  intro G hl C Z NX hnm hGL hGF
  have C : aj_C G cX5_centre t_X5_centre RX5 (aj_rm 2 0 0) 4 := C
  refine y_aload0 (q := 1) C 0 rfl rfl ?_
  refine y_iload1 (q := 2) C 1 rfl rfl ?_
  refine y_iload2 (q := 3) C 2 rfl rfl ?_
  refine y_cS2 (q := 6) C 3 rfl rfl ml_RX5_179 cd_X5_isNoAt sv_X5_isNoAt (by decide) (by decide) (Nat.le_of_ble_eq_true rfl) (s_X5_isNoAt ?_)
  show aj_X G 6 _ _ _ _ _ _ _ _ _
  refine x_iconst (q := 7) C 4 (n := (1)) (v := (1)) rfl rfl rfl ?_
  refine y_cV2 (q := 10) C 5 rfl rfl ml_RX5_135 cd_X5_start cv_X5_start ⟨by decide, rfl⟩ (by first | assumption | rfl | decide | omega | exact bL hB _ (by decide)) (by decide) (by decide) (Nat.le_of_ble_eq_true rfl) (s_X5_start (by first | assumption | rfl | decide | omega | exact bL hB _ (by decide)) (by first | assumption | rfl | decide | omega | exact bL hB _ (by decide)) ?_)
  show aj_X G 10 _ _ _ _ _ _ _ _ _
  refine x_if_eqB (q := 13) (t := 15) C 6 rfl (by decide) rfl (fun c1 => ?_) (fun c1 => ?_)
  · skip
    rw [show (!(pIn x (-64) 63 && pIn y (-64) 63)) = false by assumption, tH_f]
    have hR0 : mR I J (aj_u I 22 0 0) J := mR.t hM
    have hT : aj_u I 22 0 0 22 0 = 0 := aj_u_s _ _ _ _
    generalize aj_u I 22 0 0 = I0 at hR0 hT ⊢
    obtain ⟨hx, hy⟩ := nAt (show (!(pIn x (-64) 63 && pIn y (-64) 63)) = false by assumption)
    refine y_aload0 (q := 16) C 9 rfl rfl ?_
    refine x_getI (q := 19) C 10 rfl rfl fl_RX5_185 (fun _ _ => rfl) (by first | assumption | rfl | decide | omega | exact bL hB _ (by decide)) (by first | assumption | rfl | decide | omega | exact bL hB _ (by decide)) ?_
    refine y_iload1 (q := 20) C 11 rfl rfl ?_
    refine x_icmp_ne (q := 23) (t := 31) C 12 rfl (by decide) rfl (fun c2 => ?_) (fun c2 => ?_)
    · skip
      refine x_iconst (q := 32) C 17 (n := (1)) (v := (1)) rfl rfl rfl ?_
      refine x_goto (t := 36) C 18 rfl (by decide) ?_
      refine y_cS1 (q := 39) C 20 rfl rfl ml_RX5_47 cd_X5_one sv_X5_one (by decide) (by decide) (Nat.le_of_ble_eq_true rfl) (s_X5_one ?_)
      show aj_X G 39 _ _ _ _ _ _ _ _ _
      refine y_istore3 (q := 40) C 21 rfl rfl (Nat.le_of_ble_eq_true rfl) rfl ?_
      refine y_aload0 (q := 41) C 22 rfl rfl ?_
      refine y_iload1 (q := 42) C 23 rfl rfl ?_
      refine x_putI (q := 45) C 24 rfl rfl fl_RX5_185 rfl rfl (by first | assumption | rfl | decide | omega | exact bL hB _ (by decide)) (by first | assumption | rfl | decide | omega | exact bL hB _ (by decide)) ?_
      refine y_aload0 (q := 46) C 25 rfl rfl ?_
      refine y_iload2 (q := 47) C 26 rfl rfl ?_
      refine x_putI (q := 50) C 27 rfl rfl fl_RX5_188 rfl rfl (by first | assumption | rfl | decide | omega | exact bL hB _ (by decide)) (by first | assumption | rfl | decide | omega | exact bL hB _ (by decide)) ?_
      refine y_aload0 (q := 51) C 28 rfl rfl ?_
      refine x_getR (q := 54) C 29 rfl rfl fl_RX5_29 (bv_6_10 hB) (fun _ _ => rfl) (by first | assumption | rfl | decide | omega | exact bL hB _ (by decide)) (by first | assumption | rfl | decide | omega | exact bL hB _ (by decide)) ?_
      refine x_iconst (q := 55) C 30 (n := (1)) (v := nI 1) rfl rfl rfl ?_
      refine x_dup2 (q := 56) C 31 rfl rfl ?_
      refine x_iald (q := 57) C 32 rfl rfl (by first | assumption | rfl | decide | omega | exact bL hB _ (by decide)) (by first | assumption | rfl | decide | omega | exact bL hB _ (by decide)) (by (first | rw [bn24 hB] | rw [bn40 hB] | rw [bn56 hB] | rw [bn72 hB] | rw [bn27 hB] | rw [bn43 hB] | rw [bn25 hB] | rw [bn41 hB] | rw [bn88 hB] | rw [bn104 hB] | rw [bn120 hB] | rw [bn136 hB] | rw [bn152 hB] | rw [bn168 hB]); first | assumption | exact vp_in_nI (by omega) (by decide)) ?_
      rw [nI_clamp (by omega)]
      refine x_iconst (q := 58) C 33 (n := (1)) (v := (1)) rfl rfl rfl ?_
      refine x_iadd (q := 59) C 34 rfl rfl ?_
      refine x_iast (q := 60) C 35 rfl rfl (by first | assumption | rfl | decide | omega | exact bL hB _ (by decide)) (by first | assumption | rfl | decide | omega | exact bL hB _ (by decide)) (by (first | rw [bn24 hB] | rw [bn40 hB] | rw [bn56 hB] | rw [bn72 hB] | rw [bn27 hB] | rw [bn43 hB] | rw [bn25 hB] | rw [bn41 hB] | rw [bn88 hB] | rw [bn104 hB] | rw [bn120 hB] | rw [bn136 hB] | rw [bn152 hB] | rw [bn168 hB]); first | assumption | exact vp_in_nI (by omega) (by decide)) ?_
      rw [nI_clamp (by omega)]
      refine y_iload3 (q := 61) C 36 rfl rfl ?_
      exact x_ireturn C Z 37 rfl rfl rfl (hK _ _ _ (mQ.ce hR0 hx hy) (by rw [cd1_t (vAt_p hx hy)]; simpa [aj_u] using hT) (fun _ => by rw [← hR0.2.2.1]; show _ = bI (!(decide (I0 22 8 = x) && decide (I0 22 9 = y))); rw [show decide (I0 22 8 = x) = false from decide_eq_false (by assumption)]; rfl))
    · skip
      refine y_aload0 (q := 24) C 13 rfl rfl ?_
      refine x_getI (q := 27) C 14 rfl rfl fl_RX5_188 (fun _ _ => rfl) (by first | assumption | rfl | decide | omega | exact bL hB _ (by decide)) (by first | assumption | rfl | decide | omega | exact bL hB _ (by decide)) ?_
      refine y_iload2 (q := 28) C 15 rfl rfl ?_
      refine x_icmp_eq (q := 31) (t := 35) C 16 rfl (by decide) rfl (fun c3 => ?_) (fun c3 => ?_)
      · skip
        refine x_iconst (q := 36) C 19 (n := (0)) (v := (0)) rfl rfl rfl ?_
        refine y_cS1 (q := 39) C 20 rfl rfl ml_RX5_47 cd_X5_one sv_X5_one (by decide) (by decide) (Nat.le_of_ble_eq_true rfl) (s_X5_one ?_)
        show aj_X G 39 _ _ _ _ _ _ _ _ _
        refine y_istore3 (q := 40) C 21 rfl rfl (Nat.le_of_ble_eq_true rfl) rfl ?_
        refine y_aload0 (q := 41) C 22 rfl rfl ?_
        refine y_iload1 (q := 42) C 23 rfl rfl ?_
        refine x_putI (q := 45) C 24 rfl rfl fl_RX5_185 rfl rfl (by first | assumption | rfl | decide | omega | exact bL hB _ (by decide)) (by first | assumption | rfl | decide | omega | exact bL hB _ (by decide)) ?_
        refine y_aload0 (q := 46) C 25 rfl rfl ?_
        refine y_iload2 (q := 47) C 26 rfl rfl ?_
        refine x_putI (q := 50) C 27 rfl rfl fl_RX5_188 rfl rfl (by first | assumption | rfl | decide | omega | exact bL hB _ (by decide)) (by first | assumption | rfl | decide | omega | exact bL hB _ (by decide)) ?_
        refine y_aload0 (q := 51) C 28 rfl rfl ?_
        refine x_getR (q := 54) C 29 rfl rfl fl_RX5_29 (bv_6_10 hB) (fun _ _ => rfl) (by first | assumption | rfl | decide | omega | exact bL hB _ (by decide)) (by first | assumption | rfl | decide | omega | exact bL hB _ (by decide)) ?_
        refine x_iconst (q := 55) C 30 (n := (1)) (v := nI 1) rfl rfl rfl ?_
        refine x_dup2 (q := 56) C 31 rfl rfl ?_
        refine x_iald (q := 57) C 32 rfl rfl (by first | assumption | rfl | decide | omega | exact bL hB _ (by decide)) (by first | assumption | rfl | decide | omega | exact bL hB _ (by decide)) (by (first | rw [bn24 hB] | rw [bn40 hB] | rw [bn56 hB] | rw [bn72 hB] | rw [bn27 hB] | rw [bn43 hB] | rw [bn25 hB] | rw [bn41 hB] | rw [bn88 hB] | rw [bn104 hB] | rw [bn120 hB] | rw [bn136 hB] | rw [bn152 hB] | rw [bn168 hB]); first | assumption | exact vp_in_nI (by omega) (by decide)) ?_
        rw [nI_clamp (by omega)]
        refine x_iconst (q := 58) C 33 (n := (1)) (v := (1)) rfl rfl rfl ?_
        refine x_iadd (q := 59) C 34 rfl rfl ?_
        refine x_iast (q := 60) C 35 rfl rfl (by first | assumption | rfl | decide | omega | exact bL hB _ (by decide)) (by first | assumption | rfl | decide | omega | exact bL hB _ (by decide)) (by (first | rw [bn24 hB] | rw [bn40 hB] | rw [bn56 hB] | rw [bn72 hB] | rw [bn27 hB] | rw [bn43 hB] | rw [bn25 hB] | rw [bn41 hB] | rw [bn88 hB] | rw [bn104 hB] | rw [bn120 hB] | rw [bn136 hB] | rw [bn152 hB] | rw [bn168 hB]); first | assumption | exact vp_in_nI (by omega) (by decide)) ?_
        rw [nI_clamp (by omega)]
        refine y_iload3 (q := 61) C 36 rfl rfl ?_
        exact x_ireturn C Z 37 rfl rfl rfl (hK _ _ _ (mQ.ce hR0 hx hy) (by rw [cd1_t (vAt_p hx hy)]; simpa [aj_u] using hT) (fun _ => by rw [← hR0.2.2.1]; show _ = bI (!(decide (I0 22 8 = x) && decide (I0 22 9 = y))); rw [show decide (I0 22 8 = x) = true from decide_eq_true (by assumption), show decide (I0 22 9 = y) = true from decide_eq_true (by assumption)]; rfl))
      · skip
        refine x_iconst (q := 32) C 17 (n := (1)) (v := (1)) rfl rfl rfl ?_
        refine x_goto (t := 36) C 18 rfl (by decide) ?_
        refine y_cS1 (q := 39) C 20 rfl rfl ml_RX5_47 cd_X5_one sv_X5_one (by decide) (by decide) (Nat.le_of_ble_eq_true rfl) (s_X5_one ?_)
        show aj_X G 39 _ _ _ _ _ _ _ _ _
        refine y_istore3 (q := 40) C 21 rfl rfl (Nat.le_of_ble_eq_true rfl) rfl ?_
        refine y_aload0 (q := 41) C 22 rfl rfl ?_
        refine y_iload1 (q := 42) C 23 rfl rfl ?_
        refine x_putI (q := 45) C 24 rfl rfl fl_RX5_185 rfl rfl (by first | assumption | rfl | decide | omega | exact bL hB _ (by decide)) (by first | assumption | rfl | decide | omega | exact bL hB _ (by decide)) ?_
        refine y_aload0 (q := 46) C 25 rfl rfl ?_
        refine y_iload2 (q := 47) C 26 rfl rfl ?_
        refine x_putI (q := 50) C 27 rfl rfl fl_RX5_188 rfl rfl (by first | assumption | rfl | decide | omega | exact bL hB _ (by decide)) (by first | assumption | rfl | decide | omega | exact bL hB _ (by decide)) ?_
        refine y_aload0 (q := 51) C 28 rfl rfl ?_
        refine x_getR (q := 54) C 29 rfl rfl fl_RX5_29 (bv_6_10 hB) (fun _ _ => rfl) (by first | assumption | rfl | decide | omega | exact bL hB _ (by decide)) (by first | assumption | rfl | decide | omega | exact bL hB _ (by decide)) ?_
        refine x_iconst (q := 55) C 30 (n := (1)) (v := nI 1) rfl rfl rfl ?_
        refine x_dup2 (q := 56) C 31 rfl rfl ?_
        refine x_iald (q := 57) C 32 rfl rfl (by first | assumption | rfl | decide | omega | exact bL hB _ (by decide)) (by first | assumption | rfl | decide | omega | exact bL hB _ (by decide)) (by (first | rw [bn24 hB] | rw [bn40 hB] | rw [bn56 hB] | rw [bn72 hB] | rw [bn27 hB] | rw [bn43 hB] | rw [bn25 hB] | rw [bn41 hB] | rw [bn88 hB] | rw [bn104 hB] | rw [bn120 hB] | rw [bn136 hB] | rw [bn152 hB] | rw [bn168 hB]); first | assumption | exact vp_in_nI (by omega) (by decide)) ?_
        rw [nI_clamp (by omega)]
        refine x_iconst (q := 58) C 33 (n := (1)) (v := (1)) rfl rfl rfl ?_
        refine x_iadd (q := 59) C 34 rfl rfl ?_
        refine x_iast (q := 60) C 35 rfl rfl (by first | assumption | rfl | decide | omega | exact bL hB _ (by decide)) (by first | assumption | rfl | decide | omega | exact bL hB _ (by decide)) (by (first | rw [bn24 hB] | rw [bn40 hB] | rw [bn56 hB] | rw [bn72 hB] | rw [bn27 hB] | rw [bn43 hB] | rw [bn25 hB] | rw [bn41 hB] | rw [bn88 hB] | rw [bn104 hB] | rw [bn120 hB] | rw [bn136 hB] | rw [bn152 hB] | rw [bn168 hB]); first | assumption | exact vp_in_nI (by omega) (by decide)) ?_
        rw [nI_clamp (by omega)]
        refine y_iload3 (q := 61) C 36 rfl rfl ?_
        exact x_ireturn C Z 37 rfl rfl rfl (hK _ _ _ (mQ.ce hR0 hx hy) (by rw [cd1_t (vAt_p hx hy)]; simpa [aj_u] using hT) (fun _ => by rw [← hR0.2.2.1]; show _ = bI (!(decide (I0 22 8 = x) && decide (I0 22 9 = y))); rw [show decide (I0 22 8 = x) = true from decide_eq_true (by assumption), show decide (I0 22 9 = y) = false from decide_eq_false (by assumption)]; rfl))
  · skip
    refine x_iconst (q := 14) C 7 (n := (0)) (v := (0)) rfl rfl rfl ?_
    exact x_ireturn C Z 8 rfl rfl rfl (hK _ _ _ (mQ.no (mR.th hM) (nxCe_f (nAtf (by assumption)))) (by rw [cd1_f (nAtf (by assumption))]; exact tH_t (by assumption)) (cd1_n (nAtf (by assumption))))
