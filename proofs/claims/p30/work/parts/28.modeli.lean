set_option maxRecDepth 100000 in
set_option maxHeartbeats 800000 in
theorem s_X5_turnPlaces {l : Launch} {I : Nat → Nat → Int32} {J : Nat → Nat → Int64} {V : Nat → Nat → Option Nat} {N : Nat → Nat} {L : List Nat} {K : aj_K} (hM : mI I) {a : Nat} (ha : a % 16 = 8) (haL : a ∉ L) (hT : ∀ i j, V i j ≠ some a) (hB : bV V N L) (hK : ∀ (r : Int32) I1 t, mQA a I J I1 J (nxTu (kV I)) → K (.inl (some (.int r))) I1 J V (aj_ur N a t) (L ++ [a])) : aj_M l yX5_turnPlaces (aj_wc yX5_turnPlaces cX5_turnPlaces 3 (some .int)) (aj_rm 5 1 12) [a] [.ref 22] I J V N L K := by
  refine aj_intro (tbl := t_X5_turnPlaces) (lv0 := [some (.ref 22), none, none]) (by decide) T_X5_turnPlaces (fun i h => by unfold aj_sp; rw [List.mem_singleton.mp h]; omega) (Nat.le_of_ble_eq_true rfl) rfl ?_
  intro G hl C Z NX hnm hGL hGF
  have C : aj_C G cX5_turnPlaces t_X5_turnPlaces RX5 (aj_rm 5 1 12) 3 := C
  obtain ⟨n, hn, he⟩ := hM.2.1
  have n0 : 22 ≠ a := by omega
  have n1 : 136 ≠ a := fun e => haL (e ▸ bL hB 136 (by decide))
  have n2 : 152 ≠ a := fun e => haL (e ▸ bL hB 152 (by decide))
  have hTT := hT
  refine y_aload0 (q := 1) C 0 rfl rfl ?_
  refine x_iconst (q := 2) C 1 (n := (0)) (v := (0)) rfl rfl rfl ?_
  refine x_putI (q := 5) C 2 rfl rfl fl_RX5_32 rfl rfl (by first | assumption | rfl | decide | omega | exact bL hB _ (by decide)) (by first | assumption | rfl | decide | omega | exact bL hB _ (by decide)) ?_
  have hR0 : mR I J (aj_u I 22 0 0) J := mR.t hM
  have hT : aj_u I 22 0 0 22 0 = 0 := aj_u_s _ _ _ _
  have he0 : aj_u I 22 0 0 22 7 = nI n := (aj_u_k _ _ _ (by decide)).trans he
  generalize aj_u I 22 0 0 = I0 at hR0 hT he0 ⊢
  refine x_iconst (q := 6) C 3 (n := (0)) (v := nI 0) rfl rfl rfl ?_
  refine y_istore1 (q := 7) C 4 rfl rfl (Nat.le_of_ble_eq_true rfl) rfl ?_
  have lp7 : ∀ (m k : Nat) (I3 : Nat → Nat → Int32) (z : Option Value), k + m = n → tuP I0 I3 k → z ≠ some (.ref a) → aj_X G 7 [some (.ref 22), some (.int (nI k)), z] [] I3 J V N L 1 12 := by
    intro m
    induction m with
    | zero =>
      intro k I3 z hk h3 hz
      refine y_iload1 (q := 8) C 5 rfl rfl ?_
      refine y_aload0 (q := 9) C 6 rfl rfl ?_
      refine x_getI (q := 12) C 7 rfl rfl fl_RX5_44 (fun _ _ => rfl) (by first | assumption | rfl | decide | omega | exact bL hB _ (by decide)) (by first | assumption | rfl | decide | omega | exact bL hB _ (by decide)) ?_
      rw [show I3 22 7 = nI n from ((congrFun (h3.1 22 (by decide)) 7).trans he0)]
      refine x_icmp_ge (q := 15) (t := 49) C 8 rfl (by decide) rfl (fun c1 => ?_) (fun c1 => ?_)
      · skip
        refine y_aload0 (q := 50) C 31 rfl rfl ?_
        refine x_getI (q := 53) C 32 rfl rfl fl_RX5_185 (fun _ _ => rfl) (by first | assumption | rfl | decide | omega | exact bL hB _ (by decide)) (by first | assumption | rfl | decide | omega | exact bL hB _ (by decide)) ?_
        refine y_istore1 (q := 54) C 33 rfl rfl (Nat.le_of_ble_eq_true rfl) rfl ?_
        refine y_aload0 (q := 55) C 34 rfl rfl ?_
        refine x_iconst (q := 56) C 35 (n := (-1)) (v := (-1)) rfl rfl rfl ?_
        refine y_aload0 (q := 57) C 36 rfl rfl ?_
        refine x_getI (q := 60) C 37 rfl rfl fl_RX5_188 (fun _ _ => rfl) (by first | assumption | rfl | decide | omega | exact bL hB _ (by decide)) (by first | assumption | rfl | decide | omega | exact bL hB _ (by decide)) ?_
        refine x_isub (q := 61) C 38 rfl rfl ?_
        refine x_putI (q := 64) C 39 rfl rfl fl_RX5_185 rfl rfl (by first | assumption | rfl | decide | omega | exact bL hB _ (by decide)) (by first | assumption | rfl | decide | omega | exact bL hB _ (by decide)) ?_
        refine y_aload0 (q := 65) C 40 rfl rfl ?_
        refine y_iload1 (q := 66) C 41 rfl rfl ?_
        refine x_putI (q := 69) C 42 rfl rfl fl_RX5_188 rfl rfl (by first | assumption | rfl | decide | omega | exact bL hB _ (by decide)) (by first | assumption | rfl | decide | omega | exact bL hB _ (by decide)) ?_
        refine y_aload0 (q := 70) C 43 rfl rfl ?_
        refine x_getR (q := 73) C 44 rfl rfl fl_RX5_29 (bv_6_10 hB) (fun _ _ => rfl) (by first | assumption | rfl | decide | omega | exact bL hB _ (by decide)) (by first | assumption | rfl | decide | omega | exact bL hB _ (by decide)) ?_
        refine x_iconst (q := 74) C 45 (n := (1)) (v := nI 1) rfl rfl rfl ?_
        refine x_dup2 (q := 75) C 46 rfl rfl ?_
        refine x_iald (q := 76) C 47 rfl rfl (by first | assumption | rfl | decide | omega | exact bL hB _ (by decide)) (by first | assumption | rfl | decide | omega | exact bL hB _ (by decide)) (by (first | rw [bn24 hB] | rw [bn40 hB] | rw [bn56 hB] | rw [bn72 hB] | rw [bn27 hB] | rw [bn43 hB] | rw [bn25 hB] | rw [bn41 hB] | rw [bn88 hB] | rw [bn104 hB] | rw [bn120 hB] | rw [bn136 hB] | rw [bn152 hB] | rw [bn168 hB]); first | assumption | exact vp_in_nI (by omega) (by decide)) ?_
        rw [nI_clamp (by omega)]
        refine x_iconst (q := 77) C 48 (n := (1)) (v := (1)) rfl rfl rfl ?_
        refine x_iadd (q := 78) C 49 rfl rfl ?_
        refine x_iast (q := 79) C 50 rfl rfl (by first | assumption | rfl | decide | omega | exact bL hB _ (by decide)) (by first | assumption | rfl | decide | omega | exact bL hB _ (by decide)) (by (first | rw [bn24 hB] | rw [bn40 hB] | rw [bn56 hB] | rw [bn72 hB] | rw [bn27 hB] | rw [bn43 hB] | rw [bn25 hB] | rw [bn41 hB] | rw [bn88 hB] | rw [bn104 hB] | rw [bn120 hB] | rw [bn136 hB] | rw [bn152 hB] | rw [bn168 hB]); first | assumption | exact vp_in_nI (by omega) (by decide)) ?_
        rw [nI_clamp (by omega)]
        refine y_aload0 (q := 80) C 51 rfl rfl ?_
        refine y_aload0 (q := 81) C 52 rfl rfl ?_
        have hno := aj_no3 (x := I3 22 8) n0 hz
        refine y_fV0 (q := 84) C 53 rfl rfl ml_RX5_191 cd_X5_corners cv_X5_corners ⟨by decide, rfl⟩ (by first | assumption | rfl | decide | omega | exact bL hB _ (by decide)) (by decide) (by decide) (Nat.le_of_ble_eq_true rfl) (bc' := 0) (bs' := 0) rfl rfl (by rw [hGF]; exact fun i h => h) (fun i h => by rw [List.mem_singleton.mp h]; exact hno) (s_X5_corners (n := n) hn (by exact ((congrFun (h3.1 22 (by decide)) 7).trans he0)) ha haL hTT hB ?_)
        intro I1 t ht h1 hv
        have haL1 : a ∈ L ++ [a] := List.mem_append_right _ List.mem_cons_self
        have hRA := mQA.of hB haL (mQ.tu hR0 hn he0 (by have e : k = n := (by omega); subst e; exact h3)) h1
        have hB := bV.new (t := t) hB haL
        have hN : aj_ur N a t a = t := aj_ur_s _ _ _
        show aj_X G 84 _ _ _ _ _ _ _ _ _
        refine y_cV1 (q := 87) C 54 rfl rfl ml_RX5_195 cd_X5_area cv_X5_area ⟨by decide, rfl⟩ (by first | assumption | rfl | decide | omega | exact bL hB _ (by decide)) (by decide) (by decide) (Nat.le_of_ble_eq_true rfl) (s_X5_area ha haL1 ht hN hv hB ?_)
        intro r
        show aj_X G 87 _ _ _ _ _ _ _ _ _
        exact x_ireturn C Z 55 rfl rfl rfl (hK _ _ _ hRA)
      · skip
        exact absurd (nI_le (by omega) (by omega)) c1
    | succ m ih =>
      intro k I3 z hk h3 hz
      refine y_iload1 (q := 8) C 5 rfl rfl ?_
      refine y_aload0 (q := 9) C 6 rfl rfl ?_
      refine x_getI (q := 12) C 7 rfl rfl fl_RX5_44 (fun _ _ => rfl) (by first | assumption | rfl | decide | omega | exact bL hB _ (by decide)) (by first | assumption | rfl | decide | omega | exact bL hB _ (by decide)) ?_
      rw [show I3 22 7 = nI n from ((congrFun (h3.1 22 (by decide)) 7).trans he0)]
      refine x_icmp_ge (q := 15) (t := 49) C 8 rfl (by decide) rfl (fun c2 => ?_) (fun c2 => ?_)
      · skip
        exact absurd c2 (nI_ge (by omega) (by omega))
      · skip
        refine y_aload0 (q := 16) C 9 rfl rfl ?_
        refine x_getR (q := 19) C 10 rfl rfl fl_RX5_23 (bv_6_5 hB) (fun _ _ => rfl) (by first | assumption | rfl | decide | omega | exact bL hB _ (by decide)) (by first | assumption | rfl | decide | omega | exact bL hB _ (by decide)) ?_
        refine y_iload1 (q := 20) C 11 rfl rfl ?_
        refine x_iald (q := 21) C 12 rfl rfl (by first | assumption | rfl | decide | omega | exact bL hB _ (by decide)) (by first | assumption | rfl | decide | omega | exact bL hB _ (by decide)) (by (first | rw [bn24 hB] | rw [bn40 hB] | rw [bn56 hB] | rw [bn72 hB] | rw [bn27 hB] | rw [bn43 hB] | rw [bn25 hB] | rw [bn41 hB] | rw [bn88 hB] | rw [bn104 hB] | rw [bn120 hB] | rw [bn136 hB] | rw [bn152 hB] | rw [bn168 hB]); first | assumption | exact vp_in_nI (by omega) (by decide)) ?_
        rw [nI_clamp (by omega)]
        refine y_istore2 (q := 22) C 13 rfl rfl (Nat.le_of_ble_eq_true rfl) rfl ?_
        refine y_aload0 (q := 23) C 14 rfl rfl ?_
        refine x_getR (q := 26) C 15 rfl rfl fl_RX5_23 (bv_6_5 hB) (fun _ _ => rfl) (by first | assumption | rfl | decide | omega | exact bL hB _ (by decide)) (by first | assumption | rfl | decide | omega | exact bL hB _ (by decide)) ?_
        refine y_iload1 (q := 27) C 16 rfl rfl ?_
        refine x_iconst (q := 28) C 17 (n := (-1)) (v := (-1)) rfl rfl rfl ?_
        refine y_aload0 (q := 29) C 18 rfl rfl ?_
        refine x_getR (q := 32) C 19 rfl rfl fl_RX5_26 (bv_6_6 hB) (fun _ _ => rfl) (by first | assumption | rfl | decide | omega | exact bL hB _ (by decide)) (by first | assumption | rfl | decide | omega | exact bL hB _ (by decide)) ?_
        refine y_iload1 (q := 33) C 20 rfl rfl ?_
        refine x_iald (q := 34) C 21 rfl rfl (by first | assumption | rfl | decide | omega | exact bL hB _ (by decide)) (by first | assumption | rfl | decide | omega | exact bL hB _ (by decide)) (by (first | rw [bn24 hB] | rw [bn40 hB] | rw [bn56 hB] | rw [bn72 hB] | rw [bn27 hB] | rw [bn43 hB] | rw [bn25 hB] | rw [bn41 hB] | rw [bn88 hB] | rw [bn104 hB] | rw [bn120 hB] | rw [bn136 hB] | rw [bn152 hB] | rw [bn168 hB]); first | assumption | exact vp_in_nI (by omega) (by decide)) ?_
        rw [nI_clamp (by omega)]
        refine x_isub (q := 35) C 22 rfl rfl ?_
        refine x_iast (q := 36) C 23 rfl rfl (by first | assumption | rfl | decide | omega | exact bL hB _ (by decide)) (by first | assumption | rfl | decide | omega | exact bL hB _ (by decide)) (by (first | rw [bn24 hB] | rw [bn40 hB] | rw [bn56 hB] | rw [bn72 hB] | rw [bn27 hB] | rw [bn43 hB] | rw [bn25 hB] | rw [bn41 hB] | rw [bn88 hB] | rw [bn104 hB] | rw [bn120 hB] | rw [bn136 hB] | rw [bn152 hB] | rw [bn168 hB]); first | assumption | exact vp_in_nI (by omega) (by decide)) ?_
        rw [nI_clamp (by omega)]
        refine y_aload0 (q := 37) C 24 rfl rfl ?_
        refine x_getR (q := 40) C 25 rfl rfl fl_RX5_26 (bv_6_6 hB) (fun _ _ => rfl) (by first | assumption | rfl | decide | omega | exact bL hB _ (by decide)) (by first | assumption | rfl | decide | omega | exact bL hB _ (by decide)) ?_
        refine y_iload1 (q := 41) C 26 rfl rfl ?_
        refine y_iload2 (q := 42) C 27 rfl rfl ?_
        refine x_iast (q := 43) C 28 rfl rfl (by first | assumption | rfl | decide | omega | exact bL hB _ (by decide)) (by first | assumption | rfl | decide | omega | exact bL hB _ (by decide)) (by (first | rw [bn24 hB] | rw [bn40 hB] | rw [bn56 hB] | rw [bn72 hB] | rw [bn27 hB] | rw [bn43 hB] | rw [bn25 hB] | rw [bn41 hB] | rw [bn88 hB] | rw [bn104 hB] | rw [bn120 hB] | rw [bn136 hB] | rw [bn152 hB] | rw [bn168 hB]); first | assumption | exact vp_in_nI (by omega) (by decide)) ?_
        rw [nI_clamp (by omega)]
        refine y_iinc1 (q := 46) C 29 rfl rfl (nI_1 k) (Nat.le_of_ble_eq_true rfl) rfl ?_
        refine x_goto (t := 7) C 30 rfl (by decide) ?_
        exact ih (k + 1) _ _ (by omega) (h3.up (by omega)) (fun e => by injection e with e; cases e)
  exact lp7 n 0 I0 _ (by omega) (tuP.st hR0.2.1) (fun e => by cases e)
set_option maxRecDepth 100000 in
set_option maxHeartbeats 800000 in
theorem s_X5_mirrorPlaces {l : Launch} {I : Nat → Nat → Int32} {J : Nat → Nat → Int64} {V : Nat → Nat → Option Nat} {N : Nat → Nat} {L : List Nat} {K : aj_K} (hM : mI I) {a : Nat} (ha : a % 16 = 8) (haL : a ∉ L) (hT : ∀ i j, V i j ≠ some a) (hB : bV V N L) (hK : ∀ (r : Int32) I1 t, mQA a I J I1 J (nxMi (kV I)) → K (.inl (some (.int r))) I1 J V (aj_ur N a t) (L ++ [a])) : aj_M l yX5_mirrorPlaces (aj_wc yX5_mirrorPlaces cX5_mirrorPlaces 2 (some .int)) (aj_rm 5 1 12) [a] [.ref 22] I J V N L K := by
  refine aj_intro (tbl := t_X5_mirrorPlaces) (lv0 := [some (.ref 22), none]) (by decide) T_X5_mirrorPlaces (fun i h => by unfold aj_sp; rw [List.mem_singleton.mp h]; omega) (Nat.le_of_ble_eq_true rfl) rfl ?_
  intro G hl C Z NX hnm hGL hGF
  have C : aj_C G cX5_mirrorPlaces t_X5_mirrorPlaces RX5 (aj_rm 5 1 12) 2 := C
  obtain ⟨n, hn, he⟩ := hM.2.1
  have n0 : 22 ≠ a := by omega
  have n1 : 136 ≠ a := fun e => haL (e ▸ bL hB 136 (by decide))
  have n2 : 152 ≠ a := fun e => haL (e ▸ bL hB 152 (by decide))
  have hTT := hT
  refine y_aload0 (q := 1) C 0 rfl rfl ?_
  refine x_iconst (q := 2) C 1 (n := (0)) (v := (0)) rfl rfl rfl ?_
  refine x_putI (q := 5) C 2 rfl rfl fl_RX5_32 rfl rfl (by first | assumption | rfl | decide | omega | exact bL hB _ (by decide)) (by first | assumption | rfl | decide | omega | exact bL hB _ (by decide)) ?_
  have hR0 : mR I J (aj_u I 22 0 0) J := mR.t hM
  have hT : aj_u I 22 0 0 22 0 = 0 := aj_u_s _ _ _ _
  have he0 : aj_u I 22 0 0 22 7 = nI n := (aj_u_k _ _ _ (by decide)).trans he
  generalize aj_u I 22 0 0 = I0 at hR0 hT he0 ⊢
  refine x_iconst (q := 6) C 3 (n := (0)) (v := nI 0) rfl rfl rfl ?_
  refine y_istore1 (q := 7) C 4 rfl rfl (Nat.le_of_ble_eq_true rfl) rfl ?_
  have lp7 : ∀ (m k : Nat) (I3 : Nat → Nat → Int32), k + m = n → miP I0 I3 k → aj_X G 7 [some (.ref 22), some (.int (nI k))] [] I3 J V N L 1 12 := by
    intro m
    induction m with
    | zero =>
      intro k I3 hk h3
      refine y_iload1 (q := 8) C 5 rfl rfl ?_
      refine y_aload0 (q := 9) C 6 rfl rfl ?_
      refine x_getI (q := 12) C 7 rfl rfl fl_RX5_44 (fun _ _ => rfl) (by first | assumption | rfl | decide | omega | exact bL hB _ (by decide)) (by first | assumption | rfl | decide | omega | exact bL hB _ (by decide)) ?_
      rw [show I3 22 7 = nI n from ((congrFun (h3.1 22 (by decide)) 7).trans he0)]
      refine x_icmp_ge (q := 15) (t := 35) C 8 rfl (by decide) rfl (fun c1 => ?_) (fun c1 => ?_)
      · skip
        refine y_aload0 (q := 36) C 21 rfl rfl ?_
        refine x_iconst (q := 37) C 22 (n := (-1)) (v := (-1)) rfl rfl rfl ?_
        refine y_aload0 (q := 38) C 23 rfl rfl ?_
        refine x_getI (q := 41) C 24 rfl rfl fl_RX5_185 (fun _ _ => rfl) (by first | assumption | rfl | decide | omega | exact bL hB _ (by decide)) (by first | assumption | rfl | decide | omega | exact bL hB _ (by decide)) ?_
        refine x_isub (q := 42) C 25 rfl rfl ?_
        refine x_putI (q := 45) C 26 rfl rfl fl_RX5_185 rfl rfl (by first | assumption | rfl | decide | omega | exact bL hB _ (by decide)) (by first | assumption | rfl | decide | omega | exact bL hB _ (by decide)) ?_
        refine y_aload0 (q := 46) C 27 rfl rfl ?_
        refine x_getR (q := 49) C 28 rfl rfl fl_RX5_29 (bv_6_10 hB) (fun _ _ => rfl) (by first | assumption | rfl | decide | omega | exact bL hB _ (by decide)) (by first | assumption | rfl | decide | omega | exact bL hB _ (by decide)) ?_
        refine x_iconst (q := 50) C 29 (n := (1)) (v := nI 1) rfl rfl rfl ?_
        refine x_dup2 (q := 51) C 30 rfl rfl ?_
        refine x_iald (q := 52) C 31 rfl rfl (by first | assumption | rfl | decide | omega | exact bL hB _ (by decide)) (by first | assumption | rfl | decide | omega | exact bL hB _ (by decide)) (by (first | rw [bn24 hB] | rw [bn40 hB] | rw [bn56 hB] | rw [bn72 hB] | rw [bn27 hB] | rw [bn43 hB] | rw [bn25 hB] | rw [bn41 hB] | rw [bn88 hB] | rw [bn104 hB] | rw [bn120 hB] | rw [bn136 hB] | rw [bn152 hB] | rw [bn168 hB]); first | assumption | exact vp_in_nI (by omega) (by decide)) ?_
        rw [nI_clamp (by omega)]
        refine x_iconst (q := 53) C 32 (n := (1)) (v := (1)) rfl rfl rfl ?_
        refine x_iadd (q := 54) C 33 rfl rfl ?_
        refine x_iast (q := 55) C 34 rfl rfl (by first | assumption | rfl | decide | omega | exact bL hB _ (by decide)) (by first | assumption | rfl | decide | omega | exact bL hB _ (by decide)) (by (first | rw [bn24 hB] | rw [bn40 hB] | rw [bn56 hB] | rw [bn72 hB] | rw [bn27 hB] | rw [bn43 hB] | rw [bn25 hB] | rw [bn41 hB] | rw [bn88 hB] | rw [bn104 hB] | rw [bn120 hB] | rw [bn136 hB] | rw [bn152 hB] | rw [bn168 hB]); first | assumption | exact vp_in_nI (by omega) (by decide)) ?_
        rw [nI_clamp (by omega)]
        refine y_aload0 (q := 56) C 35 rfl rfl ?_
        refine y_aload0 (q := 57) C 36 rfl rfl ?_
        have hno : aj_nob a [some (.ref 22), some (.int (nI k))] [.ref 22] = true := by
          have h22 : (22 != a) = true := by rw [bne_iff_ne]; omega
          simp only [aj_nob, aj_nv, List.all_cons, List.all_nil, Bool.and_true, Bool.true_and, h22]
        refine y_fV0 (q := 60) C 37 rfl rfl ml_RX5_191 cd_X5_corners cv_X5_corners ⟨by decide, rfl⟩ (by first | assumption | rfl | decide | omega | exact bL hB _ (by decide)) (by decide) (by decide) (Nat.le_of_ble_eq_true rfl) (bc' := 0) (bs' := 0) rfl rfl (by rw [hGF]; exact fun i h => h) (fun i h => by rw [List.mem_singleton.mp h]; exact aj_no.of hno) (s_X5_corners (n := n) hn (by exact ((congrFun (h3.1 22 (by decide)) 7).trans he0)) ha haL hTT hB ?_)
        intro I1 t ht h1 hv
        have haL1 : a ∈ L ++ [a] := List.mem_append_right _ List.mem_cons_self
        have hRA := mQA.of hB haL (mQ.mi hR0 hn he0 (by have e : k = n := (by omega); subst e; exact h3)) h1
        have hB := bV.new (t := t) hB haL
        have hN : aj_ur N a t a = t := aj_ur_s _ _ _
        show aj_X G 60 _ _ _ _ _ _ _ _ _
        refine y_cV1 (q := 63) C 38 rfl rfl ml_RX5_195 cd_X5_area cv_X5_area ⟨by decide, rfl⟩ (by first | assumption | rfl | decide | omega | exact bL hB _ (by decide)) (by decide) (by decide) (Nat.le_of_ble_eq_true rfl) (s_X5_area ha haL1 ht hN hv hB ?_)
        intro r
        show aj_X G 63 _ _ _ _ _ _ _ _ _
        exact x_ireturn C Z 39 rfl rfl rfl (hK _ _ _ hRA)
      · skip
        exact absurd (nI_le (by omega) (by omega)) c1
    | succ m ih =>
      intro k I3 hk h3
      refine y_iload1 (q := 8) C 5 rfl rfl ?_
      refine y_aload0 (q := 9) C 6 rfl rfl ?_
      refine x_getI (q := 12) C 7 rfl rfl fl_RX5_44 (fun _ _ => rfl) (by first | assumption | rfl | decide | omega | exact bL hB _ (by decide)) (by first | assumption | rfl | decide | omega | exact bL hB _ (by decide)) ?_
      rw [show I3 22 7 = nI n from ((congrFun (h3.1 22 (by decide)) 7).trans he0)]
      refine x_icmp_ge (q := 15) (t := 35) C 8 rfl (by decide) rfl (fun c2 => ?_) (fun c2 => ?_)
      · skip
        exact absurd c2 (nI_ge (by omega) (by omega))
      · skip
        refine y_aload0 (q := 16) C 9 rfl rfl ?_
        refine x_getR (q := 19) C 10 rfl rfl fl_RX5_23 (bv_6_5 hB) (fun _ _ => rfl) (by first | assumption | rfl | decide | omega | exact bL hB _ (by decide)) (by first | assumption | rfl | decide | omega | exact bL hB _ (by decide)) ?_
        refine y_iload1 (q := 20) C 11 rfl rfl ?_
        refine x_iconst (q := 21) C 12 (n := (-1)) (v := (-1)) rfl rfl rfl ?_
        refine y_aload0 (q := 22) C 13 rfl rfl ?_
        refine x_getR (q := 25) C 14 rfl rfl fl_RX5_23 (bv_6_5 hB) (fun _ _ => rfl) (by first | assumption | rfl | decide | omega | exact bL hB _ (by decide)) (by first | assumption | rfl | decide | omega | exact bL hB _ (by decide)) ?_
        refine y_iload1 (q := 26) C 15 rfl rfl ?_
        refine x_iald (q := 27) C 16 rfl rfl (by first | assumption | rfl | decide | omega | exact bL hB _ (by decide)) (by first | assumption | rfl | decide | omega | exact bL hB _ (by decide)) (by (first | rw [bn24 hB] | rw [bn40 hB] | rw [bn56 hB] | rw [bn72 hB] | rw [bn27 hB] | rw [bn43 hB] | rw [bn25 hB] | rw [bn41 hB] | rw [bn88 hB] | rw [bn104 hB] | rw [bn120 hB] | rw [bn136 hB] | rw [bn152 hB] | rw [bn168 hB]); first | assumption | exact vp_in_nI (by omega) (by decide)) ?_
        rw [nI_clamp (by omega)]
        refine x_isub (q := 28) C 17 rfl rfl ?_
        refine x_iast (q := 29) C 18 rfl rfl (by first | assumption | rfl | decide | omega | exact bL hB _ (by decide)) (by first | assumption | rfl | decide | omega | exact bL hB _ (by decide)) (by (first | rw [bn24 hB] | rw [bn40 hB] | rw [bn56 hB] | rw [bn72 hB] | rw [bn27 hB] | rw [bn43 hB] | rw [bn25 hB] | rw [bn41 hB] | rw [bn88 hB] | rw [bn104 hB] | rw [bn120 hB] | rw [bn136 hB] | rw [bn152 hB] | rw [bn168 hB]); first | assumption | exact vp_in_nI (by omega) (by decide)) ?_
        rw [nI_clamp (by omega)]
        refine y_iinc1 (q := 32) C 19 rfl rfl (nI_1 k) (Nat.le_of_ble_eq_true rfl) rfl ?_
        refine x_goto (t := 7) C 20 rfl (by decide) ?_
        exact ih (k + 1) _ (by omega) (h3.up (by omega))
  exact lp7 n 0 I0 (by omega) (miP.st hR0.2.1)
set_option maxRecDepth 100000 in
set_option maxHeartbeats 800000 in
theorem s_X5_addCells {l : Launch} {I : Nat → Nat → Int32} {J : Nat → Nat → Int64} {V : Nat → Nat → Option Nat} {N : Nat → Nat} {L : List Nat} {K : aj_K} {d : Int64} (hM : mI I) (hB : bV V N L) (hK : ∀ r : Int64, K (.inl (some (.long r))) I J V N L) : aj_M l yX5_addCells (aj_wc yX5_addCells cX5_addCells 7 (some .long)) (aj_rm 5 0 0) [] [.ref 22, .long d] I J V N L K := by
  refine aj_intro (tbl := t_X5_addCells) (lv0 := [some (.ref 22), some (.long d), none, none, none, none, none]) (by decide) T_X5_addCells aj_f0 (Nat.le_of_ble_eq_true rfl) rfl ?_
  intro G hl C Z NX hnm hGL hGF
  have C : aj_C G cX5_addCells t_X5_addCells RX5 (aj_rm 5 0 0) 7 := C
  refine y_lload1 (q := 1) C 0 rfl rfl ?_
  refine y_lstore3 (q := 2) C 1 rfl rfl (Nat.le_of_ble_eq_true rfl) rfl ?_
  refine x_iconst (q := 3) C 2 (n := (0)) (v := nI 0) rfl rfl rfl ?_
  refine y_istore5 (q := 5) C 3 rfl rfl (Nat.le_of_ble_eq_true rfl) rfl ?_
  have lp5 : ∀ (mj k : Nat) (v : Int64) (z : Option Value), k + mj = 8 → aj_X G 5 [some (.ref 22), some (.long d), none, some (.long v), none, some (.int (nI k)), z] [] I J V N L 0 0 := by
    intro mj
    induction mj with
    | zero =>
      intro k v z hk
      refine y_iload5 (q := 7) C 4 rfl rfl ?_
      refine x_bipush (q := 9) C 5 (n := (8)) (v := nI 8) rfl rfl rfl ?_
      refine x_icmp_ge (q := 12) (t := 120) C 6 rfl (by decide) rfl (fun c1 => ?_) (fun c1 => ?_)
      · skip
        refine x_iconst (q := 121) C 65 (n := (0)) (v := nI 0) rfl rfl rfl ?_
        refine y_istore5 (q := 123) C 66 rfl rfl (Nat.le_of_ble_eq_true rfl) rfl ?_
        have lp123 : ∀ (mi k : Nat) (v : Int64) (z : Option Value), k + mi = 8 → aj_X G 123 [some (.ref 22), some (.long d), none, some (.long v), none, some (.int (nI k)), z] [] I J V N L 0 0 := by
          intro mi
          induction mi with
          | zero =>
            intro k v z hk
            refine y_iload5 (q := 125) C 67 rfl rfl ?_
            refine x_bipush (q := 127) C 68 (n := (8)) (v := nI 8) rfl rfl rfl ?_
            refine x_icmp_ge (q := 130) (t := 200) C 69 rfl (by decide) rfl (fun c2 => ?_) (fun c2 => ?_)
            · skip
              refine y_lload3 (q := 201) C 106 rfl rfl ?_
              exact x_lreturn C Z 107 rfl rfl (hK _)
            · skip
              exact absurd (nI_le (by omega) (by omega)) c2
          | succ mi ihi =>
            intro k v z hk
            refine y_iload5 (q := 125) C 67 rfl rfl ?_
            refine x_bipush (q := 127) C 68 (n := (8)) (v := nI 8) rfl rfl rfl ?_
            refine x_icmp_ge (q := 130) (t := 200) C 69 rfl (by decide) rfl (fun c3 => ?_) (fun c3 => ?_)
            · skip
              exact absurd c3 (nI_ge (by omega) (by omega))
            · skip
              refine y_iload5 (q := 132) C 70 rfl rfl ?_
              refine x_iconst (q := 133) C 71 (n := (1)) (v := nI 1) rfl rfl rfl ?_
              refine x_iadd (q := 134) C 72 rfl rfl ?_
              rw [nI_add]
              refine y_istore6 (q := 136) C 73 rfl rfl (Nat.le_of_ble_eq_true rfl) rfl ?_
              have lp136 : ∀ (ml l : Nat) (v : Int64), l ≤ 8 → 8 ≤ l + ml → aj_X G 136 [some (.ref 22), some (.long d), none, some (.long v), none, some (.int (nI k)), some (.int (nI l))] [] I J V N L 0 0 := by
                intro ml
                induction ml with
                | zero =>
                  intro l v hl8 hl
                  refine y_iload6 (q := 138) C 74 rfl rfl ?_
                  refine x_bipush (q := 140) C 75 (n := (8)) (v := nI 8) rfl rfl rfl ?_
                  refine x_icmp_ge (q := 143) (t := 194) C 76 rfl (by decide) rfl (fun c4 => ?_) (fun c4 => ?_)
                  · skip
                    refine y_iinc5 (q := 197) C 104 rfl rfl (nI_1 k) (Nat.le_of_ble_eq_true rfl) rfl ?_
                    refine x_goto (t := 123) C 105 rfl (by decide) ?_
                    exact ihi (k + 1) _ _ (by omega)
                  · skip
                    exact absurd (nI_le (by omega) (by omega)) c4
                | succ ml ihl =>
                  intro l v hl8 hl
                  refine y_iload6 (q := 138) C 74 rfl rfl ?_
                  refine x_bipush (q := 140) C 75 (n := (8)) (v := nI 8) rfl rfl rfl ?_
                  refine x_icmp_ge (q := 143) (t := 194) C 76 rfl (by decide) rfl (fun c5 => ?_) (fun c5 => ?_)
                  · skip
                    refine y_iinc5 (q := 197) C 104 rfl rfl (nI_1 k) (Nat.le_of_ble_eq_true rfl) rfl ?_
                    refine x_goto (t := 123) C 105 rfl (by decide) ?_
                    exact ihi (k + 1) _ _ (by omega)
                  · skip
                    have hl9 : l < 8 := by
                      rcases Nat.lt_or_ge l 8 with w | w
                      · exact w
                      · exact absurd (nI_le w (by omega)) (by assumption)
                    refine y_lload3 (q := 144) C 77 rfl rfl ?_
                    refine y_aload0 (q := 145) C 78 rfl rfl ?_
                    refine y_iload5 (q := 147) C 79 rfl rfl ?_
                    refine y_iload6 (q := 149) C 80 rfl rfl ?_
                    refine y_cV2 (q := 152) C 81 rfl rfl ml_RX5_104 cd_X5_orderAt cv_X5_orderAt ⟨by decide, rfl⟩ (by first | assumption | rfl | decide | omega | exact bL hB _ (by decide)) (by decide) (by decide) (Nat.le_of_ble_eq_true rfl) (s_X5_orderAt (by first | assumption | rfl | decide | omega | exact bL hB _ (by decide)) (by first | assumption | rfl | decide | omega | exact bL hB _ (by decide)) (by first | assumption | rfl | decide | omega | exact bL hB _ (by decide)) ?_)
                    show aj_X G 152 _ _ _ _ _ _ _ _ _
                    refine x_i2l (q := 153) C 82 rfl rfl ?_
                    refine y_cS2 (q := 156) C 83 rfl rfl ml_RX5_266 cd_X5_add sv_X5_add (by decide) (by decide) (Nat.le_of_ble_eq_true rfl) (s_X5_add ?_)
                    intro r
                    show aj_X G 156 _ _ _ _ _ _ _ _ _
                    refine y_lstore3 (q := 157) C 84 rfl rfl (Nat.le_of_ble_eq_true rfl) rfl ?_
                    refine y_lload3 (q := 158) C 85 rfl rfl ?_
                    refine y_aload0 (q := 159) C 86 rfl rfl ?_
                    refine y_iload5 (q := 161) C 87 rfl rfl ?_
                    refine y_iload6 (q := 163) C 88 rfl rfl ?_
                    refine y_cV2 (q := 166) C 89 rfl rfl ml_RX5_166 cd_X5_isLike cv_X5_isLike ⟨by decide, rfl⟩ (by first | assumption | rfl | decide | omega | exact bL hB _ (by decide)) (by decide) (by decide) (Nat.le_of_ble_eq_true rfl) (s_X5_isLike (by first | assumption | rfl | decide | omega | exact bL hB _ (by decide)) (by first | assumption | rfl | decide | omega | exact bL hB _ (by decide)) (by first | assumption | rfl | decide | omega | exact bL hB _ (by decide)) ?_)
                    show aj_X G 166 _ _ _ _ _ _ _ _ _
                    refine y_cS1 (q := 169) C 90 rfl rfl ml_RX5_47 cd_X5_one sv_X5_one (by decide) (by decide) (Nat.le_of_ble_eq_true rfl) (s_X5_one ?_)
                    show aj_X G 169 _ _ _ _ _ _ _ _ _
                    refine x_i2l (q := 170) C 91 rfl rfl ?_
                    refine y_cS2 (q := 173) C 92 rfl rfl ml_RX5_266 cd_X5_add sv_X5_add (by decide) (by decide) (Nat.le_of_ble_eq_true rfl) (s_X5_add ?_)
                    intro r
                    show aj_X G 173 _ _ _ _ _ _ _ _ _
                    refine y_lstore3 (q := 174) C 93 rfl rfl (Nat.le_of_ble_eq_true rfl) rfl ?_
                    refine y_lload3 (q := 175) C 94 rfl rfl ?_
                    refine y_aload0 (q := 176) C 95 rfl rfl ?_
                    refine y_iload5 (q := 178) C 96 rfl rfl ?_
                    refine y_iload6 (q := 180) C 97 rfl rfl ?_
                    refine y_cV2 (q := 183) C 98 rfl rfl ml_RX5_169 cd_X5_sideAt cv_X5_sideAt ⟨by decide, rfl⟩ (by first | assumption | rfl | decide | omega | exact bL hB _ (by decide)) (by decide) (by decide) (Nat.le_of_ble_eq_true rfl) (s_X5_sideAt (by first | assumption | rfl | decide | omega | exact bL hB _ (by decide)) (by first | assumption | rfl | decide | omega | exact bL hB _ (by decide)) (by first | assumption | rfl | decide | omega | exact bL hB _ (by decide)) ?_)
                    show aj_X G 183 _ _ _ _ _ _ _ _ _
                    refine x_i2l (q := 184) C 99 rfl rfl ?_
                    refine y_cS2 (q := 187) C 100 rfl rfl ml_RX5_266 cd_X5_add sv_X5_add (by decide) (by decide) (Nat.le_of_ble_eq_true rfl) (s_X5_add ?_)
                    intro r
                    show aj_X G 187 _ _ _ _ _ _ _ _ _
                    refine y_lstore3 (q := 188) C 101 rfl rfl (Nat.le_of_ble_eq_true rfl) rfl ?_
                    refine y_iinc6 (q := 191) C 102 rfl rfl (nI_1 l) (Nat.le_of_ble_eq_true rfl) rfl ?_
                    refine x_goto (t := 136) C 103 rfl (by decide) ?_
                    exact ihl (l + 1) _ (by omega) (by omega)
              exact lp136 8 (k + 1) _ (by omega) (by omega)
        exact lp123 8 0 _ _ (by omega)
      · skip
        exact absurd (nI_le (by omega) (by omega)) c1
    | succ mj ihj =>
      intro k v z hk
      refine y_iload5 (q := 7) C 4 rfl rfl ?_
      refine x_bipush (q := 9) C 5 (n := (8)) (v := nI 8) rfl rfl rfl ?_
      refine x_icmp_ge (q := 12) (t := 120) C 6 rfl (by decide) rfl (fun c6 => ?_) (fun c6 => ?_)
      · skip
        exact absurd c6 (nI_ge (by omega) (by omega))
      · skip
        refine y_lload3 (q := 13) C 7 rfl rfl ?_
        refine y_aload0 (q := 14) C 8 rfl rfl ?_
        refine x_getR (q := 17) C 9 rfl rfl fl_RX5_9 (bv_6_1 hB) (fun _ _ => rfl) (by first | assumption | rfl | decide | omega | exact bL hB _ (by decide)) (by first | assumption | rfl | decide | omega | exact bL hB _ (by decide)) ?_
        refine y_iload5 (q := 19) C 10 rfl rfl ?_
        refine x_iald (q := 20) C 11 rfl rfl (by first | assumption | rfl | decide | omega | exact bL hB _ (by decide)) (by first | assumption | rfl | decide | omega | exact bL hB _ (by decide)) (by (first | rw [bn24 hB] | rw [bn40 hB] | rw [bn56 hB] | rw [bn72 hB] | rw [bn27 hB] | rw [bn43 hB] | rw [bn25 hB] | rw [bn41 hB] | rw [bn88 hB] | rw [bn104 hB] | rw [bn120 hB] | rw [bn136 hB] | rw [bn152 hB] | rw [bn168 hB]); first | assumption | exact vp_in_nI (by omega) (by decide)) ?_
        rw [nI_clamp (by omega)]
        refine x_i2l (q := 21) C 12 rfl rfl ?_
        refine y_cS2 (q := 24) C 13 rfl rfl ml_RX5_266 cd_X5_add sv_X5_add (by decide) (by decide) (Nat.le_of_ble_eq_true rfl) (s_X5_add ?_)
        intro r
        show aj_X G 24 _ _ _ _ _ _ _ _ _
        refine y_aload0 (q := 25) C 14 rfl rfl ?_
        refine x_getR (q := 28) C 15 rfl rfl fl_RX5_13 (bv_6_2 hB) (fun _ _ => rfl) (by first | assumption | rfl | decide | omega | exact bL hB _ (by decide)) (by first | assumption | rfl | decide | omega | exact bL hB _ (by decide)) ?_
        refine y_iload5 (q := 30) C 16 rfl rfl ?_
        refine x_iald (q := 31) C 17 rfl rfl (by first | assumption | rfl | decide | omega | exact bL hB _ (by decide)) (by first | assumption | rfl | decide | omega | exact bL hB _ (by decide)) (by (first | rw [bn24 hB] | rw [bn40 hB] | rw [bn56 hB] | rw [bn72 hB] | rw [bn27 hB] | rw [bn43 hB] | rw [bn25 hB] | rw [bn41 hB] | rw [bn88 hB] | rw [bn104 hB] | rw [bn120 hB] | rw [bn136 hB] | rw [bn152 hB] | rw [bn168 hB]); first | assumption | exact vp_in_nI (by omega) (by decide)) ?_
        rw [nI_clamp (by omega)]
        refine x_i2l (q := 32) C 18 rfl rfl ?_
        refine y_cS2 (q := 35) C 19 rfl rfl ml_RX5_266 cd_X5_add sv_X5_add (by decide) (by decide) (Nat.le_of_ble_eq_true rfl) (s_X5_add ?_)
        intro r
        show aj_X G 35 _ _ _ _ _ _ _ _ _
        refine y_aload0 (q := 36) C 20 rfl rfl ?_
        refine x_getR (q := 39) C 21 rfl rfl fl_RX5_16 (bv_6_3 hB) (fun _ _ => rfl) (by first | assumption | rfl | decide | omega | exact bL hB _ (by decide)) (by first | assumption | rfl | decide | omega | exact bL hB _ (by decide)) ?_
        refine y_iload5 (q := 41) C 22 rfl rfl ?_
        refine x_iald (q := 42) C 23 rfl rfl (by first | assumption | rfl | decide | omega | exact bL hB _ (by decide)) (by first | assumption | rfl | decide | omega | exact bL hB _ (by decide)) (by (first | rw [bn24 hB] | rw [bn40 hB] | rw [bn56 hB] | rw [bn72 hB] | rw [bn27 hB] | rw [bn43 hB] | rw [bn25 hB] | rw [bn41 hB] | rw [bn88 hB] | rw [bn104 hB] | rw [bn120 hB] | rw [bn136 hB] | rw [bn152 hB] | rw [bn168 hB]); first | assumption | exact vp_in_nI (by omega) (by decide)) ?_
        rw [nI_clamp (by omega)]
        refine x_i2l (q := 43) C 24 rfl rfl ?_
        refine y_cS2 (q := 46) C 25 rfl rfl ml_RX5_266 cd_X5_add sv_X5_add (by decide) (by decide) (Nat.le_of_ble_eq_true rfl) (s_X5_add ?_)
        intro r
        show aj_X G 46 _ _ _ _ _ _ _ _ _
        refine y_lstore3 (q := 47) C 26 rfl rfl (Nat.le_of_ble_eq_true rfl) rfl ?_
        refine y_lload3 (q := 48) C 27 rfl rfl ?_
        refine y_aload0 (q := 49) C 28 rfl rfl ?_
        refine y_iload5 (q := 51) C 29 rfl rfl ?_
        refine y_cV1 (q := 54) C 30 rfl rfl ml_RX5_152 cd_X5_upperOf cv_X5_upperOf ⟨by decide, rfl⟩ (by first | assumption | rfl | decide | omega | exact bL hB _ (by decide)) (by decide) (by decide) (Nat.le_of_ble_eq_true rfl) (s_X5_upperOf (by first | assumption | rfl | decide | omega | exact bL hB _ (by decide)) (by first | assumption | rfl | decide | omega | exact bL hB _ (by decide)) ?_)
        intro r
        show aj_X G 54 _ _ _ _ _ _ _ _ _
        refine x_i2l (q := 55) C 31 rfl rfl ?_
        refine y_cS2 (q := 58) C 32 rfl rfl ml_RX5_266 cd_X5_add sv_X5_add (by decide) (by decide) (Nat.le_of_ble_eq_true rfl) (s_X5_add ?_)
        intro r
        show aj_X G 58 _ _ _ _ _ _ _ _ _
        refine y_aload0 (q := 59) C 33 rfl rfl ?_
        refine y_iload5 (q := 61) C 34 rfl rfl ?_
        refine y_cV1 (q := 64) C 35 rfl rfl ml_RX5_155 cd_X5_lowerOf cv_X5_lowerOf ⟨by decide, rfl⟩ (by first | assumption | rfl | decide | omega | exact bL hB _ (by decide)) (by decide) (by decide) (Nat.le_of_ble_eq_true rfl) (s_X5_lowerOf (by first | assumption | rfl | decide | omega | exact bL hB _ (by decide)) (by first | assumption | rfl | decide | omega | exact bL hB _ (by decide)) ?_)
        show aj_X G 64 _ _ _ _ _ _ _ _ _
        refine x_i2l (q := 65) C 36 rfl rfl ?_
        refine y_cS2 (q := 68) C 37 rfl rfl ml_RX5_266 cd_X5_add sv_X5_add (by decide) (by decide) (Nat.le_of_ble_eq_true rfl) (s_X5_add ?_)
        intro r
        show aj_X G 68 _ _ _ _ _ _ _ _ _
        refine y_aload0 (q := 69) C 38 rfl rfl ?_
        refine x_getR (q := 72) C 39 rfl rfl fl_RX5_19 (bv_6_4 hB) (fun _ _ => rfl) (by first | assumption | rfl | decide | omega | exact bL hB _ (by decide)) (by first | assumption | rfl | decide | omega | exact bL hB _ (by decide)) ?_
        refine y_iload5 (q := 74) C 40 rfl rfl ?_
        refine x_lald (q := 75) C 41 rfl rfl (by first | assumption | rfl | decide | omega | exact bL hB _ (by decide)) (by first | assumption | rfl | decide | omega | exact bL hB _ (by decide)) (by (first | rw [bn24 hB] | rw [bn40 hB] | rw [bn56 hB] | rw [bn72 hB] | rw [bn27 hB] | rw [bn43 hB] | rw [bn25 hB] | rw [bn41 hB] | rw [bn88 hB] | rw [bn104 hB] | rw [bn120 hB] | rw [bn136 hB] | rw [bn152 hB] | rw [bn168 hB]); first | assumption | exact vp_in_nI (by omega) (by decide)) ?_
        rw [nI_clamp (by omega)]
        refine y_aload0 (q := 76) C 42 rfl rfl ?_
        refine y_iload5 (q := 78) C 43 rfl rfl ?_
        refine y_cV1 (q := 81) C 44 rfl rfl ml_RX5_97 cd_X5_upSignOf cv_X5_upSignOf ⟨by decide, rfl⟩ (by first | assumption | rfl | decide | omega | exact bL hB _ (by decide)) (by decide) (by decide) (Nat.le_of_ble_eq_true rfl) (s_X5_upSignOf (by first | assumption | rfl | decide | omega | exact bL hB _ (by decide)) (by first | assumption | rfl | decide | omega | exact bL hB _ (by decide)) ?_)
        show aj_X G 81 _ _ _ _ _ _ _ _ _
        refine x_bipush (q := 83) C 45 (n := (29)) (v := (29)) rfl rfl rfl ?_
        refine y_cS3 (q := 86) C 46 rfl rfl ml_RX5_158 cd_X5_gradeOf sv_X5_gradeOf (by decide) (by decide) (Nat.le_of_ble_eq_true rfl) (s_X5_gradeOf ?_)
        show aj_X G 86 _ _ _ _ _ _ _ _ _
        refine x_i2l (q := 87) C 47 rfl rfl ?_
        refine y_cS2 (q := 90) C 48 rfl rfl ml_RX5_266 cd_X5_add sv_X5_add (by decide) (by decide) (Nat.le_of_ble_eq_true rfl) (s_X5_add ?_)
        intro r
        show aj_X G 90 _ _ _ _ _ _ _ _ _
        refine y_lstore3 (q := 91) C 49 rfl rfl (Nat.le_of_ble_eq_true rfl) rfl ?_
        refine y_lload3 (q := 92) C 50 rfl rfl ?_
        refine y_aload0 (q := 93) C 51 rfl rfl ?_
        refine y_iload5 (q := 95) C 52 rfl rfl ?_
        refine y_cV1 (q := 98) C 53 rfl rfl ml_RX5_172 cd_X5_eighthOf cv_X5_eighthOf ⟨by decide, rfl⟩ (by first | assumption | rfl | decide | omega | exact bL hB _ (by decide)) (by decide) (by decide) (Nat.le_of_ble_eq_true rfl) (s_X5_eighthOf (by first | assumption | rfl | decide | omega | exact bL hB _ (by decide)) (by first | assumption | rfl | decide | omega | exact bL hB _ (by decide)) ?_)
        show aj_X G 98 _ _ _ _ _ _ _ _ _
        refine x_i2l (q := 99) C 54 rfl rfl ?_
        refine y_cS2 (q := 102) C 55 rfl rfl ml_RX5_266 cd_X5_add sv_X5_add (by decide) (by decide) (Nat.le_of_ble_eq_true rfl) (s_X5_add ?_)
        intro r
        show aj_X G 102 _ _ _ _ _ _ _ _ _
        refine y_aload0 (q := 103) C 56 rfl rfl ?_
        refine y_iload5 (q := 105) C 57 rfl rfl ?_
        refine x_iconst (q := 106) C 58 (n := (0)) (v := (0)) rfl rfl rfl ?_
        refine y_cV2 (q := 109) C 59 rfl rfl ml_RX5_175 cd_X5_found cv_X5_found ⟨by decide, rfl⟩ (by first | assumption | rfl | decide | omega | exact bL hB _ (by decide)) (by decide) (by decide) (Nat.le_of_ble_eq_true rfl) (s_X5_found (b := false) (by omega) hM hB ?_)
        show aj_X G 109 _ _ _ _ _ _ _ _ _
        refine x_i2l (q := 110) C 60 rfl rfl ?_
        refine y_cS2 (q := 113) C 61 rfl rfl ml_RX5_266 cd_X5_add sv_X5_add (by decide) (by decide) (Nat.le_of_ble_eq_true rfl) (s_X5_add ?_)
        intro r
        show aj_X G 113 _ _ _ _ _ _ _ _ _
        refine y_lstore3 (q := 114) C 62 rfl rfl (Nat.le_of_ble_eq_true rfl) rfl ?_
        refine y_iinc5 (q := 117) C 63 rfl rfl (nI_1 k) (Nat.le_of_ble_eq_true rfl) rfl ?_
        refine x_goto (t := 5) C 64 rfl (by decide) ?_
        exact ihj (k + 1) _ _ (by omega)
  exact lp5 8 0 _ _ (by omega)
