set_option maxRecDepth 100000 in
set_option maxHeartbeats 800000 in
theorem s_X5_round {l : Launch} {I : Nat → Nat → Int32} {J : Nat → Nat → Int64} {V : Nat → Nat → Option Nat} {N : Nat → Nat} {L : List Nat} {K : aj_K} {n : Nat} (hn : n ≤ 12) (he : I 22 7 = nI n) {a : Nat} (ha : a % 16 = 8) (haL : a ∉ L) (hT : ∀ i j, V i j ≠ some a) (hB : bV V N L) (hK : ∀ I1 t, t ≤ 12 → (∀ i, i ≠ a → I1 i = I i) → aV I1 a t → K (.inl (some (.ref a))) I1 J V (aj_ur N a t) (L ++ [a])) : aj_M l yX5_round (aj_wc yX5_round cX5_round 6 (some (.array .int))) (aj_rm 4 1 12) [a] [.ref 22] I J V N L K := by
  refine aj_intro (tbl := t_X5_round) (lv0 := [some (.ref 22), none, none, none, none, none]) (by decide) T_X5_round (fun i h => by unfold aj_sp; rw [List.mem_singleton.mp h]; omega) (Nat.le_of_ble_eq_true rfl) rfl ?_
  intro G hl C Z NX hnm hGL hGF
  have C : aj_C G cX5_round t_X5_round RX5 (aj_rm 4 1 12) 6 := C
  have n0 : 22 ≠ a := by omega
  have n1 : 136 ≠ a := fun e => haL (e ▸ bL hB 136 (by decide))
  have n2 : 152 ≠ a := fun e => haL (e ▸ bL hB 152 (by decide))
  refine y_aload0 (q := 1) C 0 rfl rfl ?_
  refine y_cV0 (q := 4) C 1 rfl rfl ml_RX5_208 cd_X5_outs cv_X5_outs ⟨by decide, rfl⟩ (by first | assumption | rfl | decide | omega | exact bL hB _ (by decide)) (by decide) (by decide) (Nat.le_of_ble_eq_true rfl) (s_X5_outs hn he hB ?_)
  show aj_X G 4 _ _ _ _ _ _ _ _ _
  have hno : aj_nob a [some (.ref 22), none, none, none, none, none] [] = true := by
    have h22 : (22 != a) = true := by rw [bne_iff_ne]; omega
    simp only [aj_nob, aj_nv, List.all_cons, List.all_nil, Bool.and_true, Bool.true_and, h22]
  refine x_newI (q := 6) (bc' := 0) (bs' := 0) C 2 a (n' := (cnt (mOut I) n)) (m := 12) rfl rfl ac_int (nI_pos (by have := Nat.le_trans (cnt_le (mOut I) n) hn; omega)) (nI_clamp (by have := Nat.le_trans (cnt_le (mOut I) n) hn; omega)) (Nat.le_trans (cnt_le (mOut I) n) hn) (by decide) ha (by rw [hGF]; exact List.mem_singleton.mpr rfl) haL (fun i _ j => hT i j) (aj_no.of hno) rfl rfl ?_
  refine y_astore1 (q := 7) C 3 rfl rfl (Nat.le_of_ble_eq_true rfl) rfl ?_
  have haL1 : a ∈ L ++ [a] := List.mem_append_right _ List.mem_cons_self
  have hB := bV.new (t := (cnt (mOut I) n)) hB haL
  have h2 : ∀ i, i ≠ a → aj_z I a 0 i = I i := fun i h => aj_z_o I 0 h
  have hv2 : aV (aj_z I a 0) a (cnt (mOut I) n) := aV.z
  generalize aj_z I a 0 = I2 at h2 hv2 ⊢
  refine x_iconst (q := 8) C 4 (n := (0)) (v := nI 0) rfl rfl rfl ?_
  refine y_istore2 (q := 9) C 5 rfl rfl (Nat.le_of_ble_eq_true rfl) rfl ?_
  have lp9 : ∀ (mj k : Nat) (I2 : Nat → Nat → Int32) (z3 z4 z5 : Option Value), k + mj = n → (∀ i, i ≠ a → I2 i = I i) → aV I2 a (cnt (mOut I) n) → aj_X G 9 [some (.ref 22), some (.ref a), some (.int (nI k)), z3, z4, z5] [] I2 J V (aj_ur N a (cnt (mOut I) n)) (L ++ [a]) 0 0 := by
    intro mj
    induction mj with
    | zero =>
      intro k I2 z3 z4 z5 hk h2 hv2
      refine y_iload2 (q := 10) C 6 rfl rfl ?_
      refine y_aload0 (q := 11) C 7 rfl rfl ?_
      refine x_getI (q := 14) C 8 rfl rfl fl_RX5_44 (fun _ _ => rfl) (by first | assumption | rfl | decide | omega | exact bL hB _ (by decide)) (by first | assumption | rfl | decide | omega | exact bL hB _ (by decide)) ?_
      rw [h2 22 (by omega), he]
      refine x_icmp_ge (q := 17) (t := 120) C 9 rfl (by decide) rfl (fun c1 => ?_) (fun c1 => ?_)
      · skip
        refine y_aload1 (q := 121) C 62 rfl rfl ?_
        exact x_areturn C Z 63 rfl rfl (by first | exact Or.inl ⟨_, rfl⟩ | exact Or.inr ⟨_, rfl⟩) (hK I2 _ (Nat.le_trans (cnt_le (mOut I) n) hn) h2 hv2)
      · skip
        exact absurd (nI_le (by omega) (by omega)) c1
    | succ mj ihj =>
      intro k I2 z3 z4 z5 hk h2 hv2
      refine y_iload2 (q := 10) C 6 rfl rfl ?_
      refine y_aload0 (q := 11) C 7 rfl rfl ?_
      refine x_getI (q := 14) C 8 rfl rfl fl_RX5_44 (fun _ _ => rfl) (by first | assumption | rfl | decide | omega | exact bL hB _ (by decide)) (by first | assumption | rfl | decide | omega | exact bL hB _ (by decide)) ?_
      rw [h2 22 (by omega), he]
      refine x_icmp_ge (q := 17) (t := 120) C 9 rfl (by decide) rfl (fun c2 => ?_) (fun c2 => ?_)
      · skip
        exact absurd c2 (nI_ge (by omega) (by omega))
      · skip
        refine y_aload0 (q := 18) C 10 rfl rfl ?_
        refine y_iload2 (q := 19) C 11 rfl rfl ?_
        refine y_cV1 (q := 22) C 12 rfl rfl ml_RX5_205 cd_X5_isOut cv_X5_isOut ⟨by decide, rfl⟩ (by first | assumption | rfl | decide | omega | exact bL hB _ (by decide)) (by decide) (by decide) (Nat.le_of_ble_eq_true rfl) (s_X5_isOut (by first | assumption | rfl | decide | omega | exact bL hB _ (by decide)) (by first | assumption | rfl | decide | omega | exact bL hB _ (by decide)) ?_)
        rw [mOut_e h2 n0 n1 n2]
        show aj_X G 22 _ _ _ _ _ _ _ _ _
        refine x_if_neB (q := 25) (t := 28) C 13 rfl (by decide) rfl (fun c3 => ?_) (fun c3 => ?_)
        · skip
          refine x_iconst (q := 29) C 15 (n := (0)) (v := nI 0) rfl rfl rfl ?_
          refine y_istore3 (q := 30) C 16 rfl rfl (Nat.le_of_ble_eq_true rfl) rfl ?_
          refine x_iconst (q := 31) C 17 (n := (0)) (v := nI 0) rfl rfl rfl ?_
          refine y_istore4 (q := 33) C 18 rfl rfl (Nat.le_of_ble_eq_true rfl) rfl ?_
          have lp33 : ∀ (ml l c : Nat) (z5 : Option Value), l + ml = n → c ≤ cnt (fun l => mOut I l && !decide (l = k)) l → aj_X G 33 [some (.ref 22), some (.ref a), some (.int (nI k)), some (.int (nI c)), some (.int (nI l)), z5] [] I2 J V (aj_ur N a (cnt (mOut I) n)) (L ++ [a]) 0 0 := by
            intro ml
            induction ml with
            | zero =>
              intro l c z5 hl hc
              refine y_iload4 (q := 35) C 19 rfl rfl ?_
              refine y_aload0 (q := 36) C 20 rfl rfl ?_
              refine x_getI (q := 39) C 21 rfl rfl fl_RX5_44 (fun _ _ => rfl) (by first | assumption | rfl | decide | omega | exact bL hB _ (by decide)) (by first | assumption | rfl | decide | omega | exact bL hB _ (by decide)) ?_
              rw [h2 22 (by omega), he]
              refine x_icmp_ge (q := 42) (t := 110) C 22 rfl (by decide) rfl (fun c4 => ?_) (fun c4 => ?_)
              · skip
                have h12 := cnt_le (mOut I) n
                have hct : c < cnt (mOut I) n := by
                  rw [show l = n by omega] at hc
                  exact Nat.lt_of_le_of_lt hc (cnt_lt (k := k) (fun l h => by cases z : mOut I l <;> simp_all) (by omega) (by simp) (by assumption))
                refine y_aload1 (q := 111) C 56 rfl rfl ?_
                refine y_iload3 (q := 112) C 57 rfl rfl ?_
                refine y_iload2 (q := 113) C 58 rfl rfl ?_
                refine x_iast (q := 114) C 59 rfl rfl (by first | assumption | rfl | decide | omega | exact bL hB _ (by decide)) (by first | assumption | rfl | decide | omega | exact bL hB _ (by decide)) (by rw [aj_ur_s]; exact vp_in_nI hct (by omega)) ?_
                rw [nI_clamp (by omega)]
                refine y_iinc2 (q := 117) C 60 rfl rfl (nI_1 k) (Nat.le_of_ble_eq_true rfl) rfl ?_
                refine x_goto (t := 9) C 61 rfl (by decide) ?_
                exact ihj (k + 1) _ _ _ _ (by omega) (fun i h => (aj_u_o _ _ h).trans (h2 i h)) (aV.u hv2 (by omega))
              · skip
                exact absurd (nI_le (by omega) (by omega)) c4
            | succ ml ihl =>
              intro l c z5 hl hc
              refine y_iload4 (q := 35) C 19 rfl rfl ?_
              refine y_aload0 (q := 36) C 20 rfl rfl ?_
              refine x_getI (q := 39) C 21 rfl rfl fl_RX5_44 (fun _ _ => rfl) (by first | assumption | rfl | decide | omega | exact bL hB _ (by decide)) (by first | assumption | rfl | decide | omega | exact bL hB _ (by decide)) ?_
              rw [h2 22 (by omega), he]
              refine x_icmp_ge (q := 42) (t := 110) C 22 rfl (by decide) rfl (fun c5 => ?_) (fun c5 => ?_)
              · skip
                exact absurd c5 (nI_ge (by omega) (by omega))
              · skip
                refine y_iload4 (q := 44) C 23 rfl rfl ?_
                refine y_iload2 (q := 45) C 24 rfl rfl ?_
                refine x_icmp_eq (q := 48) (t := 104) C 25 rfl (by decide) rfl (fun c6 => ?_) (fun c6 => ?_)
                · skip
                  refine y_iinc4 (q := 107) C 54 rfl rfl (nI_1 l) (Nat.le_of_ble_eq_true rfl) rfl ?_
                  refine x_goto (t := 33) C 55 rfl (by decide) ?_
                  exact ihl (l + 1) c _ (by omega) (Nat.le_trans hc cnt_s)
                · skip
                  refine y_aload0 (q := 49) C 26 rfl rfl ?_
                  refine y_iload4 (q := 51) C 27 rfl rfl ?_
                  refine y_cV1 (q := 54) C 28 rfl rfl ml_RX5_205 cd_X5_isOut cv_X5_isOut ⟨by decide, rfl⟩ (by first | assumption | rfl | decide | omega | exact bL hB _ (by decide)) (by decide) (by decide) (Nat.le_of_ble_eq_true rfl) (s_X5_isOut (by first | assumption | rfl | decide | omega | exact bL hB _ (by decide)) (by first | assumption | rfl | decide | omega | exact bL hB _ (by decide)) ?_)
                  rw [mOut_e h2 n0 n1 n2]
                  show aj_X G 54 _ _ _ _ _ _ _ _ _
                  refine x_if_neB (q := 57) (t := 60) C 29 rfl (by decide) rfl (fun c7 => ?_) (fun c7 => ?_)
                  · skip
                    refine y_aload0 (q := 61) C 31 rfl rfl ?_
                    refine y_iload4 (q := 63) C 32 rfl rfl ?_
                    refine y_iload2 (q := 64) C 33 rfl rfl ?_
                    refine y_cV2 (q := 67) C 34 rfl rfl ml_RX5_211 cd_X5_outOrder cv_X5_outOrder ⟨by decide, rfl⟩ (by first | assumption | rfl | decide | omega | exact bL hB _ (by decide)) (by decide) (by decide) (Nat.le_of_ble_eq_true rfl) (s_X5_outOrder (by first | assumption | rfl | decide | omega | exact bL hB _ (by decide)) (by first | assumption | rfl | decide | omega | exact bL hB _ (by decide)) (by first | assumption | rfl | decide | omega | exact bL hB _ (by decide)) ?_)
                    intro r
                    show aj_X G 67 _ _ _ _ _ _ _ _ _
                    refine y_istore5 (q := 69) C 35 rfl rfl (Nat.le_of_ble_eq_true rfl) rfl ?_
                    refine y_iload3 (q := 70) C 36 rfl rfl ?_
                    refine y_iload5 (q := 72) C 37 rfl rfl ?_
                    refine x_if_lt (q := 75) (t := 94) C 38 rfl (by decide) rfl (fun c8 => ?_) (fun c8 => ?_)
                    · skip
                      refine x_iconst (q := 95) C 48 (n := (1)) (v := (1)) rfl rfl rfl ?_
                      refine x_goto (t := 99) C 49 rfl (by decide) ?_
                      refine y_cS1 (q := 102) C 51 rfl rfl ml_RX5_47 cd_X5_one sv_X5_one (by decide) (by decide) (Nat.le_of_ble_eq_true rfl) (s_X5_one ?_)
                      show aj_X G 102 _ _ _ _ _ _ _ _ _
                      refine x_iadd (q := 103) C 52 rfl rfl ?_
                      rw [show pOne 1 = 1 from rfl, nI_1]
                      refine y_istore3 (q := 104) C 53 rfl rfl (Nat.le_of_ble_eq_true rfl) rfl ?_
                      refine y_iinc4 (q := 107) C 54 rfl rfl (nI_1 l) (Nat.le_of_ble_eq_true rfl) rfl ?_
                      refine x_goto (t := 33) C 55 rfl (by decide) ?_
                      have al : l ≠ k := fun e => absurd (by rw [e]) (show ¬ nI l = nI k by assumption)
                      have ao : mOut I l = true := by assumption
                      have ag : (fun l => mOut I l && !decide (l = k)) l = true := by simp [al, ao]
                      exact ihl (l + 1) (c + 1) _ (by omega) (by rw [cnt_t ag]; omega)
                    · skip
                      refine y_iload5 (q := 77) C 39 rfl rfl ?_
                      refine x_if_ne (q := 80) (t := 98) C 40 rfl (by decide) rfl (fun c9 => ?_) (fun c9 => ?_)
                      · skip
                        refine x_iconst (q := 99) C 50 (n := (0)) (v := (0)) rfl rfl rfl ?_
                        refine y_cS1 (q := 102) C 51 rfl rfl ml_RX5_47 cd_X5_one sv_X5_one (by decide) (by decide) (Nat.le_of_ble_eq_true rfl) (s_X5_one ?_)
                        show aj_X G 102 _ _ _ _ _ _ _ _ _
                        refine x_iadd (q := 103) C 52 rfl rfl ?_
                        rw [show pOne 0 = 0 from rfl, Int32.add_zero]
                        refine y_istore3 (q := 104) C 53 rfl rfl (Nat.le_of_ble_eq_true rfl) rfl ?_
                        refine y_iinc4 (q := 107) C 54 rfl rfl (nI_1 l) (Nat.le_of_ble_eq_true rfl) rfl ?_
                        refine x_goto (t := 33) C 55 rfl (by decide) ?_
                        exact ihl (l + 1) c _ (by omega) (Nat.le_trans hc cnt_s)
                      · skip
                        refine y_aload0 (q := 81) C 41 rfl rfl ?_
                        refine y_iload4 (q := 83) C 42 rfl rfl ?_
                        refine y_cV1 (q := 86) C 43 rfl rfl ml_RX5_214 cd_X5_far cv_X5_far ⟨by decide, rfl⟩ (by first | assumption | rfl | decide | omega | exact bL hB _ (by decide)) (by decide) (by decide) (Nat.le_of_ble_eq_true rfl) (s_X5_far (by first | assumption | rfl | decide | omega | exact bL hB _ (by decide)) (by first | assumption | rfl | decide | omega | exact bL hB _ (by decide)) ?_)
                        intro r
                        show aj_X G 86 _ _ _ _ _ _ _ _ _
                        refine y_aload0 (q := 87) C 44 rfl rfl ?_
                        refine y_iload2 (q := 88) C 45 rfl rfl ?_
                        refine y_cV1 (q := 91) C 46 rfl rfl ml_RX5_214 cd_X5_far cv_X5_far ⟨by decide, rfl⟩ (by first | assumption | rfl | decide | omega | exact bL hB _ (by decide)) (by decide) (by decide) (Nat.le_of_ble_eq_true rfl) (s_X5_far (by first | assumption | rfl | decide | omega | exact bL hB _ (by decide)) (by first | assumption | rfl | decide | omega | exact bL hB _ (by decide)) ?_)
                        intro r
                        show aj_X G 91 _ _ _ _ _ _ _ _ _
                        refine x_icmp_ge (q := 94) (t := 98) C 47 rfl (by decide) rfl (fun c10 => ?_) (fun c10 => ?_)
                        · skip
                          refine x_iconst (q := 99) C 50 (n := (0)) (v := (0)) rfl rfl rfl ?_
                          refine y_cS1 (q := 102) C 51 rfl rfl ml_RX5_47 cd_X5_one sv_X5_one (by decide) (by decide) (Nat.le_of_ble_eq_true rfl) (s_X5_one ?_)
                          show aj_X G 102 _ _ _ _ _ _ _ _ _
                          refine x_iadd (q := 103) C 52 rfl rfl ?_
                          rw [show pOne 0 = 0 from rfl, Int32.add_zero]
                          refine y_istore3 (q := 104) C 53 rfl rfl (Nat.le_of_ble_eq_true rfl) rfl ?_
                          refine y_iinc4 (q := 107) C 54 rfl rfl (nI_1 l) (Nat.le_of_ble_eq_true rfl) rfl ?_
                          refine x_goto (t := 33) C 55 rfl (by decide) ?_
                          exact ihl (l + 1) c _ (by omega) (Nat.le_trans hc cnt_s)
                        · skip
                          refine x_iconst (q := 95) C 48 (n := (1)) (v := (1)) rfl rfl rfl ?_
                          refine x_goto (t := 99) C 49 rfl (by decide) ?_
                          refine y_cS1 (q := 102) C 51 rfl rfl ml_RX5_47 cd_X5_one sv_X5_one (by decide) (by decide) (Nat.le_of_ble_eq_true rfl) (s_X5_one ?_)
                          show aj_X G 102 _ _ _ _ _ _ _ _ _
                          refine x_iadd (q := 103) C 52 rfl rfl ?_
                          rw [show pOne 1 = 1 from rfl, nI_1]
                          refine y_istore3 (q := 104) C 53 rfl rfl (Nat.le_of_ble_eq_true rfl) rfl ?_
                          refine y_iinc4 (q := 107) C 54 rfl rfl (nI_1 l) (Nat.le_of_ble_eq_true rfl) rfl ?_
                          refine x_goto (t := 33) C 55 rfl (by decide) ?_
                          have al : l ≠ k := fun e => absurd (by rw [e]) (show ¬ nI l = nI k by assumption)
                          have ao : mOut I l = true := by assumption
                          have ag : (fun l => mOut I l && !decide (l = k)) l = true := by simp [al, ao]
                          exact ihl (l + 1) (c + 1) _ (by omega) (by rw [cnt_t ag]; omega)
                  · skip
                    refine x_goto (t := 104) C 30 rfl (by decide) ?_
                    refine y_iinc4 (q := 107) C 54 rfl rfl (nI_1 l) (Nat.le_of_ble_eq_true rfl) rfl ?_
                    refine x_goto (t := 33) C 55 rfl (by decide) ?_
                    exact ihl (l + 1) c _ (by omega) (Nat.le_trans hc cnt_s)
          exact lp33 n 0 0 _ (by omega) (Nat.zero_le _)
        · skip
          refine x_goto (t := 114) C 14 rfl (by decide) ?_
          refine y_iinc2 (q := 117) C 60 rfl rfl (nI_1 k) (Nat.le_of_ble_eq_true rfl) rfl ?_
          refine x_goto (t := 9) C 61 rfl (by decide) ?_
          exact ihj (k + 1) _ _ _ _ (by omega) h2 hv2
  exact lp9 n 0 _ _ _ _ (by omega) h2 hv2
set_option maxRecDepth 100000 in
set_option maxHeartbeats 800000 in
theorem s_X5_hullCount {l : Launch} {I : Nat → Nat → Int32} {J : Nat → Nat → Int64} {V : Nat → Nat → Option Nat} {N : Nat → Nat} {L : List Nat} {K : aj_K} (hM : mI I) {a : Nat} (ha : a % 16 = 8) (haL : a ∉ L) (hT : ∀ i j, V i j ≠ some a) (hB : bV V N L) (hK : ∀ (r : Int32) I1 t, mRA a I J I1 J → K (.inl (some (.int r))) I1 J V (aj_ur N a t) (L ++ [a])) : aj_M l yX5_hullCount (aj_wc yX5_hullCount cX5_hullCount 1 (some .int)) (aj_rm 5 1 12) [a] [.ref 22] I J V N L K := by
  refine aj_intro (tbl := t_X5_hullCount) (lv0 := [some (.ref 22)]) (by decide) T_X5_hullCount (fun i h => by unfold aj_sp; rw [List.mem_singleton.mp h]; omega) (Nat.le_of_ble_eq_true rfl) rfl ?_
  intro G hl C Z NX hnm hGL hGF
  have C : aj_C G cX5_hullCount t_X5_hullCount RX5 (aj_rm 5 1 12) 1 := C
  obtain ⟨n, hn, he⟩ := hM.2.1
  have hTT := hT
  refine y_aload0 (q := 1) C 0 rfl rfl ?_
  refine x_iconst (q := 2) C 1 (n := (0)) (v := (0)) rfl rfl rfl ?_
  refine x_putI (q := 5) C 2 rfl rfl fl_RX5_32 rfl rfl (by first | assumption | rfl | decide | omega | exact bL hB _ (by decide)) (by first | assumption | rfl | decide | omega | exact bL hB _ (by decide)) ?_
  have hR0 : mR I J (aj_u I 22 0 0) J := mR.t hM
  have hT : aj_u I 22 0 0 22 0 = 0 := aj_u_s _ _ _ _
  have he0 : aj_u I 22 0 0 22 7 = nI n := (aj_u_k _ _ _ (by decide)).trans he
  generalize aj_u I 22 0 0 = I0 at hR0 hT he0 ⊢
  have hno : aj_nob a [some (.ref 22)] [] = true := by
    have h22 : (22 != a) = true := by rw [bne_iff_ne]; omega
    simp only [aj_nob, aj_nv, List.all_cons, List.all_nil, Bool.and_true, Bool.true_and, h22]
  refine y_aload0 (q := 6) C 3 rfl rfl ?_
  refine y_fV0 (q := 9) C 4 rfl rfl ml_RX5_191 cd_X5_corners cv_X5_corners ⟨by decide, rfl⟩ (by first | assumption | rfl | decide | omega | exact bL hB _ (by decide)) (by decide) (by decide) (Nat.le_of_ble_eq_true rfl) (bc' := 0) (bs' := 0) rfl rfl (by rw [hGF]; exact fun i h => h) (fun i h => by rw [List.mem_singleton.mp h]; exact aj_no.of hno) (s_X5_corners hn he0 ha haL hTT hB ?_)
  intro I1 t ht h1 hv
  have haL1 : a ∈ L ++ [a] := List.mem_append_right _ List.mem_cons_self
  have hRA := mRA.of hB haL hR0 h1
  have hB := bV.new (t := t) hB haL
  have hN : aj_ur N a t a = t := aj_ur_s _ _ _
  show aj_X G 9 _ _ _ _ _ _ _ _ _
  refine x_alen (q := 10) C 5 rfl rfl (by first | assumption | rfl | decide | omega | exact bL hB _ (by decide)) (by first | assumption | rfl | decide | omega | exact bL hB _ (by decide)) ?_
  exact x_ireturn C Z 6 rfl rfl rfl (hK _ _ _ hRA)
set_option maxRecDepth 100000 in
set_option maxHeartbeats 800000 in
theorem s_X5_isStar {l : Launch} {I : Nat → Nat → Int32} {J : Nat → Nat → Int64} {V : Nat → Nat → Option Nat} {N : Nat → Nat} {L : List Nat} {K : aj_K} (hM : mI I) {a : Nat} (ha : a % 16 = 8) (haL : a ∉ L) (hT : ∀ i j, V i j ≠ some a) (hB : bV V N L) (hK : ∀ (b : Bool) I1 t, mRA a I J I1 J → K (.inl (some (.int (bI b)))) I1 J V (aj_ur N a t) (L ++ [a])) : aj_M l yX5_isStar (aj_wc yX5_isStar cX5_isStar 1 (some .boolean)) (aj_rm 5 1 12) [a] [.ref 22] I J V N L K := by
  refine aj_intro (tbl := t_X5_isStar) (lv0 := [some (.ref 22)]) (by decide) T_X5_isStar (fun i h => by unfold aj_sp; rw [List.mem_singleton.mp h]; omega) (Nat.le_of_ble_eq_true rfl) rfl ?_
  intro G hl C Z NX hnm hGL hGF
  have C : aj_C G cX5_isStar t_X5_isStar RX5 (aj_rm 5 1 12) 1 := C
  obtain ⟨n, hn, he⟩ := hM.2.1
  have hTT := hT
  refine y_aload0 (q := 1) C 0 rfl rfl ?_
  refine x_iconst (q := 2) C 1 (n := (0)) (v := (0)) rfl rfl rfl ?_
  refine x_putI (q := 5) C 2 rfl rfl fl_RX5_32 rfl rfl (by first | assumption | rfl | decide | omega | exact bL hB _ (by decide)) (by first | assumption | rfl | decide | omega | exact bL hB _ (by decide)) ?_
  have hR0 : mR I J (aj_u I 22 0 0) J := mR.t hM
  have hT : aj_u I 22 0 0 22 0 = 0 := aj_u_s _ _ _ _
  have he0 : aj_u I 22 0 0 22 7 = nI n := (aj_u_k _ _ _ (by decide)).trans he
  generalize aj_u I 22 0 0 = I0 at hR0 hT he0 ⊢
  have hno : aj_nob a [some (.ref 22)] [.ref 22] = true := by
    have h22 : (22 != a) = true := by rw [bne_iff_ne]; omega
    simp only [aj_nob, aj_nv, List.all_cons, List.all_nil, Bool.and_true, Bool.true_and, h22]
  refine y_aload0 (q := 6) C 3 rfl rfl ?_
  refine y_aload0 (q := 7) C 4 rfl rfl ?_
  refine y_fV0 (q := 10) C 5 rfl rfl ml_RX5_235 cd_X5_round cv_X5_round ⟨by decide, rfl⟩ (by first | assumption | rfl | decide | omega | exact bL hB _ (by decide)) (by decide) (by decide) (Nat.le_of_ble_eq_true rfl) (bc' := 0) (bs' := 0) rfl rfl (by rw [hGF]; exact fun i h => h) (fun i h => by rw [List.mem_singleton.mp h]; exact aj_no.of hno) (s_X5_round hn he0 ha haL hTT hB ?_)
  intro I1 t ht h1 hv
  have haL1 : a ∈ L ++ [a] := List.mem_append_right _ List.mem_cons_self
  have hRA := mRA.of hB haL hR0 h1
  have hB := bV.new (t := t) hB haL
  have hN : aj_ur N a t a = t := aj_ur_s _ _ _
  show aj_X G 10 _ _ _ _ _ _ _ _ _
  refine y_cV1 (q := 13) C 6 rfl rfl ml_RX5_245 cd_X5_isStarred cv_X5_isStarred ⟨by decide, rfl⟩ (by first | assumption | rfl | decide | omega | exact bL hB _ (by decide)) (by decide) (by decide) (Nat.le_of_ble_eq_true rfl) (s_X5_isStarred ha haL1 ht hN hv hB ?_)
  intro b
  show aj_X G 13 _ _ _ _ _ _ _ _ _
  exact x_ireturn C Z 7 rfl rfl (by first | rfl | exact bI_nar _) (hK _ _ _ hRA)
set_option maxRecDepth 100000 in
set_option maxHeartbeats 800000 in
theorem s_X5_starArea {l : Launch} {I : Nat → Nat → Int32} {J : Nat → Nat → Int64} {V : Nat → Nat → Option Nat} {N : Nat → Nat} {L : List Nat} {K : aj_K} (hM : mI I) {a : Nat} (ha : a % 16 = 8) (haL : a ∉ L) (hT : ∀ i j, V i j ≠ some a) (hB : bV V N L) (hK : ∀ (r : Int32) I1 t, mRA a I J I1 J → K (.inl (some (.int r))) I1 J V (aj_ur N a t) (L ++ [a])) : aj_M l yX5_starArea (aj_wc yX5_starArea cX5_starArea 1 (some .int)) (aj_rm 5 1 12) [a] [.ref 22] I J V N L K := by
  refine aj_intro (tbl := t_X5_starArea) (lv0 := [some (.ref 22)]) (by decide) T_X5_starArea (fun i h => by unfold aj_sp; rw [List.mem_singleton.mp h]; omega) (Nat.le_of_ble_eq_true rfl) rfl ?_
  intro G hl C Z NX hnm hGL hGF
  have C : aj_C G cX5_starArea t_X5_starArea RX5 (aj_rm 5 1 12) 1 := C
  obtain ⟨n, hn, he⟩ := hM.2.1
  have hTT := hT
  refine y_aload0 (q := 1) C 0 rfl rfl ?_
  refine x_iconst (q := 2) C 1 (n := (0)) (v := (0)) rfl rfl rfl ?_
  refine x_putI (q := 5) C 2 rfl rfl fl_RX5_32 rfl rfl (by first | assumption | rfl | decide | omega | exact bL hB _ (by decide)) (by first | assumption | rfl | decide | omega | exact bL hB _ (by decide)) ?_
  have hR0 : mR I J (aj_u I 22 0 0) J := mR.t hM
  have hT : aj_u I 22 0 0 22 0 = 0 := aj_u_s _ _ _ _
  have he0 : aj_u I 22 0 0 22 7 = nI n := (aj_u_k _ _ _ (by decide)).trans he
  generalize aj_u I 22 0 0 = I0 at hR0 hT he0 ⊢
  have hno : aj_nob a [some (.ref 22)] [.ref 22] = true := by
    have h22 : (22 != a) = true := by rw [bne_iff_ne]; omega
    simp only [aj_nob, aj_nv, List.all_cons, List.all_nil, Bool.and_true, Bool.true_and, h22]
  refine y_aload0 (q := 6) C 3 rfl rfl ?_
  refine y_aload0 (q := 7) C 4 rfl rfl ?_
  refine y_fV0 (q := 10) C 5 rfl rfl ml_RX5_235 cd_X5_round cv_X5_round ⟨by decide, rfl⟩ (by first | assumption | rfl | decide | omega | exact bL hB _ (by decide)) (by decide) (by decide) (Nat.le_of_ble_eq_true rfl) (bc' := 0) (bs' := 0) rfl rfl (by rw [hGF]; exact fun i h => h) (fun i h => by rw [List.mem_singleton.mp h]; exact aj_no.of hno) (s_X5_round hn he0 ha haL hTT hB ?_)
  intro I1 t ht h1 hv
  have haL1 : a ∈ L ++ [a] := List.mem_append_right _ List.mem_cons_self
  have hRA := mRA.of hB haL hR0 h1
  have hB := bV.new (t := t) hB haL
  have hN : aj_ur N a t a = t := aj_ur_s _ _ _
  show aj_X G 10 _ _ _ _ _ _ _ _ _
  refine y_cV1 (q := 13) C 6 rfl rfl ml_RX5_249 cd_X5_swept cv_X5_swept ⟨by decide, rfl⟩ (by first | assumption | rfl | decide | omega | exact bL hB _ (by decide)) (by decide) (by decide) (Nat.le_of_ble_eq_true rfl) (s_X5_swept ha haL1 ht hN hv hB ?_)
  intro r
  show aj_X G 13 _ _ _ _ _ _ _ _ _
  exact x_ireturn C Z 7 rfl rfl rfl (hK _ _ _ hRA)
set_option maxRecDepth 100000 in
set_option maxHeartbeats 800000 in
theorem s_X5_hullArea {l : Launch} {I : Nat → Nat → Int32} {J : Nat → Nat → Int64} {V : Nat → Nat → Option Nat} {N : Nat → Nat} {L : List Nat} {K : aj_K} (hM : mI I) {a : Nat} (ha : a % 16 = 8) (haL : a ∉ L) (hT : ∀ i j, V i j ≠ some a) (hB : bV V N L) (hK : ∀ (r : Int32) I1 t, mRA a I J I1 J → K (.inl (some (.int r))) I1 J V (aj_ur N a t) (L ++ [a])) : aj_M l yX5_hullArea (aj_wc yX5_hullArea cX5_hullArea 1 (some .int)) (aj_rm 5 1 12) [a] [.ref 22] I J V N L K := by
  refine aj_intro (tbl := t_X5_hullArea) (lv0 := [some (.ref 22)]) (by decide) T_X5_hullArea (fun i h => by unfold aj_sp; rw [List.mem_singleton.mp h]; omega) (Nat.le_of_ble_eq_true rfl) rfl ?_
  intro G hl C Z NX hnm hGL hGF
  have C : aj_C G cX5_hullArea t_X5_hullArea RX5 (aj_rm 5 1 12) 1 := C
  obtain ⟨n, hn, he⟩ := hM.2.1
  have hTT := hT
  refine y_aload0 (q := 1) C 0 rfl rfl ?_
  refine x_iconst (q := 2) C 1 (n := (0)) (v := (0)) rfl rfl rfl ?_
  refine x_putI (q := 5) C 2 rfl rfl fl_RX5_32 rfl rfl (by first | assumption | rfl | decide | omega | exact bL hB _ (by decide)) (by first | assumption | rfl | decide | omega | exact bL hB _ (by decide)) ?_
  have hR0 : mR I J (aj_u I 22 0 0) J := mR.t hM
  have hT : aj_u I 22 0 0 22 0 = 0 := aj_u_s _ _ _ _
  have he0 : aj_u I 22 0 0 22 7 = nI n := (aj_u_k _ _ _ (by decide)).trans he
  generalize aj_u I 22 0 0 = I0 at hR0 hT he0 ⊢
  have hno : aj_nob a [some (.ref 22)] [.ref 22] = true := by
    have h22 : (22 != a) = true := by rw [bne_iff_ne]; omega
    simp only [aj_nob, aj_nv, List.all_cons, List.all_nil, Bool.and_true, Bool.true_and, h22]
  refine y_aload0 (q := 6) C 3 rfl rfl ?_
  refine y_aload0 (q := 7) C 4 rfl rfl ?_
  refine y_fV0 (q := 10) C 5 rfl rfl ml_RX5_191 cd_X5_corners cv_X5_corners ⟨by decide, rfl⟩ (by first | assumption | rfl | decide | omega | exact bL hB _ (by decide)) (by decide) (by decide) (Nat.le_of_ble_eq_true rfl) (bc' := 0) (bs' := 0) rfl rfl (by rw [hGF]; exact fun i h => h) (fun i h => by rw [List.mem_singleton.mp h]; exact aj_no.of hno) (s_X5_corners hn he0 ha haL hTT hB ?_)
  intro I1 t ht h1 hv
  have haL1 : a ∈ L ++ [a] := List.mem_append_right _ List.mem_cons_self
  have hRA := mRA.of hB haL hR0 h1
  have hB := bV.new (t := t) hB haL
  have hN : aj_ur N a t a = t := aj_ur_s _ _ _
  show aj_X G 10 _ _ _ _ _ _ _ _ _
  refine y_cV1 (q := 13) C 6 rfl rfl ml_RX5_195 cd_X5_area cv_X5_area ⟨by decide, rfl⟩ (by first | assumption | rfl | decide | omega | exact bL hB _ (by decide)) (by decide) (by decide) (Nat.le_of_ble_eq_true rfl) (s_X5_area ha haL1 ht hN hv hB ?_)
  intro r
  show aj_X G 13 _ _ _ _ _ _ _ _ _
  exact x_ireturn C Z 7 rfl rfl rfl (hK _ _ _ hRA)
