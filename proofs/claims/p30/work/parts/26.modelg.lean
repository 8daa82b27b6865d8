set_option maxRecDepth 100000 in
set_option maxHeartbeats 800000 in
theorem s_X5_corners {l : Launch} {I : Nat → Nat → Int32} {J : Nat → Nat → Int64} {V : Nat → Nat → Option Nat} {N : Nat → Nat} {L : List Nat} {K : aj_K} {n : Nat} (hn : n ≤ 12) (he : I 22 7 = nI n) {a : Nat} (ha : a % 16 = 8) (haL : a ∉ L) (hT : ∀ i j, V i j ≠ some a) (hB : bV V N L) (hK : ∀ I1 t, t ≤ 12 → (∀ i, i ≠ a → I1 i = I i) → aV I1 a t → K (.inl (some (.ref a))) I1 J V (aj_ur N a t) (L ++ [a])) : aj_M l yX5_corners (aj_wc yX5_corners cX5_corners 7 (some (.array .int))) (aj_rm 4 1 12) [a] [.ref 22] I J V N L K := by
  refine aj_intro (tbl := t_X5_corners) (lv0 := [some (.ref 22), none, none, none, none, none, none]) (by decide) T_X5_corners (fun i h => by unfold aj_sp; rw [List.mem_singleton.mp h]; omega) (Nat.le_of_ble_eq_true rfl) rfl ?_
  intro G hl C Z NX hnm hGL hGF
  have C : aj_C G cX5_corners t_X5_corners RX5 (aj_rm 4 1 12) 7 := C
  refine x_iconst (q := 1) C 0 (n := (0)) (v := nI 0) rfl rfl rfl ?_
  refine y_istore1 (q := 2) C 1 rfl rfl (Nat.le_of_ble_eq_true rfl) rfl ?_
  refine x_bipush (q := 4) C 2 (n := (-9)) (v := (-9)) rfl rfl rfl ?_
  refine y_istore2 (q := 5) C 3 rfl rfl (Nat.le_of_ble_eq_true rfl) rfl ?_
  refine x_iconst (q := 6) C 4 (n := (0)) (v := nI 0) rfl rfl rfl ?_
  refine y_istore3 (q := 7) C 5 rfl rfl (Nat.le_of_ble_eq_true rfl) rfl ?_
  have lp7 : ∀ (m k M : Nat) (bb : Int32), k + m = n → M < 2 ^ k → mB M k bb → aj_X G 7 [some (.ref 22), some (.int (nI M)), some (.int bb), some (.int (nI k)), none, none, none] [] I J V N L 1 12 := by
    intro m
    induction m with
    | zero =>
      intro k M bb hk hM2 hBB
      refine y_iload3 (q := 8) C 6 rfl rfl ?_
      refine y_aload0 (q := 9) C 7 rfl rfl ?_
      refine x_getI (q := 12) C 8 rfl rfl fl_RX5_44 (fun _ _ => rfl) (by first | assumption | rfl | decide | omega | exact bL hB _ (by decide)) (by first | assumption | rfl | decide | omega | exact bL hB _ (by decide)) ?_
      rw [he]
      refine x_icmp_ge (q := 15) (t := 91) C 9 rfl (by decide) rfl (fun c1 => ?_) (fun c1 => ?_)
      · skip
        have hkn : k = n := by omega
        have hM4 : M < 4096 := Nat.lt_of_lt_of_le hM2 (Nat.pow_le_pow_right (n := 2) (by decide) (show k ≤ 12 by omega))
        rw [hkn] at hBB
        refine y_iload1 (q := 92) C 55 rfl rfl ?_
        refine y_cS1 (q := 95) C 56 rfl rfl ml_RX5_258 cd_J6_bitCount_0f7a4 sv_J6_bitCount_0f7a4 (by decide) (by decide) (Nat.le_of_ble_eq_true rfl) (s_J6_bitCount_0f7a4 ?_)
        rw [mBC_cnt M hM4]
        show aj_X G 95 _ _ _ _ _ _ _ _ _
        have hno : aj_nob a [some (.ref 22), some (.int (nI M)), some (.int bb), some (.int (nI k)), none, none, none] [] = true := by
          have h22 : (22 != a) = true := by rw [bne_iff_ne]; omega
          simp only [aj_nob, aj_nv, List.all_cons, List.all_nil, Bool.and_true, Bool.true_and, h22]
        refine x_newI (q := 97) (bc' := 0) (bs' := 0) C 57 a (n' := (cnt (bt M) 12)) (m := 12) rfl rfl ac_int (nI_pos (by have := cnt_le (bt M) 12; omega)) (nI_clamp (by have := cnt_le (bt M) 12; omega)) (cnt_le (bt M) 12) (by decide) ha (by rw [hGF]; exact List.mem_singleton.mpr rfl) haL (fun i _ j => hT i j) (aj_no.of hno) rfl rfl ?_
        refine y_astore3 (q := 98) C 58 rfl rfl (Nat.le_of_ble_eq_true rfl) rfl ?_
        have haL1 : a ∈ L ++ [a] := List.mem_append_right _ List.mem_cons_self
        have hB := bV.new (t := (cnt (bt M) 12)) hB haL
        have h2 : ∀ i, i ≠ a → aj_z I a 0 i = I i := fun i h => aj_z_o I 0 h
        have hv2 : aV (aj_z I a 0) a (cnt (bt M) 12) := aV.z
        generalize aj_z I a 0 = I2 at h2 hv2 ⊢
        refine y_iload1 (q := 99) C 59 rfl rfl ?_
        refine x_if_eq (q := 102) (t := 106) C 60 rfl (by decide) rfl (fun c2 => ?_) (fun c2 => ?_)
        · skip
          refine x_iconst (q := 107) C 65 (n := (0)) (v := nI 0) rfl rfl rfl ?_
          refine y_istore4 (q := 109) C 66 rfl rfl (Nat.le_of_ble_eq_true rfl) rfl ?_
          have lp109 : ∀ (mj k : Nat) (I2 : Nat → Nat → Int32) (z5 z6 : Option Value), k + mj = n → (∀ i, i ≠ a → I2 i = I i) → aV I2 a (cnt (bt M) 12) → aj_X G 109 [some (.ref 22), some (.int (nI M)), some (.int bb), some (.ref a), some (.int (nI k)), z5, z6] [] I2 J V (aj_ur N a (cnt (bt M) 12)) (L ++ [a]) 0 0 := by
            intro mj
            induction mj with
            | zero =>
              intro k I2 z5 z6 hk h2 hv2
              refine y_iload4 (q := 111) C 67 rfl rfl ?_
              refine y_aload0 (q := 112) C 68 rfl rfl ?_
              refine x_getI (q := 115) C 69 rfl rfl fl_RX5_44 (fun _ _ => rfl) (by first | assumption | rfl | decide | omega | exact bL hB _ (by decide)) (by first | assumption | rfl | decide | omega | exact bL hB _ (by decide)) ?_
              rw [h2 22 (by omega), he]
              refine x_icmp_ge (q := 118) (t := 210) C 70 rfl (by decide) rfl (fun c3 => ?_) (fun c3 => ?_)
              · skip
                refine y_aload3 (q := 211) C 120 rfl rfl ?_
                exact x_areturn C Z 121 rfl rfl (by first | exact Or.inl ⟨_, rfl⟩ | exact Or.inr ⟨_, rfl⟩) (hK I2 _ (cnt_le (bt M) 12) h2 hv2)
              · skip
                exact absurd (nI_le (by omega) (by omega)) c3
            | succ mj ihj =>
              intro k I2 z5 z6 hk h2 hv2
              refine y_iload4 (q := 111) C 67 rfl rfl ?_
              refine y_aload0 (q := 112) C 68 rfl rfl ?_
              refine x_getI (q := 115) C 69 rfl rfl fl_RX5_44 (fun _ _ => rfl) (by first | assumption | rfl | decide | omega | exact bL hB _ (by decide)) (by first | assumption | rfl | decide | omega | exact bL hB _ (by decide)) ?_
              rw [h2 22 (by omega), he]
              refine x_icmp_ge (q := 118) (t := 210) C 70 rfl (by decide) rfl (fun c4 => ?_) (fun c4 => ?_)
              · skip
                exact absurd c4 (nI_ge (by omega) (by omega))
              · skip
                refine y_iload1 (q := 119) C 71 rfl rfl ?_
                refine y_iload4 (q := 121) C 72 rfl rfl ?_
                refine x_ishr (q := 122) C 73 rfl rfl ?_
                refine x_iconst (q := 123) C 74 (n := (1)) (v := (1)) rfl rfl rfl ?_
                refine x_iand (q := 124) C 75 rfl rfl ?_
                rw [bt_and k (by omega) M hM4]
                refine x_if_eqB (q := 127) (t := 204) C 76 rfl (by decide) rfl (fun c5 => ?_) (fun c5 => ?_)
                · skip
                  refine y_iinc4 (q := 207) C 118 rfl rfl (nI_1 k) (Nat.le_of_ble_eq_true rfl) rfl ?_
                  refine x_goto (t := 109) C 119 rfl (by decide) ?_
                  exact ihj (k + 1) _ _ _ (by omega) h2 hv2
                · skip
                  refine y_iload4 (q := 129) C 77 rfl rfl ?_
                  refine y_iload2 (q := 130) C 78 rfl rfl ?_
                  refine x_icmp_ne (q := 133) (t := 136) C 79 rfl (by decide) rfl (fun c6 => ?_) (fun c6 => ?_)
                  · skip
                    obtain ⟨b, hb, hb2, hbe⟩ : ∃ b, b < n ∧ bt M b = true ∧ bb = nI b := by
                      rcases hBB with ⟨w, -⟩ | w
                      · subst w; exact absurd (show bt 0 k = true by assumption) (by rw [bt_0]; decide)
                      · exact w
                    subst hbe
                    have hkb : k ≠ b := fun e => absurd (by rw [e]) (show ¬ nI k = nI b by assumption)
                    refine x_iconst (q := 137) C 81 (n := (1)) (v := nI 1) rfl rfl rfl ?_
                    refine y_istore5 (q := 139) C 82 rfl rfl (Nat.le_of_ble_eq_true rfl) rfl ?_
                    refine x_iconst (q := 140) C 83 (n := (0)) (v := nI 0) rfl rfl rfl ?_
                    refine y_istore6 (q := 142) C 84 rfl rfl (Nat.le_of_ble_eq_true rfl) rfl ?_
                    have lp142 : ∀ (ml l c : Nat), l + ml = n → c ≤ 1 + cnt (gB M b k) l → aj_X G 142 [some (.ref 22), some (.int (nI M)), some (.int (nI b)), some (.ref a), some (.int (nI k)), some (.int (nI c)), some (.int (nI l))] [] I2 J V (aj_ur N a (cnt (bt M) 12)) (L ++ [a]) 0 0 := by
                      intro ml
                      induction ml with
                      | zero =>
                        intro l c hl hc
                        refine y_iload6 (q := 144) C 85 rfl rfl ?_
                        refine y_aload0 (q := 145) C 86 rfl rfl ?_
                        refine x_getI (q := 148) C 87 rfl rfl fl_RX5_44 (fun _ _ => rfl) (by first | assumption | rfl | decide | omega | exact bL hB _ (by decide)) (by first | assumption | rfl | decide | omega | exact bL hB _ (by decide)) ?_
                        rw [h2 22 (by omega), he]
                        refine x_icmp_ge (q := 151) (t := 198) C 88 rfl (by decide) rfl (fun c7 => ?_) (fun c7 => ?_)
                        · skip
                          have h12 := cnt_le (bt M) 12
                          have hct : c < cnt (bt M) 12 := by
                            have := gB_lt hb (by omega) hn hb2 (by assumption) hkb
                            rw [show l = n by omega] at hc
                            omega
                          refine y_aload3 (q := 199) C 114 rfl rfl ?_
                          refine y_iload5 (q := 201) C 115 rfl rfl ?_
                          refine y_iload4 (q := 203) C 116 rfl rfl ?_
                          refine x_iast (q := 204) C 117 rfl rfl (by first | assumption | rfl | decide | omega | exact bL hB _ (by decide)) (by first | assumption | rfl | decide | omega | exact bL hB _ (by decide)) (by rw [aj_ur_s]; exact vp_in_nI hct (by have := cnt_le (bt M) 12; omega)) ?_
                          rw [nI_clamp (by omega)]
                          refine y_iinc4 (q := 207) C 118 rfl rfl (nI_1 k) (Nat.le_of_ble_eq_true rfl) rfl ?_
                          refine x_goto (t := 109) C 119 rfl (by decide) ?_
                          exact ihj (k + 1) _ _ _ (by omega) (fun i h => (aj_u_o _ _ h).trans (h2 i h)) (aV.u hv2 (by omega))
                        · skip
                          exact absurd (nI_le (by omega) (by omega)) c7
                      | succ ml ihl =>
                        intro l c hl hc
                        refine y_iload6 (q := 144) C 85 rfl rfl ?_
                        refine y_aload0 (q := 145) C 86 rfl rfl ?_
                        refine x_getI (q := 148) C 87 rfl rfl fl_RX5_44 (fun _ _ => rfl) (by first | assumption | rfl | decide | omega | exact bL hB _ (by decide)) (by first | assumption | rfl | decide | omega | exact bL hB _ (by decide)) ?_
                        rw [h2 22 (by omega), he]
                        refine x_icmp_ge (q := 151) (t := 198) C 88 rfl (by decide) rfl (fun c8 => ?_) (fun c8 => ?_)
                        · skip
                          exact absurd c8 (nI_ge (by omega) (by omega))
                        · skip
                          refine y_iload5 (q := 153) C 89 rfl rfl ?_
                          refine y_iload1 (q := 154) C 90 rfl rfl ?_
                          refine y_iload6 (q := 156) C 91 rfl rfl ?_
                          refine x_ishr (q := 157) C 92 rfl rfl ?_
                          refine x_iconst (q := 158) C 93 (n := (1)) (v := (1)) rfl rfl rfl ?_
                          refine x_iand (q := 159) C 94 rfl rfl ?_
                          rw [bt_and l (by omega) M hM4]
                          refine x_iconst (q := 160) C 95 (n := (1)) (v := (1)) rfl rfl rfl ?_
                          refine x_icmp_ne (q := 163) (t := 185) C 96 rfl (by decide) rfl (fun c9 => ?_) (fun c9 => ?_)
                          · skip
                            refine x_iconst (q := 186) C 108 (n := (0)) (v := (0)) rfl rfl rfl ?_
                            refine y_cS1 (q := 189) C 109 rfl rfl ml_RX5_47 cd_X5_one sv_X5_one (by decide) (by decide) (Nat.le_of_ble_eq_true rfl) (s_X5_one ?_)
                            show aj_X G 189 _ _ _ _ _ _ _ _ _
                            refine x_iadd (q := 190) C 110 rfl rfl ?_
                            rw [show pOne 0 = 0 from rfl, Int32.add_zero]
                            refine y_istore5 (q := 192) C 111 rfl rfl (Nat.le_of_ble_eq_true rfl) rfl ?_
                            refine y_iinc6 (q := 195) C 112 rfl rfl (nI_1 l) (Nat.le_of_ble_eq_true rfl) rfl ?_
                            refine x_goto (t := 142) C 113 rfl (by decide) ?_
                            exact ihl (l + 1) c (by omega) (Nat.le_trans hc (Nat.add_le_add_left cnt_s 1))
                          · skip
                            refine y_iload6 (q := 165) C 97 rfl rfl ?_
                            refine y_iload2 (q := 166) C 98 rfl rfl ?_
                            refine x_icmp_eq (q := 169) (t := 185) C 99 rfl (by decide) rfl (fun c10 => ?_) (fun c10 => ?_)
                            · skip
                              refine x_iconst (q := 186) C 108 (n := (0)) (v := (0)) rfl rfl rfl ?_
                              refine y_cS1 (q := 189) C 109 rfl rfl ml_RX5_47 cd_X5_one sv_X5_one (by decide) (by decide) (Nat.le_of_ble_eq_true rfl) (s_X5_one ?_)
                              show aj_X G 189 _ _ _ _ _ _ _ _ _
                              refine x_iadd (q := 190) C 110 rfl rfl ?_
                              rw [show pOne 0 = 0 from rfl, Int32.add_zero]
                              refine y_istore5 (q := 192) C 111 rfl rfl (Nat.le_of_ble_eq_true rfl) rfl ?_
                              refine y_iinc6 (q := 195) C 112 rfl rfl (nI_1 l) (Nat.le_of_ble_eq_true rfl) rfl ?_
                              refine x_goto (t := 142) C 113 rfl (by decide) ?_
                              exact ihl (l + 1) c (by omega) (Nat.le_trans hc (Nat.add_le_add_left cnt_s 1))
                            · skip
                              refine y_aload0 (q := 170) C 100 rfl rfl ?_
                              refine y_iload2 (q := 171) C 101 rfl rfl ?_
                              refine y_iload6 (q := 173) C 102 rfl rfl ?_
                              refine y_iload4 (q := 175) C 103 rfl rfl ?_
                              refine y_cV3 (q := 178) C 104 rfl rfl ml_RX5_202 cd_X5_turn cv_X5_turn ⟨by decide, rfl⟩ (by first | assumption | rfl | decide | omega | exact bL hB _ (by decide)) (by decide) (by decide) (Nat.le_of_ble_eq_true rfl) (s_X5_turn (by first | assumption | rfl | decide | omega | exact bL hB _ (by decide)) (by first | assumption | rfl | decide | omega | exact bL hB _ (by decide)) (by first | assumption | rfl | decide | omega | exact bL hB _ (by decide)) (by first | assumption | rfl | decide | omega | exact bL hB _ (by decide)) ?_)
                              show aj_X G 178 _ _ _ _ _ _ _ _ _
                              refine x_if_le (q := 181) (t := 185) C 105 rfl (by decide) rfl (fun c11 => ?_) (fun c11 => ?_)
                              · skip
                                refine x_iconst (q := 186) C 108 (n := (0)) (v := (0)) rfl rfl rfl ?_
                                refine y_cS1 (q := 189) C 109 rfl rfl ml_RX5_47 cd_X5_one sv_X5_one (by decide) (by decide) (Nat.le_of_ble_eq_true rfl) (s_X5_one ?_)
                                show aj_X G 189 _ _ _ _ _ _ _ _ _
                                refine x_iadd (q := 190) C 110 rfl rfl ?_
                                rw [show pOne 0 = 0 from rfl, Int32.add_zero]
                                refine y_istore5 (q := 192) C 111 rfl rfl (Nat.le_of_ble_eq_true rfl) rfl ?_
                                refine y_iinc6 (q := 195) C 112 rfl rfl (nI_1 l) (Nat.le_of_ble_eq_true rfl) rfl ?_
                                refine x_goto (t := 142) C 113 rfl (by decide) ?_
                                exact ihl (l + 1) c (by omega) (Nat.le_trans hc (Nat.add_le_add_left cnt_s 1))
                              · skip
                                refine x_iconst (q := 182) C 106 (n := (1)) (v := (1)) rfl rfl rfl ?_
                                refine x_goto (t := 186) C 107 rfl (by decide) ?_
                                refine y_cS1 (q := 189) C 109 rfl rfl ml_RX5_47 cd_X5_one sv_X5_one (by decide) (by decide) (Nat.le_of_ble_eq_true rfl) (s_X5_one ?_)
                                show aj_X G 189 _ _ _ _ _ _ _ _ _
                                refine x_iadd (q := 190) C 110 rfl rfl ?_
                                rw [show pOne 1 = 1 from rfl, nI_1]
                                refine y_istore5 (q := 192) C 111 rfl rfl (Nat.le_of_ble_eq_true rfl) rfl ?_
                                refine y_iinc6 (q := 195) C 112 rfl rfl (nI_1 l) (Nat.le_of_ble_eq_true rfl) rfl ?_
                                refine x_goto (t := 142) C 113 rfl (by decide) ?_
                                have a1 : l ≠ b := fun e => absurd (by rw [e]) (show ¬ nI l = nI b by assumption)
                                have a2 : l ≠ k := fun e => absurd (show mTu I2 b l k ≤ 0 by rw [e, mTu_0]; decide) (by assumption)
                                have a3 : bt M l = true := bI_1.mp (by assumption)
                                have ag : gB M b k l = true := by unfold gB; simp [a1, a2, a3]
                                exact ihl (l + 1) (c + 1) (by omega) (by rw [cnt_t ag]; omega)
                    exact lp142 n 0 1 (by omega) (by omega)
                  · skip
                    refine x_goto (t := 204) C 80 rfl (by decide) ?_
                    refine y_iinc4 (q := 207) C 118 rfl rfl (nI_1 k) (Nat.le_of_ble_eq_true rfl) rfl ?_
                    refine x_goto (t := 109) C 119 rfl (by decide) ?_
                    exact ihj (k + 1) _ _ _ (by omega) h2 hv2
          exact lp109 n 0 _ _ _ (by omega) h2 hv2
        · skip
          obtain ⟨b, hb, hb2, hbe⟩ : ∃ b, b < n ∧ bt M b = true ∧ bb = nI b := by
            rcases hBB with ⟨w, -⟩ | w
            · subst w; exact absurd rfl (by assumption)
            · exact w
          have ht0 := cnt_pos (f := bt M) (b := b) (n := 12) (by omega) hb2
          refine y_aload3 (q := 103) C 61 rfl rfl ?_
          refine x_iconst (q := 104) C 62 (n := (0)) (v := nI 0) rfl rfl rfl ?_
          refine y_iload2 (q := 105) C 63 rfl rfl ?_
          refine x_iast (q := 106) C 64 rfl rfl (by first | assumption | rfl | decide | omega | exact bL hB _ (by decide)) (by first | assumption | rfl | decide | omega | exact bL hB _ (by decide)) (by rw [aj_ur_s]; exact vp_in_nI ht0 (by have := cnt_le (bt M) 12; omega)) ?_
          rw [nI_clamp (by omega)]
          refine x_iconst (q := 107) C 65 (n := (0)) (v := nI 0) rfl rfl rfl ?_
          refine y_istore4 (q := 109) C 66 rfl rfl (Nat.le_of_ble_eq_true rfl) rfl ?_
          have lp109 : ∀ (mj k : Nat) (I2 : Nat → Nat → Int32) (z5 z6 : Option Value), k + mj = n → (∀ i, i ≠ a → I2 i = I i) → aV I2 a (cnt (bt M) 12) → aj_X G 109 [some (.ref 22), some (.int (nI M)), some (.int bb), some (.ref a), some (.int (nI k)), z5, z6] [] I2 J V (aj_ur N a (cnt (bt M) 12)) (L ++ [a]) 0 0 := by
            intro mj
            induction mj with
            | zero =>
              intro k I2 z5 z6 hk h2 hv2
              refine y_iload4 (q := 111) C 67 rfl rfl ?_
              refine y_aload0 (q := 112) C 68 rfl rfl ?_
              refine x_getI (q := 115) C 69 rfl rfl fl_RX5_44 (fun _ _ => rfl) (by first | assumption | rfl | decide | omega | exact bL hB _ (by decide)) (by first | assumption | rfl | decide | omega | exact bL hB _ (by decide)) ?_
              rw [h2 22 (by omega), he]
              refine x_icmp_ge (q := 118) (t := 210) C 70 rfl (by decide) rfl (fun c12 => ?_) (fun c12 => ?_)
              · skip
                refine y_aload3 (q := 211) C 120 rfl rfl ?_
                exact x_areturn C Z 121 rfl rfl (by first | exact Or.inl ⟨_, rfl⟩ | exact Or.inr ⟨_, rfl⟩) (hK I2 _ (cnt_le (bt M) 12) h2 hv2)
              · skip
                exact absurd (nI_le (by omega) (by omega)) c12
            | succ mj ihj =>
              intro k I2 z5 z6 hk h2 hv2
              refine y_iload4 (q := 111) C 67 rfl rfl ?_
              refine y_aload0 (q := 112) C 68 rfl rfl ?_
              refine x_getI (q := 115) C 69 rfl rfl fl_RX5_44 (fun _ _ => rfl) (by first | assumption | rfl | decide | omega | exact bL hB _ (by decide)) (by first | assumption | rfl | decide | omega | exact bL hB _ (by decide)) ?_
              rw [h2 22 (by omega), he]
              refine x_icmp_ge (q := 118) (t := 210) C 70 rfl (by decide) rfl (fun c13 => ?_) (fun c13 => ?_)
              · skip
                exact absurd c13 (nI_ge (by omega) (by omega))
              · skip
                refine y_iload1 (q := 119) C 71 rfl rfl ?_
                refine y_iload4 (q := 121) C 72 rfl rfl ?_
                refine x_ishr (q := 122) C 73 rfl rfl ?_
                refine x_iconst (q := 123) C 74 (n := (1)) (v := (1)) rfl rfl rfl ?_
                refine x_iand (q := 124) C 75 rfl rfl ?_
                rw [bt_and k (by omega) M hM4]
                refine x_if_eqB (q := 127) (t := 204) C 76 rfl (by decide) rfl (fun c14 => ?_) (fun c14 => ?_)
                · skip
                  refine y_iinc4 (q := 207) C 118 rfl rfl (nI_1 k) (Nat.le_of_ble_eq_true rfl) rfl ?_
                  refine x_goto (t := 109) C 119 rfl (by decide) ?_
                  exact ihj (k + 1) _ _ _ (by omega) h2 hv2
                · skip
                  refine y_iload4 (q := 129) C 77 rfl rfl ?_
                  refine y_iload2 (q := 130) C 78 rfl rfl ?_
                  refine x_icmp_ne (q := 133) (t := 136) C 79 rfl (by decide) rfl (fun c15 => ?_) (fun c15 => ?_)
                  · skip
                    obtain ⟨b, hb, hb2, hbe⟩ : ∃ b, b < n ∧ bt M b = true ∧ bb = nI b := by
                      rcases hBB with ⟨w, -⟩ | w
                      · subst w; exact absurd (show bt 0 k = true by assumption) (by rw [bt_0]; decide)
                      · exact w
                    subst hbe
                    have hkb : k ≠ b := fun e => absurd (by rw [e]) (show ¬ nI k = nI b by assumption)
                    refine x_iconst (q := 137) C 81 (n := (1)) (v := nI 1) rfl rfl rfl ?_
                    refine y_istore5 (q := 139) C 82 rfl rfl (Nat.le_of_ble_eq_true rfl) rfl ?_
                    refine x_iconst (q := 140) C 83 (n := (0)) (v := nI 0) rfl rfl rfl ?_
                    refine y_istore6 (q := 142) C 84 rfl rfl (Nat.le_of_ble_eq_true rfl) rfl ?_
                    have lp142 : ∀ (ml l c : Nat), l + ml = n → c ≤ 1 + cnt (gB M b k) l → aj_X G 142 [some (.ref 22), some (.int (nI M)), some (.int (nI b)), some (.ref a), some (.int (nI k)), some (.int (nI c)), some (.int (nI l))] [] I2 J V (aj_ur N a (cnt (bt M) 12)) (L ++ [a]) 0 0 := by
                      intro ml
                      induction ml with
                      | zero =>
                        intro l c hl hc
                        refine y_iload6 (q := 144) C 85 rfl rfl ?_
                        refine y_aload0 (q := 145) C 86 rfl rfl ?_
                        refine x_getI (q := 148) C 87 rfl rfl fl_RX5_44 (fun _ _ => rfl) (by first | assumption | rfl | decide | omega | exact bL hB _ (by decide)) (by first | assumption | rfl | decide | omega | exact bL hB _ (by decide)) ?_
                        rw [h2 22 (by omega), he]
                        refine x_icmp_ge (q := 151) (t := 198) C 88 rfl (by decide) rfl (fun c16 => ?_) (fun c16 => ?_)
                        · skip
                          have h12 := cnt_le (bt M) 12
                          have hct : c < cnt (bt M) 12 := by
                            have := gB_lt hb (by omega) hn hb2 (by assumption) hkb
                            rw [show l = n by omega] at hc
                            omega
                          refine y_aload3 (q := 199) C 114 rfl rfl ?_
                          refine y_iload5 (q := 201) C 115 rfl rfl ?_
                          refine y_iload4 (q := 203) C 116 rfl rfl ?_
                          refine x_iast (q := 204) C 117 rfl rfl (by first | assumption | rfl | decide | omega | exact bL hB _ (by decide)) (by first | assumption | rfl | decide | omega | exact bL hB _ (by decide)) (by rw [aj_ur_s]; exact vp_in_nI hct (by have := cnt_le (bt M) 12; omega)) ?_
                          rw [nI_clamp (by omega)]
                          refine y_iinc4 (q := 207) C 118 rfl rfl (nI_1 k) (Nat.le_of_ble_eq_true rfl) rfl ?_
                          refine x_goto (t := 109) C 119 rfl (by decide) ?_
                          exact ihj (k + 1) _ _ _ (by omega) (fun i h => (aj_u_o _ _ h).trans (h2 i h)) (aV.u hv2 (by omega))
                        · skip
                          exact absurd (nI_le (by omega) (by omega)) c16
                      | succ ml ihl =>
                        intro l c hl hc
                        refine y_iload6 (q := 144) C 85 rfl rfl ?_
                        refine y_aload0 (q := 145) C 86 rfl rfl ?_
                        refine x_getI (q := 148) C 87 rfl rfl fl_RX5_44 (fun _ _ => rfl) (by first | assumption | rfl | decide | omega | exact bL hB _ (by decide)) (by first | assumption | rfl | decide | omega | exact bL hB _ (by decide)) ?_
                        rw [h2 22 (by omega), he]
                        refine x_icmp_ge (q := 151) (t := 198) C 88 rfl (by decide) rfl (fun c17 => ?_) (fun c17 => ?_)
                        · skip
                          exact absurd c17 (nI_ge (by omega) (by omega))
                        · skip
                          refine y_iload5 (q := 153) C 89 rfl rfl ?_
                          refine y_iload1 (q := 154) C 90 rfl rfl ?_
                          refine y_iload6 (q := 156) C 91 rfl rfl ?_
                          refine x_ishr (q := 157) C 92 rfl rfl ?_
                          refine x_iconst (q := 158) C 93 (n := (1)) (v := (1)) rfl rfl rfl ?_
                          refine x_iand (q := 159) C 94 rfl rfl ?_
                          rw [bt_and l (by omega) M hM4]
                          refine x_iconst (q := 160) C 95 (n := (1)) (v := (1)) rfl rfl rfl ?_
                          refine x_icmp_ne (q := 163) (t := 185) C 96 rfl (by decide) rfl (fun c18 => ?_) (fun c18 => ?_)
                          · skip
                            refine x_iconst (q := 186) C 108 (n := (0)) (v := (0)) rfl rfl rfl ?_
                            refine y_cS1 (q := 189) C 109 rfl rfl ml_RX5_47 cd_X5_one sv_X5_one (by decide) (by decide) (Nat.le_of_ble_eq_true rfl) (s_X5_one ?_)
                            show aj_X G 189 _ _ _ _ _ _ _ _ _
                            refine x_iadd (q := 190) C 110 rfl rfl ?_
                            rw [show pOne 0 = 0 from rfl, Int32.add_zero]
                            refine y_istore5 (q := 192) C 111 rfl rfl (Nat.le_of_ble_eq_true rfl) rfl ?_
                            refine y_iinc6 (q := 195) C 112 rfl rfl (nI_1 l) (Nat.le_of_ble_eq_true rfl) rfl ?_
                            refine x_goto (t := 142) C 113 rfl (by decide) ?_
                            exact ihl (l + 1) c (by omega) (Nat.le_trans hc (Nat.add_le_add_left cnt_s 1))
                          · skip
                            refine y_iload6 (q := 165) C 97 rfl rfl ?_
                            refine y_iload2 (q := 166) C 98 rfl rfl ?_
                            refine x_icmp_eq (q := 169) (t := 185) C 99 rfl (by decide) rfl (fun c19 => ?_) (fun c19 => ?_)
                            · skip
                              refine x_iconst (q := 186) C 108 (n := (0)) (v := (0)) rfl rfl rfl ?_
                              refine y_cS1 (q := 189) C 109 rfl rfl ml_RX5_47 cd_X5_one sv_X5_one (by decide) (by decide) (Nat.le_of_ble_eq_true rfl) (s_X5_one ?_)
                              show aj_X G 189 _ _ _ _ _ _ _ _ _
                              refine x_iadd (q := 190) C 110 rfl rfl ?_
                              rw [show pOne 0 = 0 from rfl, Int32.add_zero]
                              refine y_istore5 (q := 192) C 111 rfl rfl (Nat.le_of_ble_eq_true rfl) rfl ?_
                              refine y_iinc6 (q := 195) C 112 rfl rfl (nI_1 l) (Nat.le_of_ble_eq_true rfl) rfl ?_
                              refine x_goto (t := 142) C 113 rfl (by decide) ?_
                              exact ihl (l + 1) c (by omega) (Nat.le_trans hc (Nat.add_le_add_left cnt_s 1))
                            · skip
                              refine y_aload0 (q := 170) C 100 rfl rfl ?_
                              refine y_iload2 (q := 171) C 101 rfl rfl ?_
                              refine y_iload6 (q := 173) C 102 rfl rfl ?_
                              refine y_iload4 (q := 175) C 103 rfl rfl ?_
                              refine y_cV3 (q := 178) C 104 rfl rfl ml_RX5_202 cd_X5_turn cv_X5_turn ⟨by decide, rfl⟩ (by first | assumption | rfl | decide | omega | exact bL hB _ (by decide)) (by decide) (by decide) (Nat.le_of_ble_eq_true rfl) (s_X5_turn (by first | assumption | rfl | decide | omega | exact bL hB _ (by decide)) (by first | assumption | rfl | decide | omega | exact bL hB _ (by decide)) (by first | assumption | rfl | decide | omega | exact bL hB _ (by decide)) (by first | assumption | rfl | decide | omega | exact bL hB _ (by decide)) ?_)
                              show aj_X G 178 _ _ _ _ _ _ _ _ _
                              refine x_if_le (q := 181) (t := 185) C 105 rfl (by decide) rfl (fun c20 => ?_) (fun c20 => ?_)
                              · skip
                                refine x_iconst (q := 186) C 108 (n := (0)) (v := (0)) rfl rfl rfl ?_
                                refine y_cS1 (q := 189) C 109 rfl rfl ml_RX5_47 cd_X5_one sv_X5_one (by decide) (by decide) (Nat.le_of_ble_eq_true rfl) (s_X5_one ?_)
                                show aj_X G 189 _ _ _ _ _ _ _ _ _
                                refine x_iadd (q := 190) C 110 rfl rfl ?_
                                rw [show pOne 0 = 0 from rfl, Int32.add_zero]
                                refine y_istore5 (q := 192) C 111 rfl rfl (Nat.le_of_ble_eq_true rfl) rfl ?_
                                refine y_iinc6 (q := 195) C 112 rfl rfl (nI_1 l) (Nat.le_of_ble_eq_true rfl) rfl ?_
                                refine x_goto (t := 142) C 113 rfl (by decide) ?_
                                exact ihl (l + 1) c (by omega) (Nat.le_trans hc (Nat.add_le_add_left cnt_s 1))
                              · skip
                                refine x_iconst (q := 182) C 106 (n := (1)) (v := (1)) rfl rfl rfl ?_
                                refine x_goto (t := 186) C 107 rfl (by decide) ?_
                                refine y_cS1 (q := 189) C 109 rfl rfl ml_RX5_47 cd_X5_one sv_X5_one (by decide) (by decide) (Nat.le_of_ble_eq_true rfl) (s_X5_one ?_)
                                show aj_X G 189 _ _ _ _ _ _ _ _ _
                                refine x_iadd (q := 190) C 110 rfl rfl ?_
                                rw [show pOne 1 = 1 from rfl, nI_1]
                                refine y_istore5 (q := 192) C 111 rfl rfl (Nat.le_of_ble_eq_true rfl) rfl ?_
                                refine y_iinc6 (q := 195) C 112 rfl rfl (nI_1 l) (Nat.le_of_ble_eq_true rfl) rfl ?_
                                refine x_goto (t := 142) C 113 rfl (by decide) ?_
                                have a1 : l ≠ b := fun e => absurd (by rw [e]) (show ¬ nI l = nI b by assumption)
                                have a2 : l ≠ k := fun e => absurd (show mTu I2 b l k ≤ 0 by rw [e, mTu_0]; decide) (by assumption)
                                have a3 : bt M l = true := bI_1.mp (by assumption)
                                have ag : gB M b k l = true := by unfold gB; simp [a1, a2, a3]
                                exact ihl (l + 1) (c + 1) (by omega) (by rw [cnt_t ag]; omega)
                    exact lp142 n 0 1 (by omega) (by omega)
                  · skip
                    refine x_goto (t := 204) C 80 rfl (by decide) ?_
                    refine y_iinc4 (q := 207) C 118 rfl rfl (nI_1 k) (Nat.le_of_ble_eq_true rfl) rfl ?_
                    refine x_goto (t := 109) C 119 rfl (by decide) ?_
                    exact ihj (k + 1) _ _ _ (by omega) h2 hv2
          exact lp109 n 0 _ _ _ (by omega) (fun i h => (aj_u_o _ _ h).trans (h2 i h)) (by rw [hbe]; exact aV.u hv2 (by omega))
      · skip
        exact absurd (nI_le (by omega) (by omega)) c1
    | succ m ih =>
      intro k M bb hk hM2 hBB
      refine y_iload3 (q := 8) C 6 rfl rfl ?_
      refine y_aload0 (q := 9) C 7 rfl rfl ?_
      refine x_getI (q := 12) C 8 rfl rfl fl_RX5_44 (fun _ _ => rfl) (by first | assumption | rfl | decide | omega | exact bL hB _ (by decide)) (by first | assumption | rfl | decide | omega | exact bL hB _ (by decide)) ?_
      rw [he]
      refine x_icmp_ge (q := 15) (t := 91) C 9 rfl (by decide) rfl (fun c21 => ?_) (fun c21 => ?_)
      · skip
        exact absurd c21 (nI_ge (by omega) (by omega))
      · skip
        refine y_aload0 (q := 16) C 10 rfl rfl ?_
        refine y_iload3 (q := 17) C 11 rfl rfl ?_
        refine y_cV1 (q := 20) C 12 rfl rfl ml_RX5_255 cd_X5_isCorner cv_X5_isCorner ⟨by decide, rfl⟩ (by first | assumption | rfl | decide | omega | exact bL hB _ (by decide)) (by decide) (by decide) (Nat.le_of_ble_eq_true rfl) (s_X5_isCorner (by first | assumption | rfl | decide | omega | exact bL hB _ (by decide)) (by first | assumption | rfl | decide | omega | exact bL hB _ (by decide)) (by first | assumption | rfl | decide | omega | exact bL hB _ (by decide)) (by first | assumption | rfl | decide | omega | exact bL hB _ (by decide)) ?_)
        intro b
        show aj_X G 20 _ _ _ _ _ _ _ _ _
        refine x_if_neB (q := 23) (t := 26) C 13 rfl (by decide) rfl (fun c22 => ?_) (fun c22 => ?_)
        · skip
          refine y_iload1 (q := 27) C 15 rfl rfl ?_
          refine x_iconst (q := 28) C 16 (n := (1)) (v := (1)) rfl rfl rfl ?_
          refine y_iload3 (q := 29) C 17 rfl rfl ?_
          refine x_ishl (q := 30) C 18 rfl rfl ?_
          refine x_ior (q := 31) C 19 rfl rfl ?_
          rw [mk_or k (by omega) M hM2]
          refine y_istore1 (q := 32) C 20 rfl rfl (Nat.le_of_ble_eq_true rfl) rfl ?_
          refine y_iload2 (q := 33) C 21 rfl rfl ?_
          refine x_bipush (q := 35) C 22 (n := (-9)) (v := (-9)) rfl rfl rfl ?_
          refine x_icmp_eq (q := 38) (t := 83) C 23 rfl (by decide) rfl (fun c23 => ?_) (fun c23 => ?_)
          · skip
            refine y_iload3 (q := 84) C 51 rfl rfl ?_
            refine y_istore2 (q := 85) C 52 rfl rfl (Nat.le_of_ble_eq_true rfl) rfl ?_
            refine y_iinc3 (q := 88) C 53 rfl rfl (nI_1 k) (Nat.le_of_ble_eq_true rfl) rfl ?_
            refine x_goto (t := 7) C 54 rfl (by decide) ?_
            exact ih (k + 1) (M + 2 ^ k) _ (by omega) (by rw [Nat.pow_succ]; omega) (mB.new hM2)
          · skip
            obtain ⟨b, hb, hb2, hbe⟩ : ∃ b, b < k ∧ bt M b = true ∧ bb = nI b := by
              rcases hBB with ⟨-, w⟩ | w
              · exact absurd w (by assumption)
              · exact w
            subst hbe
            refine y_aload0 (q := 39) C 24 rfl rfl ?_
            refine x_getR (q := 42) C 25 rfl rfl fl_RX5_26 (bv_6_6 hB) (fun _ _ => rfl) (by first | assumption | rfl | decide | omega | exact bL hB _ (by decide)) (by first | assumption | rfl | decide | omega | exact bL hB _ (by decide)) ?_
            refine y_iload3 (q := 43) C 26 rfl rfl ?_
            refine x_iald (q := 44) C 27 rfl rfl (by first | assumption | rfl | decide | omega | exact bL hB _ (by decide)) (by first | assumption | rfl | decide | omega | exact bL hB _ (by decide)) (by (first | rw [bn24 hB] | rw [bn40 hB] | rw [bn56 hB] | rw [bn72 hB] | rw [bn27 hB] | rw [bn43 hB] | rw [bn25 hB] | rw [bn41 hB] | rw [bn88 hB] | rw [bn104 hB] | rw [bn120 hB] | rw [bn136 hB] | rw [bn152 hB] | rw [bn168 hB]); first | assumption | exact vp_in_nI (by omega) (by decide)) ?_
            rw [nI_clamp (by omega)]
            refine y_aload0 (q := 45) C 28 rfl rfl ?_
            refine x_getR (q := 48) C 29 rfl rfl fl_RX5_26 (bv_6_6 hB) (fun _ _ => rfl) (by first | assumption | rfl | decide | omega | exact bL hB _ (by decide)) (by first | assumption | rfl | decide | omega | exact bL hB _ (by decide)) ?_
            refine y_iload2 (q := 49) C 30 rfl rfl ?_
            refine x_iald (q := 50) C 31 rfl rfl (by first | assumption | rfl | decide | omega | exact bL hB _ (by decide)) (by first | assumption | rfl | decide | omega | exact bL hB _ (by decide)) (by (first | rw [bn24 hB] | rw [bn40 hB] | rw [bn56 hB] | rw [bn72 hB] | rw [bn27 hB] | rw [bn43 hB] | rw [bn25 hB] | rw [bn41 hB] | rw [bn88 hB] | rw [bn104 hB] | rw [bn120 hB] | rw [bn136 hB] | rw [bn152 hB] | rw [bn168 hB]); first | assumption | exact vp_in_nI (by omega) (by decide)) ?_
            rw [nI_clamp (by omega)]
            refine x_icmp_lt (q := 53) (t := 83) C 32 rfl (by decide) rfl (fun c24 => ?_) (fun c24 => ?_)
            · skip
              refine y_iload3 (q := 84) C 51 rfl rfl ?_
              refine y_istore2 (q := 85) C 52 rfl rfl (Nat.le_of_ble_eq_true rfl) rfl ?_
              refine y_iinc3 (q := 88) C 53 rfl rfl (nI_1 k) (Nat.le_of_ble_eq_true rfl) rfl ?_
              refine x_goto (t := 7) C 54 rfl (by decide) ?_
              exact ih (k + 1) (M + 2 ^ k) _ (by omega) (by rw [Nat.pow_succ]; omega) (mB.new hM2)
            · skip
              refine y_aload0 (q := 54) C 33 rfl rfl ?_
              refine x_getR (q := 57) C 34 rfl rfl fl_RX5_26 (bv_6_6 hB) (fun _ _ => rfl) (by first | assumption | rfl | decide | omega | exact bL hB _ (by decide)) (by first | assumption | rfl | decide | omega | exact bL hB _ (by decide)) ?_
              refine y_iload3 (q := 58) C 35 rfl rfl ?_
              refine x_iald (q := 59) C 36 rfl rfl (by first | assumption | rfl | decide | omega | exact bL hB _ (by decide)) (by first | assumption | rfl | decide | omega | exact bL hB _ (by decide)) (by (first | rw [bn24 hB] | rw [bn40 hB] | rw [bn56 hB] | rw [bn72 hB] | rw [bn27 hB] | rw [bn43 hB] | rw [bn25 hB] | rw [bn41 hB] | rw [bn88 hB] | rw [bn104 hB] | rw [bn120 hB] | rw [bn136 hB] | rw [bn152 hB] | rw [bn168 hB]); first | assumption | exact vp_in_nI (by omega) (by decide)) ?_
              rw [nI_clamp (by omega)]
              refine y_aload0 (q := 60) C 37 rfl rfl ?_
              refine x_getR (q := 63) C 38 rfl rfl fl_RX5_26 (bv_6_6 hB) (fun _ _ => rfl) (by first | assumption | rfl | decide | omega | exact bL hB _ (by decide)) (by first | assumption | rfl | decide | omega | exact bL hB _ (by decide)) ?_
              refine y_iload2 (q := 64) C 39 rfl rfl ?_
              refine x_iald (q := 65) C 40 rfl rfl (by first | assumption | rfl | decide | omega | exact bL hB _ (by decide)) (by first | assumption | rfl | decide | omega | exact bL hB _ (by decide)) (by (first | rw [bn24 hB] | rw [bn40 hB] | rw [bn56 hB] | rw [bn72 hB] | rw [bn27 hB] | rw [bn43 hB] | rw [bn25 hB] | rw [bn41 hB] | rw [bn88 hB] | rw [bn104 hB] | rw [bn120 hB] | rw [bn136 hB] | rw [bn152 hB] | rw [bn168 hB]); first | assumption | exact vp_in_nI (by omega) (by decide)) ?_
              rw [nI_clamp (by omega)]
              refine x_icmp_ne (q := 68) (t := 85) C 41 rfl (by decide) rfl (fun c25 => ?_) (fun c25 => ?_)
              · skip
                refine y_iinc3 (q := 88) C 53 rfl rfl (nI_1 k) (Nat.le_of_ble_eq_true rfl) rfl ?_
                refine x_goto (t := 7) C 54 rfl (by decide) ?_
                exact ih (k + 1) (M + 2 ^ k) _ (by omega) (by rw [Nat.pow_succ]; omega) (mB.old (by omega) hM2 hb hb2)
              · skip
                refine y_aload0 (q := 69) C 42 rfl rfl ?_
                refine x_getR (q := 72) C 43 rfl rfl fl_RX5_23 (bv_6_5 hB) (fun _ _ => rfl) (by first | assumption | rfl | decide | omega | exact bL hB _ (by decide)) (by first | assumption | rfl | decide | omega | exact bL hB _ (by decide)) ?_
                refine y_iload3 (q := 73) C 44 rfl rfl ?_
                refine x_iald (q := 74) C 45 rfl rfl (by first | assumption | rfl | decide | omega | exact bL hB _ (by decide)) (by first | assumption | rfl | decide | omega | exact bL hB _ (by decide)) (by (first | rw [bn24 hB] | rw [bn40 hB] | rw [bn56 hB] | rw [bn72 hB] | rw [bn27 hB] | rw [bn43 hB] | rw [bn25 hB] | rw [bn41 hB] | rw [bn88 hB] | rw [bn104 hB] | rw [bn120 hB] | rw [bn136 hB] | rw [bn152 hB] | rw [bn168 hB]); first | assumption | exact vp_in_nI (by omega) (by decide)) ?_
                rw [nI_clamp (by omega)]
                refine y_aload0 (q := 75) C 46 rfl rfl ?_
                refine x_getR (q := 78) C 47 rfl rfl fl_RX5_23 (bv_6_5 hB) (fun _ _ => rfl) (by first | assumption | rfl | decide | omega | exact bL hB _ (by decide)) (by first | assumption | rfl | decide | omega | exact bL hB _ (by decide)) ?_
                refine y_iload2 (q := 79) C 48 rfl rfl ?_
                refine x_iald (q := 80) C 49 rfl rfl (by first | assumption | rfl | decide | omega | exact bL hB _ (by decide)) (by first | assumption | rfl | decide | omega | exact bL hB _ (by decide)) (by (first | rw [bn24 hB] | rw [bn40 hB] | rw [bn56 hB] | rw [bn72 hB] | rw [bn27 hB] | rw [bn43 hB] | rw [bn25 hB] | rw [bn41 hB] | rw [bn88 hB] | rw [bn104 hB] | rw [bn120 hB] | rw [bn136 hB] | rw [bn152 hB] | rw [bn168 hB]); first | assumption | exact vp_in_nI (by omega) (by decide)) ?_
                rw [nI_clamp (by omega)]
                refine x_icmp_ge (q := 83) (t := 85) C 50 rfl (by decide) rfl (fun c26 => ?_) (fun c26 => ?_)
                · skip
                  refine y_iinc3 (q := 88) C 53 rfl rfl (nI_1 k) (Nat.le_of_ble_eq_true rfl) rfl ?_
                  refine x_goto (t := 7) C 54 rfl (by decide) ?_
                  exact ih (k + 1) (M + 2 ^ k) _ (by omega) (by rw [Nat.pow_succ]; omega) (mB.old (by omega) hM2 hb hb2)
                · skip
                  refine y_iload3 (q := 84) C 51 rfl rfl ?_
                  refine y_istore2 (q := 85) C 52 rfl rfl (Nat.le_of_ble_eq_true rfl) rfl ?_
                  refine y_iinc3 (q := 88) C 53 rfl rfl (nI_1 k) (Nat.le_of_ble_eq_true rfl) rfl ?_
                  refine x_goto (t := 7) C 54 rfl (by decide) ?_
                  exact ih (k + 1) (M + 2 ^ k) _ (by omega) (by rw [Nat.pow_succ]; omega) (mB.new hM2)
        · skip
          refine x_goto (t := 85) C 14 rfl (by decide) ?_
          refine y_iinc3 (q := 88) C 53 rfl rfl (nI_1 k) (Nat.le_of_ble_eq_true rfl) rfl ?_
          refine x_goto (t := 7) C 54 rfl (by decide) ?_
          exact ih (k + 1) M bb (by omega) (by rw [Nat.pow_succ]; omega) hBB.up
  exact lp7 n 0 0 (-9) (by omega) (by decide) (Or.inl ⟨rfl, rfl⟩)
