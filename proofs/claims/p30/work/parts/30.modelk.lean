set_option maxRecDepth 100000 in
set_option maxHeartbeats 800000 in
theorem s_X5_sortSteps {l : Launch} {I : Nat → Nat → Int32} {J : Nat → Nat → Int64} {V : Nat → Nat → Option Nat} {N : Nat → Nat} {L : List Nat} {K : aj_K} {b : Bool} (hM : mI I) (hO : cOk (cV I)) (hL : ∀ i ∈ sT, i ∉ L) (hT : ∀ i j, ∀ x ∈ sT, V i j ≠ some x) (hB : bV V N L) (hK : ∀ (r : Int32) I1 J1, sI I I1 → (∀ i, i ≠ 41 → i ≠ 57 → J1 i = J i) → (∀ k, k < 8 → (I1 88 (rk b (cV I) k), I1 104 (rk b (cV I) k), I1 120 (rk b (cV I) k)) = cV I k) → r = nI (cnt (soM b (cV I)) 8) → K (.inl (some (.int r))) I1 J1 V (aj_ur (aj_ur (aj_ur (aj_ur (aj_ur N 184 8) 200 8) 216 8) 57 8) 232 8) (L ++ [184] ++ [200] ++ [216] ++ [57] ++ [232])) : aj_M l yX5_sortSteps (aj_wc yX5_sortSteps cX5_sortSteps 10 (some .int)) (aj_rm 4 5 40) [184, 200, 216, 57, 232] [.ref 22, .int (bI b)] I J V N L K := by
  refine aj_intro (tbl := t_X5_sortSteps) (lv0 := [some (.ref 22), some (.int (bI b)), none, none, none, none, none, none, none, none]) (by decide) T_X5_sortSteps (fun i h => by unfold aj_sp; simp only [List.mem_cons, List.not_mem_nil, or_false] at h; omega) (Nat.le_of_ble_eq_true rfl) rfl ?_
  intro G hl C Z NX hnm hGL hGF
  have C : aj_C G cX5_sortSteps t_X5_sortSteps RX5 (aj_rm 4 5 40) 10 := C
  have l1 : 184 ∉ L := hL 184 (by decide)
  have l2 : 200 ∉ L := hL 200 (by decide)
  have l3 : 216 ∉ L := hL 216 (by decide)
  have l4 : 57 ∉ L := hL 57 (by decide)
  have l5 : 232 ∉ L := hL 232 (by decide)
  refine y_aload0 (q := 1) C 0 rfl rfl ?_
  refine x_iconst (q := 2) C 1 (n := (0)) (v := (0)) rfl rfl rfl ?_
  refine x_putI (q := 5) C 2 rfl rfl fl_RX5_32 rfl rfl (by first | assumption | rfl | decide | omega | exact bL hB _ (by decide) | simp) (by first | assumption | rfl | decide | omega | exact bL hB _ (by decide) | simp) ?_
  have hR0 : mR I J (aj_u I 22 0 0) J := mR.t hM
  generalize aj_u I 22 0 0 = I0 at hR0 ⊢
  refine x_bipush (q := 7) C 3 (n := (8)) (v := (8)) rfl rfl rfl ?_
  refine x_newI (q := 9) (bc' := 4) (bs' := 32) C 4 184 (n' := 8) (m := 8) rfl rfl ac_int (by decide) rfl (Nat.le_refl _) (by decide) rfl (by rw [hGF]; decide) (by simp [l1, l2, l3, l4, l5]) (fun i _ j => hT i j _ (by decide)) (aj_no.of rfl) rfl rfl ?_
  refine y_astore2 (q := 10) C 5 rfl rfl (Nat.le_of_ble_eq_true rfl) rfl ?_
  refine x_bipush (q := 12) C 6 (n := (8)) (v := (8)) rfl rfl rfl ?_
  refine x_newI (q := 14) (bc' := 3) (bs' := 24) C 7 200 (n' := 8) (m := 8) rfl rfl ac_int (by decide) rfl (Nat.le_refl _) (by decide) rfl (by rw [hGF]; decide) (by simp [l1, l2, l3, l4, l5]) (fun i _ j => hT i j _ (by decide)) (aj_no.of rfl) rfl rfl ?_
  refine y_astore3 (q := 15) C 8 rfl rfl (Nat.le_of_ble_eq_true rfl) rfl ?_
  refine x_bipush (q := 17) C 9 (n := (8)) (v := (8)) rfl rfl rfl ?_
  refine x_newI (q := 19) (bc' := 2) (bs' := 16) C 10 216 (n' := 8) (m := 8) rfl rfl ac_int (by decide) rfl (Nat.le_refl _) (by decide) rfl (by rw [hGF]; decide) (by simp [l1, l2, l3, l4, l5]) (fun i _ j => hT i j _ (by decide)) (aj_no.of rfl) rfl rfl ?_
  refine y_astore4 (q := 21) C 11 rfl rfl (Nat.le_of_ble_eq_true rfl) rfl ?_
  refine x_bipush (q := 23) C 12 (n := (8)) (v := (8)) rfl rfl rfl ?_
  refine x_newJ (q := 25) (bc' := 1) (bs' := 8) C 13 57 (n' := 8) (m := 8) rfl rfl ac_long (by decide) rfl (Nat.le_refl _) (by decide) rfl (by rw [hGF]; decide) (by simp [l1, l2, l3, l4, l5]) (fun i _ j => hT i j _ (by decide)) (aj_no.of rfl) rfl rfl ?_
  refine y_astore5 (q := 27) C 14 rfl rfl (Nat.le_of_ble_eq_true rfl) rfl ?_
  refine x_bipush (q := 29) C 15 (n := (8)) (v := (8)) rfl rfl rfl ?_
  refine x_newI (q := 31) (bc' := 0) (bs' := 0) C 16 232 (n' := 8) (m := 8) rfl rfl ac_int (by decide) rfl (Nat.le_refl _) (by decide) rfl (by rw [hGF]; decide) (by simp [l1, l2, l3, l4, l5]) (fun i _ j => hT i j _ (by decide)) (aj_no.of rfl) rfl rfl ?_
  refine y_astore6 (q := 33) C 17 rfl rfl (Nat.le_of_ble_eq_true rfl) rfl ?_
  have hB := bV.new (t := 8) (bV.new (t := 8) (bV.new (t := 8) (bV.new (t := 8) (bV.new (t := 8) hB l1) (a := 200) (by simp [l1, l2, l3, l4, l5])) (a := 216) (by simp [l1, l2, l3, l4, l5])) (a := 57) (by simp [l1, l2, l3, l4, l5])) (a := 232) (by simp [l1, l2, l3, l4, l5])
  have hS := sI.z0 hR0.2.1
  have hO0 : cOk (cV I0) := by rw [mR_cV hR0]; exact hO
  have hP : srA I0 (aj_z (aj_z (aj_z (aj_z I0 184 0) 200 0) 216 0) 232 0) b 0 := srA.st
  have hz : ∀ j, 0 ≤ j → aj_z (aj_z (aj_z (aj_z I0 184 0) 200 0) 216 0) 232 0 232 j = nI 0 := fun j _ => rfl
  have hJ : ∀ i, i ≠ 41 → i ≠ 57 → aj_z J 57 0 i = J i := fun i _ h => aj_z_o J 0 h
  generalize aj_z (aj_z (aj_z (aj_z I0 184 0) 200 0) 216 0) 232 0 = I2 at hS hz hP ⊢
  generalize aj_z J 57 0 = J2 at hJ ⊢
  refine x_iconst (q := 34) C 18 (n := (0)) (v := nI 0) rfl rfl rfl ?_
  refine y_istore7 (q := 36) C 19 rfl rfl (Nat.le_of_ble_eq_true rfl) rfl ?_
  have lp36 : ∀ (mj k : Nat) (I2 : Nat → Nat → Int32) (J2 : Nat → Nat → Int64) (z8 z9 : Option Value), k + mj = 8 → srA I0 I2 b k → sI I0 I2 → (∀ i, i ≠ 41 → i ≠ 57 → J2 i = J i) → (∀ j, k ≤ j → I2 232 j = nI 0) → aj_X G 36 [some (.ref 22), some (.int (bI b)), some (.ref 184), some (.ref 200), some (.ref 216), some (.ref 57), some (.ref 232), some (.int (nI k)), z8, z9] [] I2 J2 V (aj_ur (aj_ur (aj_ur (aj_ur (aj_ur N 184 8) 200 8) 216 8) 57 8) 232 8) (L ++ [184] ++ [200] ++ [216] ++ [57] ++ [232]) 0 0 := by
    intro mj
    induction mj with
    | zero =>
      intro k I2 J2 z8 z9 hk hP hS hJ hz
      refine y_iload7 (q := 38) C 20 rfl rfl ?_
      refine x_bipush (q := 40) C 21 (n := (8)) (v := nI 8) rfl rfl rfl ?_
      refine x_icmp_ge (q := 43) (t := 163) C 22 rfl (by decide) rfl (fun c1 => ?_) (fun c1 => ?_)
      · skip
        refine x_iconst (q := 164) C 87 (n := (0)) (v := nI 0) rfl rfl rfl ?_
        refine y_istore7 (q := 166) C 88 rfl rfl (Nat.le_of_ble_eq_true rfl) rfl ?_
        refine x_iconst (q := 167) C 89 (n := (0)) (v := nI 0) rfl rfl rfl ?_
        refine y_istore8 (q := 169) C 90 rfl rfl (Nat.le_of_ble_eq_true rfl) rfl ?_
        have lp169 : ∀ (mi k : Nat) (s : Int32) (I2 : Nat → Nat → Int32) (J2 : Nat → Nat → Int64) (z9 : Option Value), k + mi = 8 → s = nI (cnt (soM b (cV I0)) k) → srB I0 I2 b k → sI I0 I2 → (∀ i, i ≠ 41 → i ≠ 57 → J2 i = J i) → aj_X G 169 [some (.ref 22), some (.int (bI b)), some (.ref 184), some (.ref 200), some (.ref 216), some (.ref 57), some (.ref 232), some (.int s), some (.int (nI k)), z9] [] I2 J2 V (aj_ur (aj_ur (aj_ur (aj_ur (aj_ur N 184 8) 200 8) 216 8) 57 8) 232 8) (L ++ [184] ++ [200] ++ [216] ++ [57] ++ [232]) 0 0 := by
          intro mi
          induction mi with
          | zero =>
            intro k s I2 J2 z9 hk hs hP hS hJ
            refine y_iload8 (q := 171) C 91 rfl rfl ?_
            refine x_bipush (q := 173) C 92 (n := (8)) (v := nI 8) rfl rfl rfl ?_
            refine x_icmp_ge (q := 176) (t := 283) C 93 rfl (by decide) rfl (fun c2 => ?_) (fun c2 => ?_)
            · skip
              refine y_aload0 (q := 284) C 156 rfl rfl ?_
              refine x_getR (q := 287) C 157 rfl rfl fl_RX5_29 (bv_6_10 hB) (fun _ _ => rfl) (by first | assumption | rfl | decide | omega | exact bL hB _ (by decide) | simp) (by first | assumption | rfl | decide | omega | exact bL hB _ (by decide) | simp) ?_
              refine x_iconst (q := 288) C 158 (n := (0)) (v := nI 0) rfl rfl rfl ?_
              refine x_dup2 (q := 289) C 159 rfl rfl ?_
              refine x_iald (q := 290) C 160 rfl rfl (by first | assumption | rfl | decide | omega | exact bL hB _ (by decide) | simp) (by first | assumption | rfl | decide | omega | exact bL hB _ (by decide) | simp) (by (first | rw [bn24 hB] | rw [bn40 hB] | rw [bn56 hB] | rw [bn72 hB] | rw [bn27 hB] | rw [bn43 hB] | rw [bn25 hB] | rw [bn41 hB] | rw [bn88 hB] | rw [bn104 hB] | rw [bn120 hB] | rw [bn136 hB] | rw [bn152 hB] | rw [bn168 hB]); first | assumption | exact vp_in_nI (by omega) (by decide)) ?_
              rw [nI_clamp (by omega)]
              refine x_iconst (q := 291) C 161 (n := (1)) (v := (1)) rfl rfl rfl ?_
              refine x_iadd (q := 292) C 162 rfl rfl ?_
              refine x_iast (q := 293) C 163 rfl rfl (by first | assumption | rfl | decide | omega | exact bL hB _ (by decide) | simp) (by first | assumption | rfl | decide | omega | exact bL hB _ (by decide) | simp) (by (first | rw [bn24 hB] | rw [bn40 hB] | rw [bn56 hB] | rw [bn72 hB] | rw [bn27 hB] | rw [bn43 hB] | rw [bn25 hB] | rw [bn41 hB] | rw [bn88 hB] | rw [bn104 hB] | rw [bn120 hB] | rw [bn136 hB] | rw [bn152 hB] | rw [bn168 hB]); first | assumption | exact vp_in_nI (by omega) (by decide)) ?_
              rw [nI_clamp (by omega)]
              refine y_iload7 (q := 295) C 164 rfl rfl ?_
              exact x_ireturn C Z 165 rfl rfl rfl (hK _ _ _ (sI.of hR0 (sI.h hS)) hJ (srB.fin hR0 (by rw [show k = 8 by omega] at hP; exact hP)) (by rw [hs, show k = 8 by omega, mR_cV hR0]))
            · skip
              exact absurd (nI_le (by omega) (by omega)) c2
          | succ mi ihi =>
            intro k s I2 J2 z9 hk hs hP hS hJ
            refine y_iload8 (q := 171) C 91 rfl rfl ?_
            refine x_bipush (q := 173) C 92 (n := (8)) (v := nI 8) rfl rfl rfl ?_
            refine x_icmp_ge (q := 176) (t := 283) C 93 rfl (by decide) rfl (fun c3 => ?_) (fun c3 => ?_)
            · skip
              exact absurd c3 (nI_ge (by omega) (by omega))
            · skip
              refine y_aload6 (q := 178) C 94 rfl rfl ?_
              refine y_iload8 (q := 180) C 95 rfl rfl ?_
              refine x_iald (q := 181) C 96 rfl rfl (by first | assumption | rfl | decide | omega | exact bL hB _ (by decide) | simp) (by first | assumption | rfl | decide | omega | exact bL hB _ (by decide) | simp) (show vp_in _ 8 from vp_in_nI (by omega) (by decide)) ?_
              rw [nI_clamp (by omega), (hP.1 k (by omega)).2]
              have hrk := rk_lt (b := b) hO0 (show k < 8 by omega)
              refine y_istore9 (q := 183) C 97 rfl rfl (Nat.le_of_ble_eq_true rfl) rfl ?_
              refine y_iload7 (q := 185) C 98 rfl rfl ?_
              refine y_aload2 (q := 186) C 99 rfl rfl ?_
              refine y_iload8 (q := 188) C 100 rfl rfl ?_
              refine x_iald (q := 189) C 101 rfl rfl (by first | assumption | rfl | decide | omega | exact bL hB _ (by decide) | simp) (by first | assumption | rfl | decide | omega | exact bL hB _ (by decide) | simp) (show vp_in _ 8 from vp_in_nI (by omega) (by decide)) ?_
              rw [nI_clamp (by omega)]
              refine y_aload2 (q := 190) C 102 rfl rfl ?_
              refine y_iload9 (q := 192) C 103 rfl rfl ?_
              refine x_iald (q := 193) C 104 rfl rfl (by first | assumption | rfl | decide | omega | exact bL hB _ (by decide) | simp) (by first | assumption | rfl | decide | omega | exact bL hB _ (by decide) | simp) (show vp_in _ 8 from vp_in_nI (by omega) (by decide)) ?_
              rw [nI_clamp (by omega)]
              refine x_icmp_ne (q := 196) (t := 220) C 105 rfl (by decide) rfl (fun c4 => ?_) (fun c4 => ?_)
              · skip
                refine x_iconst (q := 221) C 120 (n := (1)) (v := (1)) rfl rfl rfl ?_
                refine x_goto (t := 225) C 121 rfl (by decide) ?_
                refine y_cS1 (q := 228) C 123 rfl rfl ml_RX5_47 cd_X5_one sv_X5_one (by decide) (by decide) (Nat.le_of_ble_eq_true rfl) (s_X5_one ?_)
                show aj_X G 228 _ _ _ _ _ _ _ _ _
                refine x_iadd (q := 229) C 124 rfl rfl ?_
                refine y_istore7 (q := 231) C 125 rfl rfl (Nat.le_of_ble_eq_true rfl) rfl ?_
                refine y_aload0 (q := 232) C 126 rfl rfl ?_
                refine x_getR (q := 235) C 127 rfl rfl fl_RX5_9 (bv_6_1 hB) (fun _ _ => rfl) (by first | assumption | rfl | decide | omega | exact bL hB _ (by decide) | simp) (by first | assumption | rfl | decide | omega | exact bL hB _ (by decide) | simp) ?_
                refine y_iload9 (q := 237) C 128 rfl rfl ?_
                refine y_aload2 (q := 238) C 129 rfl rfl ?_
                refine y_iload8 (q := 240) C 130 rfl rfl ?_
                refine x_iald (q := 241) C 131 rfl rfl (by first | assumption | rfl | decide | omega | exact bL hB _ (by decide) | simp) (by first | assumption | rfl | decide | omega | exact bL hB _ (by decide) | simp) (show vp_in _ 8 from vp_in_nI (by omega) (by decide)) ?_
                rw [nI_clamp (by omega)]
                refine x_iast (q := 242) C 132 rfl rfl (by first | assumption | rfl | decide | omega | exact bL hB _ (by decide) | simp) (by first | assumption | rfl | decide | omega | exact bL hB _ (by decide) | simp) (by (first | rw [bn24 hB] | rw [bn40 hB] | rw [bn56 hB] | rw [bn72 hB] | rw [bn27 hB] | rw [bn43 hB] | rw [bn25 hB] | rw [bn41 hB] | rw [bn88 hB] | rw [bn104 hB] | rw [bn120 hB] | rw [bn136 hB] | rw [bn152 hB] | rw [bn168 hB]); first | assumption | exact vp_in_nI (by omega) (by decide)) ?_
                rw [nI_clamp (by omega)]
                refine y_aload0 (q := 243) C 133 rfl rfl ?_
                refine x_getR (q := 246) C 134 rfl rfl fl_RX5_13 (bv_6_2 hB) (fun _ _ => rfl) (by first | assumption | rfl | decide | omega | exact bL hB _ (by decide) | simp) (by first | assumption | rfl | decide | omega | exact bL hB _ (by decide) | simp) ?_
                refine y_iload9 (q := 248) C 135 rfl rfl ?_
                refine y_aload3 (q := 249) C 136 rfl rfl ?_
                refine y_iload8 (q := 251) C 137 rfl rfl ?_
                refine x_iald (q := 252) C 138 rfl rfl (by first | assumption | rfl | decide | omega | exact bL hB _ (by decide) | simp) (by first | assumption | rfl | decide | omega | exact bL hB _ (by decide) | simp) (show vp_in _ 8 from vp_in_nI (by omega) (by decide)) ?_
                rw [nI_clamp (by omega)]
                refine x_iast (q := 253) C 139 rfl rfl (by first | assumption | rfl | decide | omega | exact bL hB _ (by decide) | simp) (by first | assumption | rfl | decide | omega | exact bL hB _ (by decide) | simp) (by (first | rw [bn24 hB] | rw [bn40 hB] | rw [bn56 hB] | rw [bn72 hB] | rw [bn27 hB] | rw [bn43 hB] | rw [bn25 hB] | rw [bn41 hB] | rw [bn88 hB] | rw [bn104 hB] | rw [bn120 hB] | rw [bn136 hB] | rw [bn152 hB] | rw [bn168 hB]); first | assumption | exact vp_in_nI (by omega) (by decide)) ?_
                rw [nI_clamp (by omega)]
                refine y_aload0 (q := 254) C 140 rfl rfl ?_
                refine x_getR (q := 257) C 141 rfl rfl fl_RX5_16 (bv_6_3 hB) (fun _ _ => rfl) (by first | assumption | rfl | decide | omega | exact bL hB _ (by decide) | simp) (by first | assumption | rfl | decide | omega | exact bL hB _ (by decide) | simp) ?_
                refine y_iload9 (q := 259) C 142 rfl rfl ?_
                refine y_aload4 (q := 261) C 143 rfl rfl ?_
                refine y_iload8 (q := 263) C 144 rfl rfl ?_
                refine x_iald (q := 264) C 145 rfl rfl (by first | assumption | rfl | decide | omega | exact bL hB _ (by decide) | simp) (by first | assumption | rfl | decide | omega | exact bL hB _ (by decide) | simp) (show vp_in _ 8 from vp_in_nI (by omega) (by decide)) ?_
                rw [nI_clamp (by omega)]
                refine x_iast (q := 265) C 146 rfl rfl (by first | assumption | rfl | decide | omega | exact bL hB _ (by decide) | simp) (by first | assumption | rfl | decide | omega | exact bL hB _ (by decide) | simp) (by (first | rw [bn24 hB] | rw [bn40 hB] | rw [bn56 hB] | rw [bn72 hB] | rw [bn27 hB] | rw [bn43 hB] | rw [bn25 hB] | rw [bn41 hB] | rw [bn88 hB] | rw [bn104 hB] | rw [bn120 hB] | rw [bn136 hB] | rw [bn152 hB] | rw [bn168 hB]); first | assumption | exact vp_in_nI (by omega) (by decide)) ?_
                rw [nI_clamp (by omega)]
                refine y_aload0 (q := 266) C 147 rfl rfl ?_
                refine x_getR (q := 269) C 148 rfl rfl fl_RX5_19 (bv_6_4 hB) (fun _ _ => rfl) (by first | assumption | rfl | decide | omega | exact bL hB _ (by decide) | simp) (by first | assumption | rfl | decide | omega | exact bL hB _ (by decide) | simp) ?_
                refine y_iload9 (q := 271) C 149 rfl rfl ?_
                refine y_aload5 (q := 273) C 150 rfl rfl ?_
                refine y_iload8 (q := 275) C 151 rfl rfl ?_
                refine x_lald (q := 276) C 152 rfl rfl (by first | assumption | rfl | decide | omega | exact bL hB _ (by decide) | simp) (by first | assumption | rfl | decide | omega | exact bL hB _ (by decide) | simp) (show vp_in _ 8 from vp_in_nI (by omega) (by decide)) ?_
                rw [nI_clamp (by omega)]
                refine x_last (q := 277) C 153 rfl rfl (by first | assumption | rfl | decide | omega | exact bL hB _ (by decide) | simp) (by first | assumption | rfl | decide | omega | exact bL hB _ (by decide) | simp) (by (first | rw [bn24 hB] | rw [bn40 hB] | rw [bn56 hB] | rw [bn72 hB] | rw [bn27 hB] | rw [bn43 hB] | rw [bn25 hB] | rw [bn41 hB] | rw [bn88 hB] | rw [bn104 hB] | rw [bn120 hB] | rw [bn136 hB] | rw [bn152 hB] | rw [bn168 hB]); first | assumption | exact vp_in_nI (by omega) (by decide)) ?_
                rw [nI_clamp (by omega)]
                refine y_iinc8 (q := 280) C 154 rfl rfl (nI_1 k) (Nat.le_of_ble_eq_true rfl) rfl ?_
                refine x_goto (t := 169) C 155 rfl (by decide) ?_
                exact ihi (k + 1) _ _ _ _ (by omega) (by rw [hs, show pOne 1 = 1 from rfl]; exact (nI_1 _).trans (congrArg nI (cnt_t (hP.ne (by omega) hrk (Or.inl (by assumption)))).symm)) (hP.up hO0 (by omega)) (hS.m (hS.2.2.2.1 k (by omega)).1 (hS.2.2.2.1 k (by omega)).2) (fun i h1 h2 => (aj_u_o _ _ h1).trans (hJ i h1 h2))
              · skip
                refine y_aload3 (q := 197) C 106 rfl rfl ?_
                refine y_iload8 (q := 199) C 107 rfl rfl ?_
                refine x_iald (q := 200) C 108 rfl rfl (by first | assumption | rfl | decide | omega | exact bL hB _ (by decide) | simp) (by first | assumption | rfl | decide | omega | exact bL hB _ (by decide) | simp) (show vp_in _ 8 from vp_in_nI (by omega) (by decide)) ?_
                rw [nI_clamp (by omega)]
                refine y_aload3 (q := 201) C 109 rfl rfl ?_
                refine y_iload9 (q := 203) C 110 rfl rfl ?_
                refine x_iald (q := 204) C 111 rfl rfl (by first | assumption | rfl | decide | omega | exact bL hB _ (by decide) | simp) (by first | assumption | rfl | decide | omega | exact bL hB _ (by decide) | simp) (show vp_in _ 8 from vp_in_nI (by omega) (by decide)) ?_
                rw [nI_clamp (by omega)]
                refine x_icmp_ne (q := 207) (t := 220) C 112 rfl (by decide) rfl (fun c5 => ?_) (fun c5 => ?_)
                · skip
                  refine x_iconst (q := 221) C 120 (n := (1)) (v := (1)) rfl rfl rfl ?_
                  refine x_goto (t := 225) C 121 rfl (by decide) ?_
                  refine y_cS1 (q := 228) C 123 rfl rfl ml_RX5_47 cd_X5_one sv_X5_one (by decide) (by decide) (Nat.le_of_ble_eq_true rfl) (s_X5_one ?_)
                  show aj_X G 228 _ _ _ _ _ _ _ _ _
                  refine x_iadd (q := 229) C 124 rfl rfl ?_
                  refine y_istore7 (q := 231) C 125 rfl rfl (Nat.le_of_ble_eq_true rfl) rfl ?_
                  refine y_aload0 (q := 232) C 126 rfl rfl ?_
                  refine x_getR (q := 235) C 127 rfl rfl fl_RX5_9 (bv_6_1 hB) (fun _ _ => rfl) (by first | assumption | rfl | decide | omega | exact bL hB _ (by decide) | simp) (by first | assumption | rfl | decide | omega | exact bL hB _ (by decide) | simp) ?_
                  refine y_iload9 (q := 237) C 128 rfl rfl ?_
                  refine y_aload2 (q := 238) C 129 rfl rfl ?_
                  refine y_iload8 (q := 240) C 130 rfl rfl ?_
                  refine x_iald (q := 241) C 131 rfl rfl (by first | assumption | rfl | decide | omega | exact bL hB _ (by decide) | simp) (by first | assumption | rfl | decide | omega | exact bL hB _ (by decide) | simp) (show vp_in _ 8 from vp_in_nI (by omega) (by decide)) ?_
                  rw [nI_clamp (by omega)]
                  refine x_iast (q := 242) C 132 rfl rfl (by first | assumption | rfl | decide | omega | exact bL hB _ (by decide) | simp) (by first | assumption | rfl | decide | omega | exact bL hB _ (by decide) | simp) (by (first | rw [bn24 hB] | rw [bn40 hB] | rw [bn56 hB] | rw [bn72 hB] | rw [bn27 hB] | rw [bn43 hB] | rw [bn25 hB] | rw [bn41 hB] | rw [bn88 hB] | rw [bn104 hB] | rw [bn120 hB] | rw [bn136 hB] | rw [bn152 hB] | rw [bn168 hB]); first | assumption | exact vp_in_nI (by omega) (by decide)) ?_
                  rw [nI_clamp (by omega)]
                  refine y_aload0 (q := 243) C 133 rfl rfl ?_
                  refine x_getR (q := 246) C 134 rfl rfl fl_RX5_13 (bv_6_2 hB) (fun _ _ => rfl) (by first | assumption | rfl | decide | omega | exact bL hB _ (by decide) | simp) (by first | assumption | rfl | decide | omega | exact bL hB _ (by decide) | simp) ?_
                  refine y_iload9 (q := 248) C 135 rfl rfl ?_
                  refine y_aload3 (q := 249) C 136 rfl rfl ?_
                  refine y_iload8 (q := 251) C 137 rfl rfl ?_
                  refine x_iald (q := 252) C 138 rfl rfl (by first | assumption | rfl | decide | omega | exact bL hB _ (by decide) | simp) (by first | assumption | rfl | decide | omega | exact bL hB _ (by decide) | simp) (show vp_in _ 8 from vp_in_nI (by omega) (by decide)) ?_
                  rw [nI_clamp (by omega)]
                  refine x_iast (q := 253) C 139 rfl rfl (by first | assumption | rfl | decide | omega | exact bL hB _ (by decide) | simp) (by first | assumption | rfl | decide | omega | exact bL hB _ (by decide) | simp) (by (first | rw [bn24 hB] | rw [bn40 hB] | rw [bn56 hB] | rw [bn72 hB] | rw [bn27 hB] | rw [bn43 hB] | rw [bn25 hB] | rw [bn41 hB] | rw [bn88 hB] | rw [bn104 hB] | rw [bn120 hB] | rw [bn136 hB] | rw [bn152 hB] | rw [bn168 hB]); first | assumption | exact vp_in_nI (by omega) (by decide)) ?_
                  rw [nI_clamp (by omega)]
                  refine y_aload0 (q := 254) C 140 rfl rfl ?_
                  refine x_getR (q := 257) C 141 rfl rfl fl_RX5_16 (bv_6_3 hB) (fun _ _ => rfl) (by first | assumption | rfl | decide | omega | exact bL hB _ (by decide) | simp) (by first | assumption | rfl | decide | omega | exact bL hB _ (by decide) | simp) ?_
                  refine y_iload9 (q := 259) C 142 rfl rfl ?_
                  refine y_aload4 (q := 261) C 143 rfl rfl ?_
                  refine y_iload8 (q := 263) C 144 rfl rfl ?_
                  refine x_iald (q := 264) C 145 rfl rfl (by first | assumption | rfl | decide | omega | exact bL hB _ (by decide) | simp) (by first | assumption | rfl | decide | omega | exact bL hB _ (by decide) | simp) (show vp_in _ 8 from vp_in_nI (by omega) (by decide)) ?_
                  rw [nI_clamp (by omega)]
                  refine x_iast (q := 265) C 146 rfl rfl (by first | assumption | rfl | decide | omega | exact bL hB _ (by decide) | simp) (by first | assumption | rfl | decide | omega | exact bL hB _ (by decide) | simp) (by (first | rw [bn24 hB] | rw [bn40 hB] | rw [bn56 hB] | rw [bn72 hB] | rw [bn27 hB] | rw [bn43 hB] | rw [bn25 hB] | rw [bn41 hB] | rw [bn88 hB] | rw [bn104 hB] | rw [bn120 hB] | rw [bn136 hB] | rw [bn152 hB] | rw [bn168 hB]); first | assumption | exact vp_in_nI (by omega) (by decide)) ?_
                  rw [nI_clamp (by omega)]
                  refine y_aload0 (q := 266) C 147 rfl rfl ?_
                  refine x_getR (q := 269) C 148 rfl rfl fl_RX5_19 (bv_6_4 hB) (fun _ _ => rfl) (by first | assumption | rfl | decide | omega | exact bL hB _ (by decide) | simp) (by first | assumption | rfl | decide | omega | exact bL hB _ (by decide) | simp) ?_
                  refine y_iload9 (q := 271) C 149 rfl rfl ?_
                  refine y_aload5 (q := 273) C 150 rfl rfl ?_
                  refine y_iload8 (q := 275) C 151 rfl rfl ?_
                  refine x_lald (q := 276) C 152 rfl rfl (by first | assumption | rfl | decide | omega | exact bL hB _ (by decide) | simp) (by first | assumption | rfl | decide | omega | exact bL hB _ (by decide) | simp) (show vp_in _ 8 from vp_in_nI (by omega) (by decide)) ?_
                  rw [nI_clamp (by omega)]
                  refine x_last (q := 277) C 153 rfl rfl (by first | assumption | rfl | decide | omega | exact bL hB _ (by decide) | simp) (by first | assumption | rfl | decide | omega | exact bL hB _ (by decide) | simp) (by (first | rw [bn24 hB] | rw [bn40 hB] | rw [bn56 hB] | rw [bn72 hB] | rw [bn27 hB] | rw [bn43 hB] | rw [bn25 hB] | rw [bn41 hB] | rw [bn88 hB] | rw [bn104 hB] | rw [bn120 hB] | rw [bn136 hB] | rw [bn152 hB] | rw [bn168 hB]); first | assumption | exact vp_in_nI (by omega) (by decide)) ?_
                  rw [nI_clamp (by omega)]
                  refine y_iinc8 (q := 280) C 154 rfl rfl (nI_1 k) (Nat.le_of_ble_eq_true rfl) rfl ?_
                  refine x_goto (t := 169) C 155 rfl (by decide) ?_
                  exact ihi (k + 1) _ _ _ _ (by omega) (by rw [hs, show pOne 1 = 1 from rfl]; exact (nI_1 _).trans (congrArg nI (cnt_t (hP.ne (by omega) hrk (Or.inr (Or.inl (by assumption))))).symm)) (hP.up hO0 (by omega)) (hS.m (hS.2.2.2.1 k (by omega)).1 (hS.2.2.2.1 k (by omega)).2) (fun i h1 h2 => (aj_u_o _ _ h1).trans (hJ i h1 h2))
                · skip
                  refine y_aload4 (q := 209) C 113 rfl rfl ?_
                  refine y_iload8 (q := 211) C 114 rfl rfl ?_
                  refine x_iald (q := 212) C 115 rfl rfl (by first | assumption | rfl | decide | omega | exact bL hB _ (by decide) | simp) (by first | assumption | rfl | decide | omega | exact bL hB _ (by decide) | simp) (show vp_in _ 8 from vp_in_nI (by omega) (by decide)) ?_
                  rw [nI_clamp (by omega)]
                  refine y_aload4 (q := 214) C 116 rfl rfl ?_
                  refine y_iload9 (q := 216) C 117 rfl rfl ?_
                  refine x_iald (q := 217) C 118 rfl rfl (by first | assumption | rfl | decide | omega | exact bL hB _ (by decide) | simp) (by first | assumption | rfl | decide | omega | exact bL hB _ (by decide) | simp) (show vp_in _ 8 from vp_in_nI (by omega) (by decide)) ?_
                  rw [nI_clamp (by omega)]
                  refine x_icmp_eq (q := 220) (t := 224) C 119 rfl (by decide) rfl (fun c6 => ?_) (fun c6 => ?_)
                  · skip
                    refine x_iconst (q := 225) C 122 (n := (0)) (v := (0)) rfl rfl rfl ?_
                    refine y_cS1 (q := 228) C 123 rfl rfl ml_RX5_47 cd_X5_one sv_X5_one (by decide) (by decide) (Nat.le_of_ble_eq_true rfl) (s_X5_one ?_)
                    show aj_X G 228 _ _ _ _ _ _ _ _ _
                    refine x_iadd (q := 229) C 124 rfl rfl ?_
                    refine y_istore7 (q := 231) C 125 rfl rfl (Nat.le_of_ble_eq_true rfl) rfl ?_
                    refine y_aload0 (q := 232) C 126 rfl rfl ?_
                    refine x_getR (q := 235) C 127 rfl rfl fl_RX5_9 (bv_6_1 hB) (fun _ _ => rfl) (by first | assumption | rfl | decide | omega | exact bL hB _ (by decide) | simp) (by first | assumption | rfl | decide | omega | exact bL hB _ (by decide) | simp) ?_
                    refine y_iload9 (q := 237) C 128 rfl rfl ?_
                    refine y_aload2 (q := 238) C 129 rfl rfl ?_
                    refine y_iload8 (q := 240) C 130 rfl rfl ?_
                    refine x_iald (q := 241) C 131 rfl rfl (by first | assumption | rfl | decide | omega | exact bL hB _ (by decide) | simp) (by first | assumption | rfl | decide | omega | exact bL hB _ (by decide) | simp) (show vp_in _ 8 from vp_in_nI (by omega) (by decide)) ?_
                    rw [nI_clamp (by omega)]
                    refine x_iast (q := 242) C 132 rfl rfl (by first | assumption | rfl | decide | omega | exact bL hB _ (by decide) | simp) (by first | assumption | rfl | decide | omega | exact bL hB _ (by decide) | simp) (by (first | rw [bn24 hB] | rw [bn40 hB] | rw [bn56 hB] | rw [bn72 hB] | rw [bn27 hB] | rw [bn43 hB] | rw [bn25 hB] | rw [bn41 hB] | rw [bn88 hB] | rw [bn104 hB] | rw [bn120 hB] | rw [bn136 hB] | rw [bn152 hB] | rw [bn168 hB]); first | assumption | exact vp_in_nI (by omega) (by decide)) ?_
                    rw [nI_clamp (by omega)]
                    refine y_aload0 (q := 243) C 133 rfl rfl ?_
                    refine x_getR (q := 246) C 134 rfl rfl fl_RX5_13 (bv_6_2 hB) (fun _ _ => rfl) (by first | assumption | rfl | decide | omega | exact bL hB _ (by decide) | simp) (by first | assumption | rfl | decide | omega | exact bL hB _ (by decide) | simp) ?_
                    refine y_iload9 (q := 248) C 135 rfl rfl ?_
                    refine y_aload3 (q := 249) C 136 rfl rfl ?_
                    refine y_iload8 (q := 251) C 137 rfl rfl ?_
                    refine x_iald (q := 252) C 138 rfl rfl (by first | assumption | rfl | decide | omega | exact bL hB _ (by decide) | simp) (by first | assumption | rfl | decide | omega | exact bL hB _ (by decide) | simp) (show vp_in _ 8 from vp_in_nI (by omega) (by decide)) ?_
                    rw [nI_clamp (by omega)]
                    refine x_iast (q := 253) C 139 rfl rfl (by first | assumption | rfl | decide | omega | exact bL hB _ (by decide) | simp) (by first | assumption | rfl | decide | omega | exact bL hB _ (by decide) | simp) (by (first | rw [bn24 hB] | rw [bn40 hB] | rw [bn56 hB] | rw [bn72 hB] | rw [bn27 hB] | rw [bn43 hB] | rw [bn25 hB] | rw [bn41 hB] | rw [bn88 hB] | rw [bn104 hB] | rw [bn120 hB] | rw [bn136 hB] | rw [bn152 hB] | rw [bn168 hB]); first | assumption | exact vp_in_nI (by omega) (by decide)) ?_
                    rw [nI_clamp (by omega)]
                    refine y_aload0 (q := 254) C 140 rfl rfl ?_
                    refine x_getR (q := 257) C 141 rfl rfl fl_RX5_16 (bv_6_3 hB) (fun _ _ => rfl) (by first | assumption | rfl | decide | omega | exact bL hB _ (by decide) | simp) (by first | assumption | rfl | decide | omega | exact bL hB _ (by decide) | simp) ?_
                    refine y_iload9 (q := 259) C 142 rfl rfl ?_
                    refine y_aload4 (q := 261) C 143 rfl rfl ?_
                    refine y_iload8 (q := 263) C 144 rfl rfl ?_
                    refine x_iald (q := 264) C 145 rfl rfl (by first | assumption | rfl | decide | omega | exact bL hB _ (by decide) | simp) (by first | assumption | rfl | decide | omega | exact bL hB _ (by decide) | simp) (show vp_in _ 8 from vp_in_nI (by omega) (by decide)) ?_
                    rw [nI_clamp (by omega)]
                    refine x_iast (q := 265) C 146 rfl rfl (by first | assumption | rfl | decide | omega | exact bL hB _ (by decide) | simp) (by first | assumption | rfl | decide | omega | exact bL hB _ (by decide) | simp) (by (first | rw [bn24 hB] | rw [bn40 hB] | rw [bn56 hB] | rw [bn72 hB] | rw [bn27 hB] | rw [bn43 hB] | rw [bn25 hB] | rw [bn41 hB] | rw [bn88 hB] | rw [bn104 hB] | rw [bn120 hB] | rw [bn136 hB] | rw [bn152 hB] | rw [bn168 hB]); first | assumption | exact vp_in_nI (by omega) (by decide)) ?_
                    rw [nI_clamp (by omega)]
                    refine y_aload0 (q := 266) C 147 rfl rfl ?_
                    refine x_getR (q := 269) C 148 rfl rfl fl_RX5_19 (bv_6_4 hB) (fun _ _ => rfl) (by first | assumption | rfl | decide | omega | exact bL hB _ (by decide) | simp) (by first | assumption | rfl | decide | omega | exact bL hB _ (by decide) | simp) ?_
                    refine y_iload9 (q := 271) C 149 rfl rfl ?_
                    refine y_aload5 (q := 273) C 150 rfl rfl ?_
                    refine y_iload8 (q := 275) C 151 rfl rfl ?_
                    refine x_lald (q := 276) C 152 rfl rfl (by first | assumption | rfl | decide | omega | exact bL hB _ (by decide) | simp) (by first | assumption | rfl | decide | omega | exact bL hB _ (by decide) | simp) (show vp_in _ 8 from vp_in_nI (by omega) (by decide)) ?_
                    rw [nI_clamp (by omega)]
                    refine x_last (q := 277) C 153 rfl rfl (by first | assumption | rfl | decide | omega | exact bL hB _ (by decide) | simp) (by first | assumption | rfl | decide | omega | exact bL hB _ (by decide) | simp) (by (first | rw [bn24 hB] | rw [bn40 hB] | rw [bn56 hB] | rw [bn72 hB] | rw [bn27 hB] | rw [bn43 hB] | rw [bn25 hB] | rw [bn41 hB] | rw [bn88 hB] | rw [bn104 hB] | rw [bn120 hB] | rw [bn136 hB] | rw [bn152 hB] | rw [bn168 hB]); first | assumption | exact vp_in_nI (by omega) (by decide)) ?_
                    rw [nI_clamp (by omega)]
                    refine y_iinc8 (q := 280) C 154 rfl rfl (nI_1 k) (Nat.le_of_ble_eq_true rfl) rfl ?_
                    refine x_goto (t := 169) C 155 rfl (by decide) ?_
                    exact ihi (k + 1) _ _ _ _ (by omega) (by rw [hs, show pOne 0 = 0 from rfl, Int32.add_zero]; exact congrArg nI (cnt_f (hP.eq (by omega) hrk (by assumption) (by assumption) (by assumption))).symm) (hP.up hO0 (by omega)) (hS.m (hS.2.2.2.1 k (by omega)).1 (hS.2.2.2.1 k (by omega)).2) (fun i h1 h2 => (aj_u_o _ _ h1).trans (hJ i h1 h2))
                  · skip
                    refine x_iconst (q := 221) C 120 (n := (1)) (v := (1)) rfl rfl rfl ?_
                    refine x_goto (t := 225) C 121 rfl (by decide) ?_
                    refine y_cS1 (q := 228) C 123 rfl rfl ml_RX5_47 cd_X5_one sv_X5_one (by decide) (by decide) (Nat.le_of_ble_eq_true rfl) (s_X5_one ?_)
                    show aj_X G 228 _ _ _ _ _ _ _ _ _
                    refine x_iadd (q := 229) C 124 rfl rfl ?_
                    refine y_istore7 (q := 231) C 125 rfl rfl (Nat.le_of_ble_eq_true rfl) rfl ?_
                    refine y_aload0 (q := 232) C 126 rfl rfl ?_
                    refine x_getR (q := 235) C 127 rfl rfl fl_RX5_9 (bv_6_1 hB) (fun _ _ => rfl) (by first | assumption | rfl | decide | omega | exact bL hB _ (by decide) | simp) (by first | assumption | rfl | decide | omega | exact bL hB _ (by decide) | simp) ?_
                    refine y_iload9 (q := 237) C 128 rfl rfl ?_
                    refine y_aload2 (q := 238) C 129 rfl rfl ?_
                    refine y_iload8 (q := 240) C 130 rfl rfl ?_
                    refine x_iald (q := 241) C 131 rfl rfl (by first | assumption | rfl | decide | omega | exact bL hB _ (by decide) | simp) (by first | assumption | rfl | decide | omega | exact bL hB _ (by decide) | simp) (show vp_in _ 8 from vp_in_nI (by omega) (by decide)) ?_
                    rw [nI_clamp (by omega)]
                    refine x_iast (q := 242) C 132 rfl rfl (by first | assumption | rfl | decide | omega | exact bL hB _ (by decide) | simp) (by first | assumption | rfl | decide | omega | exact bL hB _ (by decide) | simp) (by (first | rw [bn24 hB] | rw [bn40 hB] | rw [bn56 hB] | rw [bn72 hB] | rw [bn27 hB] | rw [bn43 hB] | rw [bn25 hB] | rw [bn41 hB] | rw [bn88 hB] | rw [bn104 hB] | rw [bn120 hB] | rw [bn136 hB] | rw [bn152 hB] | rw [bn168 hB]); first | assumption | exact vp_in_nI (by omega) (by decide)) ?_
                    rw [nI_clamp (by omega)]
                    refine y_aload0 (q := 243) C 133 rfl rfl ?_
                    refine x_getR (q := 246) C 134 rfl rfl fl_RX5_13 (bv_6_2 hB) (fun _ _ => rfl) (by first | assumption | rfl | decide | omega | exact bL hB _ (by decide) | simp) (by first | assumption | rfl | decide | omega | exact bL hB _ (by decide) | simp) ?_
                    refine y_iload9 (q := 248) C 135 rfl rfl ?_
                    refine y_aload3 (q := 249) C 136 rfl rfl ?_
                    refine y_iload8 (q := 251) C 137 rfl rfl ?_
                    refine x_iald (q := 252) C 138 rfl rfl (by first | assumption | rfl | decide | omega | exact bL hB _ (by decide) | simp) (by first | assumption | rfl | decide | omega | exact bL hB _ (by decide) | simp) (show vp_in _ 8 from vp_in_nI (by omega) (by decide)) ?_
                    rw [nI_clamp (by omega)]
                    refine x_iast (q := 253) C 139 rfl rfl (by first | assumption | rfl | decide | omega | exact bL hB _ (by decide) | simp) (by first | assumption | rfl | decide | omega | exact bL hB _ (by decide) | simp) (by (first | rw [bn24 hB] | rw [bn40 hB] | rw [bn56 hB] | rw [bn72 hB] | rw [bn27 hB] | rw [bn43 hB] | rw [bn25 hB] | rw [bn41 hB] | rw [bn88 hB] | rw [bn104 hB] | rw [bn120 hB] | rw [bn136 hB] | rw [bn152 hB] | rw [bn168 hB]); first | assumption | exact vp_in_nI (by omega) (by decide)) ?_
                    rw [nI_clamp (by omega)]
                    refine y_aload0 (q := 254) C 140 rfl rfl ?_
                    refine x_getR (q := 257) C 141 rfl rfl fl_RX5_16 (bv_6_3 hB) (fun _ _ => rfl) (by first | assumption | rfl | decide | omega | exact bL hB _ (by decide) | simp) (by first | assumption | rfl | decide | omega | exact bL hB _ (by decide) | simp) ?_
                    refine y_iload9 (q := 259) C 142 rfl rfl ?_
                    refine y_aload4 (q := 261) C 143 rfl rfl ?_
                    refine y_iload8 (q := 263) C 144 rfl rfl ?_
                    refine x_iald (q := 264) C 145 rfl rfl (by first | assumption | rfl | decide | omega | exact bL hB _ (by decide) | simp) (by first | assumption | rfl | decide | omega | exact bL hB _ (by decide) | simp) (show vp_in _ 8 from vp_in_nI (by omega) (by decide)) ?_
                    rw [nI_clamp (by omega)]
                    refine x_iast (q := 265) C 146 rfl rfl (by first | assumption | rfl | decide | omega | exact bL hB _ (by decide) | simp) (by first | assumption | rfl | decide | omega | exact bL hB _ (by decide) | simp) (by (first | rw [bn24 hB] | rw [bn40 hB] | rw [bn56 hB] | rw [bn72 hB] | rw [bn27 hB] | rw [bn43 hB] | rw [bn25 hB] | rw [bn41 hB] | rw [bn88 hB] | rw [bn104 hB] | rw [bn120 hB] | rw [bn136 hB] | rw [bn152 hB] | rw [bn168 hB]); first | assumption | exact vp_in_nI (by omega) (by decide)) ?_
                    rw [nI_clamp (by omega)]
                    refine y_aload0 (q := 266) C 147 rfl rfl ?_
                    refine x_getR (q := 269) C 148 rfl rfl fl_RX5_19 (bv_6_4 hB) (fun _ _ => rfl) (by first | assumption | rfl | decide | omega | exact bL hB _ (by decide) | simp) (by first | assumption | rfl | decide | omega | exact bL hB _ (by decide) | simp) ?_
                    refine y_iload9 (q := 271) C 149 rfl rfl ?_
                    refine y_aload5 (q := 273) C 150 rfl rfl ?_
                    refine y_iload8 (q := 275) C 151 rfl rfl ?_
                    refine x_lald (q := 276) C 152 rfl rfl (by first | assumption | rfl | decide | omega | exact bL hB _ (by decide) | simp) (by first | assumption | rfl | decide | omega | exact bL hB _ (by decide) | simp) (show vp_in _ 8 from vp_in_nI (by omega) (by decide)) ?_
                    rw [nI_clamp (by omega)]
                    refine x_last (q := 277) C 153 rfl rfl (by first | assumption | rfl | decide | omega | exact bL hB _ (by decide) | simp) (by first | assumption | rfl | decide | omega | exact bL hB _ (by decide) | simp) (by (first | rw [bn24 hB] | rw [bn40 hB] | rw [bn56 hB] | rw [bn72 hB] | rw [bn27 hB] | rw [bn43 hB] | rw [bn25 hB] | rw [bn41 hB] | rw [bn88 hB] | rw [bn104 hB] | rw [bn120 hB] | rw [bn136 hB] | rw [bn152 hB] | rw [bn168 hB]); first | assumption | exact vp_in_nI (by omega) (by decide)) ?_
                    rw [nI_clamp (by omega)]
                    refine y_iinc8 (q := 280) C 154 rfl rfl (nI_1 k) (Nat.le_of_ble_eq_true rfl) rfl ?_
                    refine x_goto (t := 169) C 155 rfl (by decide) ?_
                    exact ihi (k + 1) _ _ _ _ (by omega) (by rw [hs, show pOne 1 = 1 from rfl]; exact (nI_1 _).trans (congrArg nI (cnt_t (hP.ne (by omega) hrk (Or.inr (Or.inr (by assumption))))).symm)) (hP.up hO0 (by omega)) (hS.m (hS.2.2.2.1 k (by omega)).1 (hS.2.2.2.1 k (by omega)).2) (fun i h1 h2 => (aj_u_o _ _ h1).trans (hJ i h1 h2))
        exact lp169 8 0 _ _ _ _ (by omega) rfl (srA.bb (by rw [show k = 8 by omega] at hP; exact hP)) hS hJ
      · skip
        exact absurd (nI_le (by omega) (by omega)) c1
    | succ mj ihj =>
      intro k I2 J2 z8 z9 hk hP hS hJ hz
      refine y_iload7 (q := 38) C 20 rfl rfl ?_
      refine x_bipush (q := 40) C 21 (n := (8)) (v := nI 8) rfl rfl rfl ?_
      refine x_icmp_ge (q := 43) (t := 163) C 22 rfl (by decide) rfl (fun c7 => ?_) (fun c7 => ?_)
      · skip
        exact absurd c7 (nI_ge (by omega) (by omega))
      · skip
        refine y_aload2 (q := 44) C 23 rfl rfl ?_
        refine y_iload7 (q := 46) C 24 rfl rfl ?_
        refine y_aload0 (q := 47) C 25 rfl rfl ?_
        refine x_getR (q := 50) C 26 rfl rfl fl_RX5_9 (bv_6_1 hB) (fun _ _ => rfl) (by first | assumption | rfl | decide | omega | exact bL hB _ (by decide) | simp) (by first | assumption | rfl | decide | omega | exact bL hB _ (by decide) | simp) ?_
        refine y_iload7 (q := 52) C 27 rfl rfl ?_
        refine x_iald (q := 53) C 28 rfl rfl (by first | assumption | rfl | decide | omega | exact bL hB _ (by decide) | simp) (by first | assumption | rfl | decide | omega | exact bL hB _ (by decide) | simp) (by (first | rw [bn24 hB] | rw [bn40 hB] | rw [bn56 hB] | rw [bn72 hB] | rw [bn27 hB] | rw [bn43 hB] | rw [bn25 hB] | rw [bn41 hB] | rw [bn88 hB] | rw [bn104 hB] | rw [bn120 hB] | rw [bn136 hB] | rw [bn152 hB] | rw [bn168 hB]); first | assumption | exact vp_in_nI (by omega) (by decide)) ?_
        rw [nI_clamp (by omega)]
        refine x_iast (q := 54) C 29 rfl rfl (by first | assumption | rfl | decide | omega | exact bL hB _ (by decide) | simp) (by first | assumption | rfl | decide | omega | exact bL hB _ (by decide) | simp) (show vp_in _ 8 from vp_in_nI (by omega) (by decide)) ?_
        rw [nI_clamp (by omega)]
        refine y_aload3 (q := 55) C 30 rfl rfl ?_
        refine y_iload7 (q := 57) C 31 rfl rfl ?_
        refine y_aload0 (q := 58) C 32 rfl rfl ?_
        refine x_getR (q := 61) C 33 rfl rfl fl_RX5_13 (bv_6_2 hB) (fun _ _ => rfl) (by first | assumption | rfl | decide | omega | exact bL hB _ (by decide) | simp) (by first | assumption | rfl | decide | omega | exact bL hB _ (by decide) | simp) ?_
        refine y_iload7 (q := 63) C 34 rfl rfl ?_
        refine x_iald (q := 64) C 35 rfl rfl (by first | assumption | rfl | decide | omega | exact bL hB _ (by decide) | simp) (by first | assumption | rfl | decide | omega | exact bL hB _ (by decide) | simp) (by (first | rw [bn24 hB] | rw [bn40 hB] | rw [bn56 hB] | rw [bn72 hB] | rw [bn27 hB] | rw [bn43 hB] | rw [bn25 hB] | rw [bn41 hB] | rw [bn88 hB] | rw [bn104 hB] | rw [bn120 hB] | rw [bn136 hB] | rw [bn152 hB] | rw [bn168 hB]); first | assumption | exact vp_in_nI (by omega) (by decide)) ?_
        rw [nI_clamp (by omega)]
        refine x_iast (q := 65) C 36 rfl rfl (by first | assumption | rfl | decide | omega | exact bL hB _ (by decide) | simp) (by first | assumption | rfl | decide | omega | exact bL hB _ (by decide) | simp) (show vp_in _ 8 from vp_in_nI (by omega) (by decide)) ?_
        rw [nI_clamp (by omega)]
        refine y_aload4 (q := 67) C 37 rfl rfl ?_
        refine y_iload7 (q := 69) C 38 rfl rfl ?_
        refine y_aload0 (q := 70) C 39 rfl rfl ?_
        refine x_getR (q := 73) C 40 rfl rfl fl_RX5_16 (bv_6_3 hB) (fun _ _ => rfl) (by first | assumption | rfl | decide | omega | exact bL hB _ (by decide) | simp) (by first | assumption | rfl | decide | omega | exact bL hB _ (by decide) | simp) ?_
        refine y_iload7 (q := 75) C 41 rfl rfl ?_
        refine x_iald (q := 76) C 42 rfl rfl (by first | assumption | rfl | decide | omega | exact bL hB _ (by decide) | simp) (by first | assumption | rfl | decide | omega | exact bL hB _ (by decide) | simp) (by (first | rw [bn24 hB] | rw [bn40 hB] | rw [bn56 hB] | rw [bn72 hB] | rw [bn27 hB] | rw [bn43 hB] | rw [bn25 hB] | rw [bn41 hB] | rw [bn88 hB] | rw [bn104 hB] | rw [bn120 hB] | rw [bn136 hB] | rw [bn152 hB] | rw [bn168 hB]); first | assumption | exact vp_in_nI (by omega) (by decide)) ?_
        rw [nI_clamp (by omega)]
        refine x_iast (q := 77) C 43 rfl rfl (by first | assumption | rfl | decide | omega | exact bL hB _ (by decide) | simp) (by first | assumption | rfl | decide | omega | exact bL hB _ (by decide) | simp) (show vp_in _ 8 from vp_in_nI (by omega) (by decide)) ?_
        rw [nI_clamp (by omega)]
        refine y_aload5 (q := 79) C 44 rfl rfl ?_
        refine y_iload7 (q := 81) C 45 rfl rfl ?_
        refine y_aload0 (q := 82) C 46 rfl rfl ?_
        refine x_getR (q := 85) C 47 rfl rfl fl_RX5_19 (bv_6_4 hB) (fun _ _ => rfl) (by first | assumption | rfl | decide | omega | exact bL hB _ (by decide) | simp) (by first | assumption | rfl | decide | omega | exact bL hB _ (by decide) | simp) ?_
        refine y_iload7 (q := 87) C 48 rfl rfl ?_
        refine x_lald (q := 88) C 49 rfl rfl (by first | assumption | rfl | decide | omega | exact bL hB _ (by decide) | simp) (by first | assumption | rfl | decide | omega | exact bL hB _ (by decide) | simp) (by (first | rw [bn24 hB] | rw [bn40 hB] | rw [bn56 hB] | rw [bn72 hB] | rw [bn27 hB] | rw [bn43 hB] | rw [bn25 hB] | rw [bn41 hB] | rw [bn88 hB] | rw [bn104 hB] | rw [bn120 hB] | rw [bn136 hB] | rw [bn152 hB] | rw [bn168 hB]); first | assumption | exact vp_in_nI (by omega) (by decide)) ?_
        rw [nI_clamp (by omega)]
        refine x_last (q := 89) C 50 rfl rfl (by first | assumption | rfl | decide | omega | exact bL hB _ (by decide) | simp) (by first | assumption | rfl | decide | omega | exact bL hB _ (by decide) | simp) (show vp_in _ 8 from vp_in_nI (by omega) (by decide)) ?_
        rw [nI_clamp (by omega)]
        refine x_iconst (q := 90) C 51 (n := (0)) (v := nI 0) rfl rfl rfl ?_
        refine y_istore8 (q := 92) C 52 rfl rfl (Nat.le_of_ble_eq_true rfl) rfl ?_
        have lp92 : ∀ (ml l c : Nat) (I4 : Nat → Nat → Int32) (z9 : Option Value), l + ml = 8 → c = cnt (fun o => rB b (cV I0) o k) l → srI I0 I4 b k → c ≤ cnt (fun l => !decide (l = k)) l → sI I0 I4 → I4 232 k = nI c → (∀ j, k < j → I4 232 j = nI 0) → aj_X G 92 [some (.ref 22), some (.int (bI b)), some (.ref 184), some (.ref 200), some (.ref 216), some (.ref 57), some (.ref 232), some (.int (nI k)), some (.int (nI l)), z9] [] I4 (aj_u J2 57 k (J2 41 k)) V (aj_ur (aj_ur (aj_ur (aj_ur (aj_ur N 184 8) 200 8) 216 8) 57 8) 232 8) (L ++ [184] ++ [200] ++ [216] ++ [57] ++ [232]) 0 0 := by
          intro ml
          induction ml with
          | zero =>
            intro l c I4 z9 hl hcc hA4 hc hS4 hc0 hz4
            refine y_iload8 (q := 94) C 53 rfl rfl ?_
            refine x_bipush (q := 96) C 54 (n := (8)) (v := nI 8) rfl rfl rfl ?_
            refine x_icmp_ge (q := 99) (t := 157) C 55 rfl (by decide) rfl (fun c8 => ?_) (fun c8 => ?_)
            · skip
              refine y_iinc7 (q := 160) C 85 rfl rfl (nI_1 k) (Nat.le_of_ble_eq_true rfl) rfl ?_
              refine x_goto (t := 36) C 86 rfl (by decide) ?_
              exact ihj (k + 1) _ _ _ _ (by omega) (hA4.out hc0 (by rw [hcc, show l = 8 by omega]; rfl)) hS4 (fun i h1 h2 => (aj_u_o _ _ h2).trans (hJ i h1 h2)) (fun j hj => hz4 j (by omega))
            · skip
              exact absurd (nI_le (by omega) (by omega)) c8
          | succ ml ihl =>
            intro l c I4 z9 hl hcc hA4 hc hS4 hc0 hz4
            refine y_iload8 (q := 94) C 53 rfl rfl ?_
            refine x_bipush (q := 96) C 54 (n := (8)) (v := nI 8) rfl rfl rfl ?_
            refine x_icmp_ge (q := 99) (t := 157) C 55 rfl (by decide) rfl (fun c9 => ?_) (fun c9 => ?_)
            · skip
              exact absurd c9 (nI_ge (by omega) (by omega))
            · skip
              refine y_aload0 (q := 100) C 56 rfl rfl ?_
              refine y_iload8 (q := 102) C 57 rfl rfl ?_
              refine y_iload7 (q := 104) C 58 rfl rfl ?_
              refine y_cV2 (q := 107) C 59 rfl rfl ml_RX5_104 cd_X5_orderAt cv_X5_orderAt ⟨by decide, rfl⟩ (by first | assumption | rfl | decide | omega | exact bL hB _ (by decide) | simp) (by decide) (by decide) (Nat.le_of_ble_eq_true rfl) (s_X5_orderAt (by first | assumption | rfl | decide | omega | exact bL hB _ (by decide) | simp) (by first | assumption | rfl | decide | omega | exact bL hB _ (by decide) | simp) (by first | assumption | rfl | decide | omega | exact bL hB _ (by decide) | simp) ?_)
              show aj_X G 107 _ _ _ _ _ _ _ _ _
              refine y_istore9 (q := 109) C 60 rfl rfl (Nat.le_of_ble_eq_true rfl) rfl ?_
              refine y_aload6 (q := 111) C 61 rfl rfl ?_
              refine y_iload7 (q := 113) C 62 rfl rfl ?_
              refine x_dup2 (q := 114) C 63 rfl rfl ?_
              refine x_iald (q := 115) C 64 rfl rfl (by first | assumption | rfl | decide | omega | exact bL hB _ (by decide) | simp) (by first | assumption | rfl | decide | omega | exact bL hB _ (by decide) | simp) (show vp_in _ 8 from vp_in_nI (by omega) (by decide)) ?_
              rw [nI_clamp (by omega), hc0]
              refine y_iload9 (q := 117) C 65 rfl rfl ?_
              refine x_if_ne (q := 120) (t := 127) C 66 rfl (by decide) rfl (fun c10 => ?_) (fun c10 => ?_)
              · skip
                refine y_iload9 (q := 129) C 70 rfl rfl ?_
                refine y_iload1 (q := 130) C 71 rfl rfl ?_
                refine x_if_eqB (q := 133) (t := 137) C 72 rfl (by decide) rfl (fun c11 => ?_) (fun c11 => ?_)
                · skip
                  refine x_iconst (q := 138) C 75 (n := (-1)) (v := (-1)) rfl rfl rfl ?_
                  refine x_icmp_ne (q := 141) (t := 145) C 76 rfl (by decide) rfl (fun c12 => ?_) (fun c12 => ?_)
                  · skip
                    refine x_iconst (q := 146) C 79 (n := (0)) (v := (0)) rfl rfl rfl ?_
                    refine y_cS1 (q := 149) C 80 rfl rfl ml_RX5_47 cd_X5_one sv_X5_one (by decide) (by decide) (Nat.le_of_ble_eq_true rfl) (s_X5_one ?_)
                    show aj_X G 149 _ _ _ _ _ _ _ _ _
                    refine x_iadd (q := 150) C 81 rfl rfl ?_
                    rw [show pOne 0 = 0 from rfl, Int32.add_zero]
                    refine x_iast (q := 151) C 82 rfl rfl (by first | assumption | rfl | decide | omega | exact bL hB _ (by decide) | simp) (by first | assumption | rfl | decide | omega | exact bL hB _ (by decide) | simp) (show vp_in _ 8 from vp_in_nI (by omega) (by decide)) ?_
                    rw [nI_clamp (by omega)]
                    refine y_iinc8 (q := 154) C 83 rfl rfl (nI_1 l) (Nat.le_of_ble_eq_true rfl) rfl ?_
                    refine x_goto (t := 92) C 84 rfl (by decide) ?_
                    have hrb : rB b (cV I0) l k = false := hA4.b0 (by omega) (by omega) (fun z => absurd z (by assumption)) (by rw [show b = false by assumption]; assumption)
                    exact ihl (l + 1) c _ _ (by omega) (hcc.trans (cnt_f (f := fun o => rB b (cV I0) o k) hrb).symm) hA4.u (Nat.le_trans hc cnt_s) (hS4.n (by have := cnt_but (k := k) 8 (by omega); have := cnt_up (f := (fun l => !decide (l = k))) (show l ≤ 8 by omega); omega)) (aj_u_s _ _ _ _) (fun j hj => (aj_u_k _ _ _ (by omega)).trans (hz4 j hj))
                  · skip
                    refine x_iconst (q := 142) C 77 (n := (1)) (v := (1)) rfl rfl rfl ?_
                    refine x_goto (t := 146) C 78 rfl (by decide) ?_
                    refine y_cS1 (q := 149) C 80 rfl rfl ml_RX5_47 cd_X5_one sv_X5_one (by decide) (by decide) (Nat.le_of_ble_eq_true rfl) (s_X5_one ?_)
                    show aj_X G 149 _ _ _ _ _ _ _ _ _
                    refine x_iadd (q := 150) C 81 rfl rfl ?_
                    rw [show pOne 1 = 1 from rfl, nI_1]
                    refine x_iast (q := 151) C 82 rfl rfl (by first | assumption | rfl | decide | omega | exact bL hB _ (by decide) | simp) (by first | assumption | rfl | decide | omega | exact bL hB _ (by decide) | simp) (show vp_in _ 8 from vp_in_nI (by omega) (by decide)) ?_
                    rw [nI_clamp (by omega)]
                    refine y_iinc8 (q := 154) C 83 rfl rfl (nI_1 l) (Nat.le_of_ble_eq_true rfl) rfl ?_
                    refine x_goto (t := 92) C 84 rfl (by decide) ?_
                    have am : mOA I4 l k = -1 := by assumption
                    have al : l ≠ k := fun e => by rw [e, mOA_self hS4.2.1 (show k < 8 by omega)] at am; exact absurd am (by decide)
                    have hrb : rB b (cV I0) l k = true := hA4.b2 (by omega) (by omega) (by rw [show b = false by assumption]; assumption)
                    have ag : (fun l => !decide (l = k)) l = true := by simp [al]
                    exact ihl (l + 1) (c + 1) _ _ (by omega) (by rw [cnt_t (f := fun o => rB b (cV I0) o k) hrb, hcc]) hA4.u (by rw [cnt_t ag]; omega) (hS4.n (by have := cnt_but (k := k) 8 (by omega); have := cnt_up (f := (fun l => !decide (l = k))) (show l + 1 ≤ 8 by omega); rw [cnt_t ag] at this; omega)) (aj_u_s _ _ _ _) (fun j hj => (aj_u_k _ _ _ (by omega)).trans (hz4 j hj))
                · skip
                  refine x_iconst (q := 134) C 73 (n := (1)) (v := (1)) rfl rfl rfl ?_
                  refine x_goto (t := 138) C 74 rfl (by decide) ?_
                  refine x_icmp_ne (q := 141) (t := 145) C 76 rfl (by decide) rfl (fun c13 => ?_) (fun c13 => ?_)
                  · skip
                    refine x_iconst (q := 146) C 79 (n := (0)) (v := (0)) rfl rfl rfl ?_
                    refine y_cS1 (q := 149) C 80 rfl rfl ml_RX5_47 cd_X5_one sv_X5_one (by decide) (by decide) (Nat.le_of_ble_eq_true rfl) (s_X5_one ?_)
                    show aj_X G 149 _ _ _ _ _ _ _ _ _
                    refine x_iadd (q := 150) C 81 rfl rfl ?_
                    rw [show pOne 0 = 0 from rfl, Int32.add_zero]
                    refine x_iast (q := 151) C 82 rfl rfl (by first | assumption | rfl | decide | omega | exact bL hB _ (by decide) | simp) (by first | assumption | rfl | decide | omega | exact bL hB _ (by decide) | simp) (show vp_in _ 8 from vp_in_nI (by omega) (by decide)) ?_
                    rw [nI_clamp (by omega)]
                    refine y_iinc8 (q := 154) C 83 rfl rfl (nI_1 l) (Nat.le_of_ble_eq_true rfl) rfl ?_
                    refine x_goto (t := 92) C 84 rfl (by decide) ?_
                    have hrb : rB b (cV I0) l k = false := hA4.b0 (by omega) (by omega) (fun z => absurd z (by assumption)) (by rw [show b = true by assumption]; assumption)
                    exact ihl (l + 1) c _ _ (by omega) (hcc.trans (cnt_f (f := fun o => rB b (cV I0) o k) hrb).symm) hA4.u (Nat.le_trans hc cnt_s) (hS4.n (by have := cnt_but (k := k) 8 (by omega); have := cnt_up (f := (fun l => !decide (l = k))) (show l ≤ 8 by omega); omega)) (aj_u_s _ _ _ _) (fun j hj => (aj_u_k _ _ _ (by omega)).trans (hz4 j hj))
                  · skip
                    refine x_iconst (q := 142) C 77 (n := (1)) (v := (1)) rfl rfl rfl ?_
                    refine x_goto (t := 146) C 78 rfl (by decide) ?_
                    refine y_cS1 (q := 149) C 80 rfl rfl ml_RX5_47 cd_X5_one sv_X5_one (by decide) (by decide) (Nat.le_of_ble_eq_true rfl) (s_X5_one ?_)
                    show aj_X G 149 _ _ _ _ _ _ _ _ _
                    refine x_iadd (q := 150) C 81 rfl rfl ?_
                    rw [show pOne 1 = 1 from rfl, nI_1]
                    refine x_iast (q := 151) C 82 rfl rfl (by first | assumption | rfl | decide | omega | exact bL hB _ (by decide) | simp) (by first | assumption | rfl | decide | omega | exact bL hB _ (by decide) | simp) (show vp_in _ 8 from vp_in_nI (by omega) (by decide)) ?_
                    rw [nI_clamp (by omega)]
                    refine y_iinc8 (q := 154) C 83 rfl rfl (nI_1 l) (Nat.le_of_ble_eq_true rfl) rfl ?_
                    refine x_goto (t := 92) C 84 rfl (by decide) ?_
                    have am : mOA I4 l k = 1 := by assumption
                    have al : l ≠ k := fun e => by rw [e, mOA_self hS4.2.1 (show k < 8 by omega)] at am; exact absurd am (by decide)
                    have hrb : rB b (cV I0) l k = true := hA4.b2 (by omega) (by omega) (by rw [show b = true by assumption]; assumption)
                    have ag : (fun l => !decide (l = k)) l = true := by simp [al]
                    exact ihl (l + 1) (c + 1) _ _ (by omega) (by rw [cnt_t (f := fun o => rB b (cV I0) o k) hrb, hcc]) hA4.u (by rw [cnt_t ag]; omega) (hS4.n (by have := cnt_but (k := k) 8 (by omega); have := cnt_up (f := (fun l => !decide (l = k))) (show l + 1 ≤ 8 by omega); rw [cnt_t ag] at this; omega)) (aj_u_s _ _ _ _) (fun j hj => (aj_u_k _ _ _ (by omega)).trans (hz4 j hj))
              · skip
                refine y_iload8 (q := 122) C 67 rfl rfl ?_
                refine y_iload7 (q := 124) C 68 rfl rfl ?_
                refine x_icmp_lt (q := 127) (t := 141) C 69 rfl (by decide) rfl (fun c14 => ?_) (fun c14 => ?_)
                · skip
                  refine x_iconst (q := 142) C 77 (n := (1)) (v := (1)) rfl rfl rfl ?_
                  refine x_goto (t := 146) C 78 rfl (by decide) ?_
                  refine y_cS1 (q := 149) C 80 rfl rfl ml_RX5_47 cd_X5_one sv_X5_one (by decide) (by decide) (Nat.le_of_ble_eq_true rfl) (s_X5_one ?_)
                  show aj_X G 149 _ _ _ _ _ _ _ _ _
                  refine x_iadd (q := 150) C 81 rfl rfl ?_
                  rw [show pOne 1 = 1 from rfl, nI_1]
                  refine x_iast (q := 151) C 82 rfl rfl (by first | assumption | rfl | decide | omega | exact bL hB _ (by decide) | simp) (by first | assumption | rfl | decide | omega | exact bL hB _ (by decide) | simp) (show vp_in _ 8 from vp_in_nI (by omega) (by decide)) ?_
                  rw [nI_clamp (by omega)]
                  refine y_iinc8 (q := 154) C 83 rfl rfl (nI_1 l) (Nat.le_of_ble_eq_true rfl) rfl ?_
                  refine x_goto (t := 92) C 84 rfl (by decide) ?_
                  have al : l ≠ k := fun e => absurd (show nI l < nI k by assumption) (by rw [e]; exact nI_nlt (Nat.le_refl _) (by omega))
                  have hrb : rB b (cV I0) l k = true := hA4.b1 (by omega) (by omega) (by assumption) (by rcases Nat.lt_or_ge l k with w | w; exact w; exact absurd (show nI l < nI k by assumption) (nI_nlt w (by omega)))
                  have ag : (fun l => !decide (l = k)) l = true := by simp [al]
                  exact ihl (l + 1) (c + 1) _ _ (by omega) (by rw [cnt_t (f := fun o => rB b (cV I0) o k) hrb, hcc]) hA4.u (by rw [cnt_t ag]; omega) (hS4.n (by have := cnt_but (k := k) 8 (by omega); have := cnt_up (f := (fun l => !decide (l = k))) (show l + 1 ≤ 8 by omega); rw [cnt_t ag] at this; omega)) (aj_u_s _ _ _ _) (fun j hj => (aj_u_k _ _ _ (by omega)).trans (hz4 j hj))
                · skip
                  refine y_iload9 (q := 129) C 70 rfl rfl ?_
                  refine y_iload1 (q := 130) C 71 rfl rfl ?_
                  refine x_if_eqB (q := 133) (t := 137) C 72 rfl (by decide) rfl (fun c15 => ?_) (fun c15 => ?_)
                  · skip
                    refine x_iconst (q := 138) C 75 (n := (-1)) (v := (-1)) rfl rfl rfl ?_
                    refine x_icmp_ne (q := 141) (t := 145) C 76 rfl (by decide) rfl (fun c16 => ?_) (fun c16 => ?_)
                    · skip
                      refine x_iconst (q := 146) C 79 (n := (0)) (v := (0)) rfl rfl rfl ?_
                      refine y_cS1 (q := 149) C 80 rfl rfl ml_RX5_47 cd_X5_one sv_X5_one (by decide) (by decide) (Nat.le_of_ble_eq_true rfl) (s_X5_one ?_)
                      show aj_X G 149 _ _ _ _ _ _ _ _ _
                      refine x_iadd (q := 150) C 81 rfl rfl ?_
                      rw [show pOne 0 = 0 from rfl, Int32.add_zero]
                      refine x_iast (q := 151) C 82 rfl rfl (by first | assumption | rfl | decide | omega | exact bL hB _ (by decide) | simp) (by first | assumption | rfl | decide | omega | exact bL hB _ (by decide) | simp) (show vp_in _ 8 from vp_in_nI (by omega) (by decide)) ?_
                      rw [nI_clamp (by omega)]
                      refine y_iinc8 (q := 154) C 83 rfl rfl (nI_1 l) (Nat.le_of_ble_eq_true rfl) rfl ?_
                      refine x_goto (t := 92) C 84 rfl (by decide) ?_
                      have hrb : rB b (cV I0) l k = false := hA4.b0 (by omega) (by omega) (fun _ => fun w => absurd (nI_lt w (by omega)) (by assumption)) (by rw [show b = false by assumption]; assumption)
                      exact ihl (l + 1) c _ _ (by omega) (hcc.trans (cnt_f (f := fun o => rB b (cV I0) o k) hrb).symm) hA4.u (Nat.le_trans hc cnt_s) (hS4.n (by have := cnt_but (k := k) 8 (by omega); have := cnt_up (f := (fun l => !decide (l = k))) (show l ≤ 8 by omega); omega)) (aj_u_s _ _ _ _) (fun j hj => (aj_u_k _ _ _ (by omega)).trans (hz4 j hj))
                    · skip
                      refine x_iconst (q := 142) C 77 (n := (1)) (v := (1)) rfl rfl rfl ?_
                      refine x_goto (t := 146) C 78 rfl (by decide) ?_
                      refine y_cS1 (q := 149) C 80 rfl rfl ml_RX5_47 cd_X5_one sv_X5_one (by decide) (by decide) (Nat.le_of_ble_eq_true rfl) (s_X5_one ?_)
                      show aj_X G 149 _ _ _ _ _ _ _ _ _
                      refine x_iadd (q := 150) C 81 rfl rfl ?_
                      rw [show pOne 1 = 1 from rfl, nI_1]
                      refine x_iast (q := 151) C 82 rfl rfl (by first | assumption | rfl | decide | omega | exact bL hB _ (by decide) | simp) (by first | assumption | rfl | decide | omega | exact bL hB _ (by decide) | simp) (show vp_in _ 8 from vp_in_nI (by omega) (by decide)) ?_
                      rw [nI_clamp (by omega)]
                      refine y_iinc8 (q := 154) C 83 rfl rfl (nI_1 l) (Nat.le_of_ble_eq_true rfl) rfl ?_
                      refine x_goto (t := 92) C 84 rfl (by decide) ?_
                      have am : mOA I4 l k = -1 := by assumption
                      have al : l ≠ k := fun e => by rw [e, mOA_self hS4.2.1 (show k < 8 by omega)] at am; exact absurd am (by decide)
                      have hrb : rB b (cV I0) l k = true := hA4.b2 (by omega) (by omega) (by rw [show b = false by assumption]; assumption)
                      have ag : (fun l => !decide (l = k)) l = true := by simp [al]
                      exact ihl (l + 1) (c + 1) _ _ (by omega) (by rw [cnt_t (f := fun o => rB b (cV I0) o k) hrb, hcc]) hA4.u (by rw [cnt_t ag]; omega) (hS4.n (by have := cnt_but (k := k) 8 (by omega); have := cnt_up (f := (fun l => !decide (l = k))) (show l + 1 ≤ 8 by omega); rw [cnt_t ag] at this; omega)) (aj_u_s _ _ _ _) (fun j hj => (aj_u_k _ _ _ (by omega)).trans (hz4 j hj))
                  · skip
                    refine x_iconst (q := 134) C 73 (n := (1)) (v := (1)) rfl rfl rfl ?_
                    refine x_goto (t := 138) C 74 rfl (by decide) ?_
                    refine x_icmp_ne (q := 141) (t := 145) C 76 rfl (by decide) rfl (fun c17 => ?_) (fun c17 => ?_)
                    · skip
                      refine x_iconst (q := 146) C 79 (n := (0)) (v := (0)) rfl rfl rfl ?_
                      refine y_cS1 (q := 149) C 80 rfl rfl ml_RX5_47 cd_X5_one sv_X5_one (by decide) (by decide) (Nat.le_of_ble_eq_true rfl) (s_X5_one ?_)
                      show aj_X G 149 _ _ _ _ _ _ _ _ _
                      refine x_iadd (q := 150) C 81 rfl rfl ?_
                      rw [show pOne 0 = 0 from rfl, Int32.add_zero]
                      refine x_iast (q := 151) C 82 rfl rfl (by first | assumption | rfl | decide | omega | exact bL hB _ (by decide) | simp) (by first | assumption | rfl | decide | omega | exact bL hB _ (by decide) | simp) (show vp_in _ 8 from vp_in_nI (by omega) (by decide)) ?_
                      rw [nI_clamp (by omega)]
                      refine y_iinc8 (q := 154) C 83 rfl rfl (nI_1 l) (Nat.le_of_ble_eq_true rfl) rfl ?_
                      refine x_goto (t := 92) C 84 rfl (by decide) ?_
                      have hrb : rB b (cV I0) l k = false := hA4.b0 (by omega) (by omega) (fun _ => fun w => absurd (nI_lt w (by omega)) (by assumption)) (by rw [show b = true by assumption]; assumption)
                      exact ihl (l + 1) c _ _ (by omega) (hcc.trans (cnt_f (f := fun o => rB b (cV I0) o k) hrb).symm) hA4.u (Nat.le_trans hc cnt_s) (hS4.n (by have := cnt_but (k := k) 8 (by omega); have := cnt_up (f := (fun l => !decide (l = k))) (show l ≤ 8 by omega); omega)) (aj_u_s _ _ _ _) (fun j hj => (aj_u_k _ _ _ (by omega)).trans (hz4 j hj))
                    · skip
                      refine x_iconst (q := 142) C 77 (n := (1)) (v := (1)) rfl rfl rfl ?_
                      refine x_goto (t := 146) C 78 rfl (by decide) ?_
                      refine y_cS1 (q := 149) C 80 rfl rfl ml_RX5_47 cd_X5_one sv_X5_one (by decide) (by decide) (Nat.le_of_ble_eq_true rfl) (s_X5_one ?_)
                      show aj_X G 149 _ _ _ _ _ _ _ _ _
                      refine x_iadd (q := 150) C 81 rfl rfl ?_
                      rw [show pOne 1 = 1 from rfl, nI_1]
                      refine x_iast (q := 151) C 82 rfl rfl (by first | assumption | rfl | decide | omega | exact bL hB _ (by decide) | simp) (by first | assumption | rfl | decide | omega | exact bL hB _ (by decide) | simp) (show vp_in _ 8 from vp_in_nI (by omega) (by decide)) ?_
                      rw [nI_clamp (by omega)]
                      refine y_iinc8 (q := 154) C 83 rfl rfl (nI_1 l) (Nat.le_of_ble_eq_true rfl) rfl ?_
                      refine x_goto (t := 92) C 84 rfl (by decide) ?_
                      have am : mOA I4 l k = 1 := by assumption
                      have al : l ≠ k := fun e => by rw [e, mOA_self hS4.2.1 (show k < 8 by omega)] at am; exact absurd am (by decide)
                      have hrb : rB b (cV I0) l k = true := hA4.b2 (by omega) (by omega) (by rw [show b = true by assumption]; assumption)
                      have ag : (fun l => !decide (l = k)) l = true := by simp [al]
                      exact ihl (l + 1) (c + 1) _ _ (by omega) (by rw [cnt_t (f := fun o => rB b (cV I0) o k) hrb, hcc]) hA4.u (by rw [cnt_t ag]; omega) (hS4.n (by have := cnt_but (k := k) 8 (by omega); have := cnt_up (f := (fun l => !decide (l = k))) (show l + 1 ≤ 8 by omega); rw [cnt_t ag] at this; omega)) (aj_u_s _ _ _ _) (fun j hj => (aj_u_k _ _ _ (by omega)).trans (hz4 j hj))
        exact lp92 8 0 0 _ _ (by omega) rfl hP.inn (Nat.zero_le _) (sI.s (sI.x (Or.inr rfl) (hS.2.1.1 k (by omega)).2 (sI.x (Or.inl rfl) (hS.2.1.1 k (by omega)).1 hS))) (hz k (Nat.le_refl _)) (fun j hj => hz j (by omega))
  exact lp36 8 0 I2 J2 _ _ (by omega) hP hS hJ hz
