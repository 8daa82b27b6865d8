set_option maxRecDepth 100000 in
set_option maxHeartbeats 800000 in
theorem s_J6_stringSize_0f7a4 {l : Launch} {I : Nat → Nat → Int32} {J : Nat → Nat → Int64} {V : Nat → Nat → Option Nat} {N : Nat → Nat} {L : List Nat} {K : aj_K} {i : Nat} (hi : i < 12) (hK : K (.inl (some (.int (nI (sz i))))) I J V N L) : aj_M l yJ6_stringSize_0f7a4 (aj_wc yJ6_stringSize_0f7a4 cJ6_stringSize_0f7a4 4 (some .int)) (aj_rm 1 0 0) [] [.int (nI i)] I J V N L K := by
  refine aj_intro (tbl := t_J6_stringSize_0f7a4) (lv0 := [some (.int (nI i)), none, none, none]) (by decide) T_J6_stringSize_0f7a4 aj_f0 (Nat.le_of_ble_eq_true rfl) rfl ?_
  intro G hl C Z NX hnm hGL hGF
  have C : aj_C G cJ6_stringSize_0f7a4 t_J6_stringSize_0f7a4 RJ6 (aj_rm 1 0 0) 4 := C
  refine x_iconst (q := 1) C 0 (n := (1)) (v := (1)) rfl rfl rfl ?_
  refine y_istore1 (q := 2) C 1 rfl rfl (Nat.le_of_ble_eq_true rfl) rfl ?_
  refine y_iload0 (q := 3) C 2 rfl rfl ?_
  refine x_if_lt (q := 6) (t := 11) C 3 rfl (by decide) rfl (fun c1 => ?_) (fun c1 => ?_)
  · skip
    exact absurd c1 (nI_pos (by omega))
  · skip
    refine x_iconst (q := 7) C 4 (n := (0)) (v := (0)) rfl rfl rfl ?_
    refine y_istore1 (q := 8) C 5 rfl rfl (Nat.le_of_ble_eq_true rfl) rfl ?_
    refine y_iload0 (q := 9) C 6 rfl rfl ?_
    refine x_ineg (q := 10) C 7 rfl rfl ?_
    refine y_istore0 (q := 11) C 8 rfl rfl (Nat.le_of_ble_eq_true rfl) ?_
    refine x_bipush (q := 13) C 9 (n := (-10)) (v := (-10)) rfl rfl rfl ?_
    refine y_istore2 (q := 14) C 10 rfl rfl (Nat.le_of_ble_eq_true rfl) rfl ?_
    refine x_iconst (q := 15) C 11 (n := (1)) (v := (1)) rfl rfl rfl ?_
    refine y_istore3 (q := 16) C 12 rfl rfl (Nat.le_of_ble_eq_true rfl) rfl ?_
    refine y_iload3 (q := 17) C 13 rfl rfl ?_
    refine x_bipush (q := 19) C 14 (n := (10)) (v := (10)) rfl rfl rfl ?_
    refine x_icmp_ge (q := 22) (t := 42) C 15 rfl (by decide) rfl (fun c2 => ?_) (fun c2 => ?_)
    · skip
      exact absurd c2 (by decide)
    · skip
      refine y_iload0 (q := 23) C 16 rfl rfl ?_
      refine y_iload2 (q := 24) C 17 rfl rfl ?_
      refine x_icmp_le (q := 27) (t := 31) C 18 rfl (by decide) rfl (fun c3 => ?_) (fun c3 => ?_)
      · skip
        refine x_bipush (q := 33) C 23 (n := (10)) (v := (10)) rfl rfl rfl ?_
        refine y_iload2 (q := 34) C 24 rfl rfl ?_
        refine x_imul (q := 35) C 25 rfl rfl ?_
        refine y_istore2 (q := 36) C 26 rfl rfl (Nat.le_of_ble_eq_true rfl) rfl ?_
        refine y_iinc3 (q := 39) C 27 rfl rfl rfl (Nat.le_of_ble_eq_true rfl) rfl ?_
        refine x_goto (t := 16) C 28 rfl (by decide) ?_
        refine y_iload3 (q := 17) C 13 rfl rfl ?_
        refine x_bipush (q := 19) C 14 (n := (10)) (v := (10)) rfl rfl rfl ?_
        refine x_icmp_ge (q := 22) (t := 42) C 15 rfl (by decide) rfl (fun c4 => ?_) (fun c4 => ?_)
        · skip
          exact absurd c4 (by decide)
        · skip
          refine y_iload0 (q := 23) C 16 rfl rfl ?_
          refine y_iload2 (q := 24) C 17 rfl rfl ?_
          refine x_icmp_le (q := 27) (t := 31) C 18 rfl (by decide) rfl (fun c5 => ?_) (fun c5 => ?_)
          · skip
            exact absurd c5 (szB i hi)
          · skip
            refine y_iload3 (q := 28) C 19 rfl rfl ?_
            refine y_iload1 (q := 29) C 20 rfl rfl ?_
            refine x_iadd (q := 30) C 21 rfl rfl ?_
            exact x_ireturn C Z 22 rfl rfl rfl (aj_lf hK (by rw [show sz i = 2 from if_neg (Nat.not_lt.mpr ((szA i hi).mp ‹_›))]; rfl))
      · skip
        refine y_iload3 (q := 28) C 19 rfl rfl ?_
        refine y_iload1 (q := 29) C 20 rfl rfl ?_
        refine x_iadd (q := 30) C 21 rfl rfl ?_
        exact x_ireturn C Z 22 rfl rfl rfl (aj_lf hK (by rw [show sz i = 1 from if_pos (Nat.not_le.mp (fun z => absurd ((szA i hi).mpr z) ‹_›))]; rfl))
set_option maxRecDepth 100000 in
set_option maxHeartbeats 800000 in
theorem s_J6_getChars_ba4f3 {l : Launch} {I : Nat → Nat → Int32} {J : Nat → Nat → Int64} {V : Nat → Nat → Option Nat} {N : Nat → Nat} {L : List Nat} {K : aj_K} {i p v : Nat} (hi : i < 12) (hvk : v % 16 = 10) (hvL : v ∈ L) (hp : sz i ≤ p ∧ p ≤ N v ∧ N v ≤ 70) (hF : tF I v) (hK : ∀ (r : Int32) I1, (∀ a, a ≠ v → I1 a = I a) → tF I1 v → K (.inl (some (.int r))) I1 J V N L) : aj_M l yJ6_getChars_ba4f3 (aj_wc yJ6_getChars_ba4f3 cJ6_getChars_ba4f3 7 (some .int)) (aj_rm 1 0 0) [] [.int (nI i), .int (nI p), .ref v] I J V N L K := by
  refine aj_intro (tbl := t_J6_getChars_ba4f3) (lv0 := [some (.int (nI i)), some (.int (nI p)), some (.ref v), none, none, none, none]) (by decide) T_J6_getChars_ba4f3 aj_f0 (Nat.le_of_ble_eq_true rfl) rfl ?_
  intro G hl C Z NX hnm hGL hGF
  have C : aj_C G cJ6_getChars_ba4f3 t_J6_getChars_ba4f3 RJ6 (aj_rm 1 0 0) 7 := C
  have hs := sz_le i
  refine y_iload1 (q := 1) C 0 rfl rfl ?_
  refine y_istore5 (q := 3) C 1 rfl rfl (Nat.le_of_ble_eq_true rfl) rfl ?_
  refine y_iload0 (q := 4) C 2 rfl rfl ?_
  refine x_if_ge (q := 7) (t := 11) C 3 rfl (by decide) rfl (fun c1 => ?_) (fun c1 => ?_)
  · skip
    refine x_iconst (q := 12) C 6 (n := (0)) (v := (0)) rfl rfl rfl ?_
    refine y_istore6 (q := 14) C 7 rfl rfl (Nat.le_of_ble_eq_true rfl) rfl ?_
    refine y_iload6 (q := 16) C 8 rfl rfl ?_
    refine x_if_ne (q := 19) (t := 22) C 9 rfl (by decide) rfl (fun c2 => ?_) (fun c2 => ?_)
    · skip
      exact absurd rfl c2
    · skip
      refine y_iload0 (q := 20) C 10 rfl rfl ?_
      refine x_ineg (q := 21) C 11 rfl rfl ?_
      refine y_istore0 (q := 22) C 12 rfl rfl (Nat.le_of_ble_eq_true rfl) ?_
      refine y_iload0 (q := 23) C 13 rfl rfl ?_
      refine x_bipush (q := 25) C 14 (n := (-100)) (v := (-100)) rfl rfl rfl ?_
      refine x_icmp_gt (q := 28) (t := 72) C 15 rfl (by decide) rfl (fun c3 => ?_) (fun c3 => ?_)
      · skip
        refine y_aload2 (q := 73) C 43 rfl rfl ?_
        refine y_iinc5 (q := 76) C 44 rfl rfl (v := nI (p - 1)) (p1_nI (by omega)) (Nat.le_of_ble_eq_true rfl) rfl ?_
        refine y_iload5 (q := 78) C 45 rfl rfl ?_
        refine x_dgO (q := 81) C 46 rfl rfl gs_RJ6_83 ?_
        refine y_iload0 (q := 82) C 47 rfl rfl ?_
        refine x_ineg (q := 83) C 48 rfl rfl ?_
        rw [szN]
        refine x_dglO (q := 84) C 49 rfl rfl (nI_in (by omega) (by omega)) ?_
        refine x_bast (q := 85) C 50 rfl rfl hvk hvL (nI_in (by omega) (by omega)) ?_
        refine y_iload0 (q := 86) C 51 rfl rfl ?_
        refine x_bipush (q := 88) C 52 (n := (-9)) (v := (-9)) rfl rfl rfl ?_
        refine x_icmp_ge (q := 91) (t := 104) C 53 rfl (by decide) rfl (fun c4 => ?_) (fun c4 => ?_)
        · skip
          refine y_iload6 (q := 106) C 62 rfl rfl ?_
          refine x_if_eq (q := 109) (t := 118) C 63 rfl (by decide) rfl (fun c5 => ?_) (fun c5 => ?_)
          · skip
            refine y_iload5 (q := 120) C 69 rfl rfl ?_
            exact x_ireturn C Z 70 rfl rfl rfl (hK _ _ (fun a ha => aj_u_o _ _ ha) (tF.u hF))
          · skip
            exact absurd rfl c5
        · skip
          have h10 : ¬ i < 10 := fun z => absurd ((szD i hi).mpr z) ‹_›
          have hs2 : sz i = 2 := if_neg h10
          refine y_aload2 (q := 92) C 54 rfl rfl ?_
          refine y_iinc5 (q := 95) C 55 rfl rfl (v := nI (p - 1 - 1)) (p1_nI (by omega)) (Nat.le_of_ble_eq_true rfl) rfl ?_
          refine y_iload5 (q := 97) C 56 rfl rfl ?_
          refine x_dgT (q := 100) C 57 rfl rfl gs_RJ6_87 ?_
          refine y_iload0 (q := 101) C 58 rfl rfl ?_
          refine x_ineg (q := 102) C 59 rfl rfl ?_
          rw [szN]
          refine x_dglT (q := 103) C 60 rfl rfl (nI_in (by omega) (by omega)) ?_
          refine x_bast (q := 104) C 61 rfl rfl hvk hvL (nI_in (by omega) (by omega)) ?_
          refine y_iload6 (q := 106) C 62 rfl rfl ?_
          refine x_if_eq (q := 109) (t := 118) C 63 rfl (by decide) rfl (fun c6 => ?_) (fun c6 => ?_)
          · skip
            refine y_iload5 (q := 120) C 69 rfl rfl ?_
            exact x_ireturn C Z 70 rfl rfl rfl (hK _ _ (fun a ha => by rw [aj_u_o _ _ ha, aj_u_o _ _ ha]) (tF.u (tF.u hF)))
          · skip
            exact absurd rfl c6
      · skip
        exact absurd (szC i hi) c3
  · skip
    exact absurd (nI_pos' (n := i) (by omega)) c1
set_option maxRecDepth 100000 in
set_option maxHeartbeats 800000 in
theorem s_J5_append_3fe6f {l : Launch} {I : Nat → Nat → Int32} {J : Nat → Nat → Int64} {V : Nat → Nat → Option Nat} {N : Nat → Nat} {L : List Nat} {K : aj_K} {B v w n : Nat} (hBk : B % 16 = 1) (hvk : v % 16 = 10) (hwk : w % 16 = 10) (hwL : w ∉ L) (hwV : ∀ i ∈ L, ∀ j, V i j ≠ some w) (hT : tB B v n I V N L) (hn2 : n + 1 ≤ 70) (hK : ∀ I1 V1 N1 L1, tA B v w (n + 1) (n + 1) I V N L I1 V1 N1 L1 → K (.inl (some (.ref B))) I1 J V1 N1 L1) : aj_M l yJ5_append_3fe6f (aj_wc yJ5_append_3fe6f cJ5_append_3fe6f 2 (some (.object "java/lang/AbstractStringBuilder"))) (aj_rm 4 1 70) [w] [.ref B, .int 32] I J V N L K := by
  refine aj_intro (tbl := t_J5_append_3fe6f) (lv0 := [some (.ref B), some (.int 32)]) (by decide) T_J5_append_3fe6f (fun i h => by cases List.mem_singleton.mp h; unfold aj_sp; omega) (Nat.le_of_ble_eq_true rfl) rfl ?_
  intro G hl C Z NX hnm hGL hGF
  have C : aj_C G cJ5_append_3fe6f t_J5_append_3fe6f RJ5 (aj_rm 4 1 70) 2 := C
  have hT0 := hT
  obtain ⟨⟨hBL, hvL, hvB⟩, hV0, hVn, hc, hn, hnN, hN, hF⟩ := hT
  have hBw : B ≠ w := fun e => hwL (e ▸ hBL)
  have hvw : v ≠ w := fun e => hwL (e ▸ hvL)
  refine y_aload0 (q := 1) C 0 rfl rfl ?_
  refine y_aload0 (q := 2) C 1 rfl rfl ?_
  refine x_getI (q := 5) C 2 rfl rfl fl_RJ5_79 (fun _ _ => rfl) (by first | assumption | rfl | decide | exact hB _ (by decide)) (by first | assumption | rfl | decide | exact hB _ (by decide)) ?_
  rw [hn]
  refine x_iconst (q := 6) C 3 (n := (1)) (v := (1)) rfl rfl rfl ?_
  refine x_iadd (q := 7) C 4 rfl rfl ?_
  rw [nI_1]
  refine y_U1 (q := 10) (bc' := 0) (bs' := 0) C 5 rfl rfl cu_RJ5_100 cd_J5_ensureCapacityInternal_d00df ⟨by rw [hBk]; decide, by rw [hBk]; rfl⟩ hBL (by decide) (by decide) (Nat.le_of_ble_eq_true rfl) rfl rfl (by rw [hGF]; exact fun i h => h) (by intro i h; cases List.mem_singleton.mp h; refine ⟨?_, ?_⟩ <;> simp [*]) (s_J5_ensureCapacityInternal_d00df hBk hvk hwk hwL hwV hT0 ⟨by omega, by omega, by omega⟩ ?_)
  intro I1 V1 N1 L1 hA
  obtain ⟨v1, hv1k, hT1, hm1, hv1⟩ := tA.row hA hvk hwk
  have hT2 := hT1
  obtain ⟨⟨hBL1, hvL1, hvB1⟩, hV01, hVn1, hc1, hn1, hnN1, hN1, hF1⟩ := hT1
  show aj_X G 10 _ _ _ _ _ _ _ _ _
  refine y_aload0 (q := 11) C 6 rfl rfl ?_
  refine y_U0 (q := 14) C 7 rfl rfl cu_RJ5_83 cd_J5_isLatin1_aae02 ⟨by rw [hBk]; decide, by rw [hBk]; rfl⟩ hBL1 (by decide) (by decide) (Nat.le_of_ble_eq_true rfl) (Nat.zero_add _).symm (Nat.zero_add _).symm aj_f0 aj_f0 (s_J5_isLatin1_aae02 hBk hBL1 hc1 ?_)
  show aj_X G 14 _ _ _ _ _ _ _ _ _
  refine x_if_eq (q := 17) (t := 45) C 8 rfl (by decide) rfl (fun c1 => ?_) (fun c1 => ?_)
  · skip
    exact absurd c1 (by decide)
  · skip
    refine y_iload1 (q := 18) C 9 rfl rfl ?_
    refine y_cS1 (q := 21) C 10 rfl rfl ml_RJ5_191 cd_J1_canEncode_fc78d sv_J1_canEncode_fc78d (by decide) (by decide) (Nat.le_of_ble_eq_true rfl) (s_J1_canEncode_fc78d ?_)
    show aj_X G 21 _ _ _ _ _ _ _ _ _
    refine x_if_eq (q := 24) (t := 45) C 11 rfl (by decide) rfl (fun c2 => ?_) (fun c2 => ?_)
    · skip
      exact absurd c2 (by decide)
    · skip
      refine y_aload0 (q := 25) C 12 rfl rfl ?_
      refine x_getR (q := 28) C 13 rfl rfl fl_RJ5_15 hV01 (fun _ _ => rfl) (by first | assumption | rfl | decide | exact hB _ (by decide)) (by first | assumption | rfl | decide | exact hB _ (by decide)) ?_
      refine y_aload0 (q := 29) C 14 rfl rfl ?_
      refine x_dupr (q := 30) C 15 rfl rfl ?_
      refine x_getI (q := 33) C 16 rfl rfl fl_RJ5_79 (fun _ _ => rfl) (by first | assumption | rfl | decide | exact hB _ (by decide)) (by first | assumption | rfl | decide | exact hB _ (by decide)) ?_
      rw [hn1]
      refine x_dup_x1 (q := 34) C 17 rfl rfl rfl rfl ?_
      refine x_iconst (q := 35) C 18 (n := (1)) (v := (1)) rfl rfl rfl ?_
      refine x_iadd (q := 36) C 19 rfl rfl ?_
      rw [nI_1]
      refine x_putI (q := 39) C 20 rfl rfl fl_RJ5_79 rfl rfl (by first | assumption | rfl | decide | exact hB _ (by decide)) (by first | assumption | rfl | decide | exact hB _ (by decide)) ?_
      refine y_iload1 (q := 40) C 21 rfl rfl ?_
      refine x_i2b (q := 41) C 22 rfl rfl ?_
      refine x_bast (q := 42) C 23 rfl rfl hv1k hvL1 (nI_in (by omega) (by omega)) ?_
      refine x_goto (t := 75) C 24 rfl (by decide) ?_
      refine y_aload0 (q := 76) C 41 rfl rfl ?_
      exact x_areturn C Z 42 rfl rfl (by first | exact Or.inl ⟨_, rfl⟩ | exact Or.inr ⟨_, rfl⟩) (hK _ _ _ _ (tA.put hA (fun v2 hT3 hm2 hc2 => by cases tA.V0 hT2 hT3; exact ⟨hm1, fun a h1 h2 => by rw [aj_u_o _ _ h2, aj_u_o _ _ h1], by rw [aj_u_o _ _ (Ne.symm hvB1), aj_u_k _ _ _ (by decide)]; exact hc1, by rw [aj_u_o _ _ (Ne.symm hvB1), aj_u_s], tF.u (tF.o hF1 (aj_u_o _ _ hvB1))⟩)))
set_option maxRecDepth 100000 in
set_option maxHeartbeats 800000 in
theorem s_J5_append_c97b9 {l : Launch} {I : Nat → Nat → Int32} {J : Nat → Nat → Int64} {V : Nat → Nat → Option Nat} {N : Nat → Nat} {L : List Nat} {K : aj_K} {B v w n : Nat} (hBk : B % 16 = 1) (hvk : v % 16 = 10) (hwk : w % 16 = 10) (hwL : w ∉ L) (hwV : ∀ i ∈ L, ∀ j, V i j ≠ some w) (hT : tB B v n I V N L) {i : Nat} (hi : i < 12) (hn2 : n + sz i ≤ 70) (hK : ∀ I1 V1 N1 L1, tA B v w (n + sz i) (n + sz i) I V N L I1 V1 N1 L1 → K (.inl (some (.ref B))) I1 J V1 N1 L1) : aj_M l yJ5_append_c97b9 (aj_wc yJ5_append_c97b9 cJ5_append_c97b9 4 (some (.object "java/lang/AbstractStringBuilder"))) (aj_rm 4 1 70) [w] [.ref B, .int (nI i)] I J V N L K := by
  refine aj_intro (tbl := t_J5_append_c97b9) (lv0 := [some (.ref B), some (.int (nI i)), none, none]) (by decide) T_J5_append_c97b9 (fun i h => by cases List.mem_singleton.mp h; unfold aj_sp; omega) (Nat.le_of_ble_eq_true rfl) rfl ?_
  intro G hl C Z NX hnm hGL hGF
  have C : aj_C G cJ5_append_c97b9 t_J5_append_c97b9 RJ5 (aj_rm 4 1 70) 4 := C
  have hT0 := hT
  obtain ⟨⟨hBL, hvL, hvB⟩, hV0, hVn, hc, hn, hnN, hN, hF⟩ := hT
  have hBw : B ≠ w := fun e => hwL (e ▸ hBL)
  have hvw : v ≠ w := fun e => hwL (e ▸ hvL)
  have hs := sz_le i
  refine y_aload0 (q := 1) C 0 rfl rfl ?_
  refine x_getI (q := 4) C 1 rfl rfl fl_RJ5_79 (fun _ _ => rfl) (by first | assumption | rfl | decide | exact hB _ (by decide)) (by first | assumption | rfl | decide | exact hB _ (by decide)) ?_
  rw [hn]
  refine y_istore2 (q := 5) C 2 rfl rfl (Nat.le_of_ble_eq_true rfl) rfl ?_
  refine y_iload2 (q := 6) C 3 rfl rfl ?_
  refine y_iload1 (q := 7) C 4 rfl rfl ?_
  refine y_cS1 (q := 10) C 5 rfl rfl ml_RJ5_245 cd_J6_stringSize_0f7a4 sv_J6_stringSize_0f7a4 (by decide) (by decide) (Nat.le_of_ble_eq_true rfl) (s_J6_stringSize_0f7a4 hi ?_)
  show aj_X G 10 _ _ _ _ _ _ _ _ _
  refine x_iadd (q := 11) C 6 rfl rfl ?_
  rw [nI_add]
  refine y_istore3 (q := 12) C 7 rfl rfl (Nat.le_of_ble_eq_true rfl) rfl ?_
  refine y_aload0 (q := 13) C 8 rfl rfl ?_
  refine y_iload3 (q := 14) C 9 rfl rfl ?_
  refine y_U1 (q := 17) (bc' := 0) (bs' := 0) C 10 rfl rfl cu_RJ5_100 cd_J5_ensureCapacityInternal_d00df ⟨by rw [hBk]; decide, by rw [hBk]; rfl⟩ hBL (by decide) (by decide) (Nat.le_of_ble_eq_true rfl) rfl rfl (by rw [hGF]; exact fun i h => h) (by intro i h; cases List.mem_singleton.mp h; refine ⟨?_, ?_⟩ <;> simp [*]) (s_J5_ensureCapacityInternal_d00df hBk hvk hwk hwL hwV hT0 ⟨by omega, by omega, by omega⟩ ?_)
  intro I1 V1 N1 L1 hA
  obtain ⟨v1, hv1k, hT1, hm1, hv1⟩ := tA.row hA hvk hwk
  have hT2 := hT1
  obtain ⟨⟨hBL1, hvL1, hvB1⟩, hV01, hVn1, hc1, hn1, hnN1, hN1, hF1⟩ := hT1
  show aj_X G 17 _ _ _ _ _ _ _ _ _
  refine y_aload0 (q := 18) C 11 rfl rfl ?_
  refine y_U0 (q := 21) C 12 rfl rfl cu_RJ5_83 cd_J5_isLatin1_aae02 ⟨by rw [hBk]; decide, by rw [hBk]; rfl⟩ hBL1 (by decide) (by decide) (Nat.le_of_ble_eq_true rfl) (Nat.zero_add _).symm (Nat.zero_add _).symm aj_f0 aj_f0 (s_J5_isLatin1_aae02 hBk hBL1 hc1 ?_)
  show aj_X G 21 _ _ _ _ _ _ _ _ _
  refine x_if_eq (q := 24) (t := 37) C 13 rfl (by decide) rfl (fun c1 => ?_) (fun c1 => ?_)
  · skip
    exact absurd c1 (by decide)
  · skip
    refine y_iload1 (q := 25) C 14 rfl rfl ?_
    refine y_iload3 (q := 26) C 15 rfl rfl ?_
    refine y_aload0 (q := 27) C 16 rfl rfl ?_
    refine x_getR (q := 30) C 17 rfl rfl fl_RJ5_15 hV01 (fun _ _ => rfl) (by first | assumption | rfl | decide | exact hB _ (by decide)) (by first | assumption | rfl | decide | exact hB _ (by decide)) ?_
    refine y_T3 (q := 33) C 18 rfl rfl ml_RJ5_248 cd_J6_getChars_ba4f3 sv_J6_getChars_ba4f3 (by decide) (by decide) (Nat.le_of_ble_eq_true rfl) (Nat.zero_add _).symm (Nat.zero_add _).symm aj_f0 aj_f0 (s_J6_getChars_ba4f3 hi hv1k hvL1 ⟨by omega, hm1, by omega⟩ hF1 ?_)
    intro r I2 e2 f2
    show aj_X G 33 _ _ _ _ _ _ _ _ _
    refine x_pop (q := 34) C 19 rfl rfl rfl ?_
    refine x_goto (t := 48) C 20 rfl (by decide) ?_
    refine y_aload0 (q := 49) C 28 rfl rfl ?_
    refine y_iload3 (q := 50) C 29 rfl rfl ?_
    refine x_putI (q := 53) C 30 rfl rfl fl_RJ5_79 rfl rfl (by first | assumption | rfl | decide | exact hB _ (by decide)) (by first | assumption | rfl | decide | exact hB _ (by decide)) ?_
    refine y_aload0 (q := 54) C 31 rfl rfl ?_
    exact x_areturn C Z 32 rfl rfl (by first | exact Or.inl ⟨_, rfl⟩ | exact Or.inr ⟨_, rfl⟩) (hK _ _ _ _ (tA.put hA (fun v2 hT3 hm2 hc2 => by cases tA.V0 hT2 hT3; exact ⟨hm1, fun a h1 h2 => by rw [aj_u_o _ _ h1, e2 a h2], by rw [aj_u_k _ _ _ (by decide), e2 B (Ne.symm hvB1)]; exact hc1, aj_u_s _ _ _ _, tF.o f2 (aj_u_o _ _ hvB1)⟩)))
set_option maxRecDepth 100000 in
set_option maxHeartbeats 800000 in
theorem s_J0_coder_7d493 {l : Launch} {I : Nat → Nat → Int32} {J : Nat → Nat → Int64} {V : Nat → Nat → Option Nat} {N : Nat → Nat} {L : List Nat} {K : aj_K} {c : Nat} (hcc : c < 2) (hK : K (.inl (some (.int 0))) I J V N L) : aj_M l yJ0_coder_7d493 (aj_wc yJ0_coder_7d493 cJ0_coder_7d493 1 (some .byte)) (aj_rm 1 0 0) [] [.ref (28 + 16 * c)] I J V N L K := by
  refine aj_intro (tbl := t_J0_coder_7d493) (lv0 := [some (.ref (28 + 16 * c))]) (by decide) T_J0_coder_7d493 aj_f0 (Nat.le_of_ble_eq_true rfl) rfl ?_
  intro G hl C Z NX hnm hGL hGF
  have C : aj_C G cJ0_coder_7d493 t_J0_coder_7d493 RJ0 (aj_rm 1 0 0) 1 := C
  refine x_getCS (q := 3) C 0 rfl rfl gs_RJ0_38 ?_
  refine x_if_eq (q := 6) (t := 13) C 1 rfl (by decide) rfl (fun c1 => ?_) (fun c1 => ?_)
  · skip
    exact absurd c1 (by decide)
  · skip
    refine y_aload0 (q := 7) C 2 rfl rfl ?_
    refine x_kgetC (q := 10) C 3 rfl rfl kf_RJ0_15 (by first | assumption | rfl | decide | exact hB _ (by decide)) ?_
    refine x_goto (t := 14) C 4 rfl (by decide) ?_
    exact x_ireturn C Z 6 rfl rfl rfl (hK)
set_option maxRecDepth 100000 in
set_option maxHeartbeats 800000 in
theorem s_J0_length_8abf5 {l : Launch} {I : Nat → Nat → Int32} {J : Nat → Nat → Int64} {V : Nat → Nat → Option Nat} {N : Nat → Nat} {L : List Nat} {K : aj_K} {c : Nat} (hcc : c < 2) (hK : K (.inl (some (.int (nI (aj_kl c))))) I J V N L) : aj_M l yJ0_length_8abf5 (aj_wc yJ0_length_8abf5 cJ0_length_8abf5 1 (some .int)) (aj_rm 2 0 0) [] [.ref (28 + 16 * c)] I J V N L K := by
  refine aj_intro (tbl := t_J0_length_8abf5) (lv0 := [some (.ref (28 + 16 * c))]) (by decide) T_J0_length_8abf5 aj_f0 (Nat.le_of_ble_eq_true rfl) rfl ?_
  intro G hl C Z NX hnm hGL hGF
  have C : aj_C G cJ0_length_8abf5 t_J0_length_8abf5 RJ0 (aj_rm 2 0 0) 1 := C
  refine y_aload0 (q := 1) C 0 rfl rfl ?_
  refine x_kgetV (q := 4) C 1 rfl rfl kf_RJ0_9 (by first | assumption | rfl | decide | exact hB _ (by decide)) ?_
  refine x_klen (q := 5) C 2 rfl rfl (by first | assumption | rfl | decide | exact hB _ (by decide)) ?_
  show aj_X G 5 _ (.int (nI (aj_kl c)) :: _) _ _ _ _ _ _ _
  refine y_aload0 (q := 6) C 3 rfl rfl ?_
  refine y_K0 (q := 9) C 4 rfl rfl ml_RJ0_335 cd_J0_coder_7d493 cv_J0_coder_7d493 rfl hcc (by decide) (by decide) (Nat.le_of_ble_eq_true rfl) (Nat.zero_add _).symm (Nat.zero_add _).symm aj_f0 aj_f0 (s_J0_coder_7d493 hcc ?_)
  show aj_X G 9 _ _ _ _ _ _ _ _ _
  refine x_ishr (q := 10) C 5 rfl rfl ?_
  rw [sr0]
  exact x_ireturn C Z 6 rfl rfl rfl (hK)
set_option maxRecDepth 100000 in
set_option maxHeartbeats 800000 in
theorem s_J0_getBytes_840e7 {l : Launch} {I : Nat → Nat → Int32} {J : Nat → Nat → Int64} {V : Nat → Nat → Option Nat} {N : Nat → Nat} {L : List Nat} {K : aj_K} {c : Nat} (hcc : c < 2) {v n : Nat} (hvk : v % 16 = 10) (hvL : v ∈ L) (hnv : n + aj_kl c ≤ N v ∧ N v ≤ 70) (hF : tF I v) (hK : ∀ I1, (∀ a, a ≠ v → I1 a = I a) → tF I1 v → K (.inl none) I1 J V N L) : aj_M l yJ0_getBytes_840e7 (aj_wc yJ0_getBytes_840e7 cJ0_getBytes_840e7 4 none) (aj_rm 2 0 0) [] [.ref (28 + 16 * c), .ref v, .int (nI n), .int 0] I J V N L K := by
  refine aj_intro (tbl := t_J0_getBytes_840e7) (lv0 := [some (.ref (28 + 16 * c)), some (.ref v), some (.int (nI n)), some (.int 0)]) (by decide) T_J0_getBytes_840e7 aj_f0 (Nat.le_of_ble_eq_true rfl) rfl ?_
  intro G hl C Z NX hnm hGL hGF
  have C : aj_C G cJ0_getBytes_840e7 t_J0_getBytes_840e7 RJ0 (aj_rm 2 0 0) 4 := C
  have hkl := aj_kl_le c
  refine y_aload0 (q := 1) C 0 rfl rfl ?_
  refine y_K0 (q := 4) C 1 rfl rfl ml_RJ0_335 cd_J0_coder_7d493 cv_J0_coder_7d493 rfl hcc (by decide) (by decide) (Nat.le_of_ble_eq_true rfl) (Nat.zero_add _).symm (Nat.zero_add _).symm aj_f0 aj_f0 (s_J0_coder_7d493 hcc ?_)
  show aj_X G 4 _ _ _ _ _ _ _ _ _
  refine y_iload3 (q := 5) C 2 rfl rfl ?_
  refine x_icmp_ne (q := 8) (t := 28) C 3 rfl (by decide) rfl (fun c1 => ?_) (fun c1 => ?_)
  · skip
    exact absurd rfl c1
  · skip
    refine y_aload0 (q := 9) C 4 rfl rfl ?_
    refine x_kgetV (q := 12) C 5 rfl rfl kf_RJ0_9 (by first | assumption | rfl | decide | exact hB _ (by decide)) ?_
    refine x_iconst (q := 13) C 6 (n := (0)) (v := (0)) rfl rfl rfl ?_
    refine y_aload1 (q := 14) C 7 rfl rfl ?_
    refine y_iload2 (q := 15) C 8 rfl rfl ?_
    refine y_iload3 (q := 16) C 9 rfl rfl ?_
    refine x_ishl (q := 17) C 10 rfl rfl ?_
    rw [sl0]
    refine y_aload0 (q := 18) C 11 rfl rfl ?_
    refine x_kgetV (q := 21) C 12 rfl rfl kf_RJ0_9 (by first | assumption | rfl | decide | exact hB _ (by decide)) ?_
    refine x_klen (q := 22) C 13 rfl rfl (by first | assumption | rfl | decide | exact hB _ (by decide)) ?_
    show aj_X G 22 _ (.int (nI (aj_kl c)) :: _) _ _ _ _ _ _ _
    refine x_copyK (q := 25) C 14 rfl rfl acp_RJ0_212 ⟨by decide, Nat.le_of_ble_eq_true rfl⟩ hcc hvk hvL (by decide) (nI_pos (by omega)) (nI_pos (by omega)) (by rw [nI_clamp (by omega)]; exact Nat.le_of_eq (Nat.zero_add _)) (by rw [nI_clamp (show n < 2 ^ 31 by omega), nI_clamp (show aj_kl c < 2 ^ 31 by omega)]; exact hnv.1) ?_
    refine x_goto (t := 43) C 15 rfl (by decide) ?_
    exact x_return C Z 25 rfl rfl (hK _ (fun a ha => aj_ur_n _ _ ha) (tF.ur (cpy_fits (fun j => by rcases aj_kb c j with e | e <;> rw [e] <;> rfl) hF)))
set_option maxRecDepth 100000 in
set_option maxHeartbeats 800000 in
theorem s_J5_inflateIfNeededFor_a7421 {l : Launch} {I : Nat → Nat → Int32} {J : Nat → Nat → Int64} {V : Nat → Nat → Option Nat} {N : Nat → Nat} {L : List Nat} {K : aj_K} {c : Nat} (hcc : c < 2) {B : Nat} (hBk : B % 16 = 1) (hBL : B ∈ L) (hc : I B 1 = 0) (hK : K (.inl none) I J V N L) : aj_M l yJ5_inflateIfNeededFor_a7421 (aj_wc yJ5_inflateIfNeededFor_a7421 cJ5_inflateIfNeededFor_a7421 2 none) (aj_rm 2 0 0) [] [.ref B, .ref (28 + 16 * c)] I J V N L K := by
  refine aj_intro (tbl := t_J5_inflateIfNeededFor_a7421) (lv0 := [some (.ref B), some (.ref (28 + 16 * c))]) (by decide) T_J5_inflateIfNeededFor_a7421 aj_f0 (Nat.le_of_ble_eq_true rfl) rfl ?_
  intro G hl C Z NX hnm hGL hGF
  have C : aj_C G cJ5_inflateIfNeededFor_a7421 t_J5_inflateIfNeededFor_a7421 RJ5 (aj_rm 2 0 0) 2 := C
  refine x_getCS (q := 3) C 0 rfl rfl gs_RJ5_18 ?_
  refine x_if_eq (q := 6) (t := 21) C 1 rfl (by decide) rfl (fun c1 => ?_) (fun c1 => ?_)
  · skip
    exact absurd c1 (by decide)
  · skip
    refine y_aload0 (q := 7) C 2 rfl rfl ?_
    refine x_getI (q := 10) C 3 rfl rfl fl_RJ5_22 (fun _ _ => rfl) (by first | assumption | rfl | decide | exact hB _ (by decide)) (by first | assumption | rfl | decide | exact hB _ (by decide)) ?_
    rw [hc]
    refine y_aload1 (q := 11) C 4 rfl rfl ?_
    refine y_K0 (q := 14) C 5 rfl rfl ml_RJ5_40 cd_J0_coder_7d493 cv_J0_coder_7d493 rfl hcc (by decide) (by decide) (Nat.le_of_ble_eq_true rfl) (Nat.zero_add _).symm (Nat.zero_add _).symm aj_f0 aj_f0 (s_J0_coder_7d493 hcc ?_)
    show aj_X G 14 _ _ _ _ _ _ _ _ _
    refine x_icmp_eq (q := 17) (t := 21) C 6 rfl (by decide) rfl (fun c2 => ?_) (fun c2 => ?_)
    · skip
      exact x_return C Z 9 rfl rfl (hK)
    · skip
      exact absurd rfl c2
set_option maxRecDepth 100000 in
set_option maxHeartbeats 800000 in
theorem s_J5_putStringAt_47b60 {l : Launch} {I : Nat → Nat → Int32} {J : Nat → Nat → Int64} {V : Nat → Nat → Option Nat} {N : Nat → Nat} {L : List Nat} {K : aj_K} {c : Nat} (hcc : c < 2) {B v n : Nat} (hBk : B % 16 = 1) (hvk : v % 16 = 10) (hBL : B ∈ L) (hvL : v ∈ L) (hV0 : V B 0 = some v) (hc : I B 1 = 0) (hnv : n + aj_kl c ≤ N v ∧ N v ≤ 70) (hF : tF I v) (hK : ∀ I1, (∀ a, a ≠ v → I1 a = I a) → tF I1 v → K (.inl none) I1 J V N L) : aj_M l yJ5_putStringAt_47b60 (aj_wc yJ5_putStringAt_47b60 cJ5_putStringAt_47b60 3 none) (aj_rm 3 0 0) [] [.ref B, .int (nI n), .ref (28 + 16 * c)] I J V N L K := by
  refine aj_intro (tbl := t_J5_putStringAt_47b60) (lv0 := [some (.ref B), some (.int (nI n)), some (.ref (28 + 16 * c))]) (by decide) T_J5_putStringAt_47b60 aj_f0 (Nat.le_of_ble_eq_true rfl) rfl ?_
  intro G hl C Z NX hnm hGL hGF
  have C : aj_C G cJ5_putStringAt_47b60 t_J5_putStringAt_47b60 RJ5 (aj_rm 3 0 0) 3 := C
  refine y_aload0 (q := 1) C 0 rfl rfl ?_
  refine y_aload2 (q := 2) C 1 rfl rfl ?_
  refine y_U1 (q := 5) C 2 rfl rfl cu_RJ5_397 cd_J5_inflateIfNeededFor_a7421 ⟨by rw [hBk]; decide, by rw [hBk]; rfl⟩ hBL (by decide) (by decide) (Nat.le_of_ble_eq_true rfl) (Nat.zero_add _).symm (Nat.zero_add _).symm aj_f0 aj_f0 (s_J5_inflateIfNeededFor_a7421 hcc hBk hBL hc ?_)
  show aj_X G 5 _ _ _ _ _ _ _ _ _
  refine y_aload2 (q := 6) C 3 rfl rfl ?_
  refine y_aload0 (q := 7) C 4 rfl rfl ?_
  refine x_getR (q := 10) C 5 rfl rfl fl_RJ5_15 hV0 (fun _ _ => rfl) (by first | assumption | rfl | decide | exact hB _ (by decide)) (by first | assumption | rfl | decide | exact hB _ (by decide)) ?_
  refine y_iload1 (q := 11) C 6 rfl rfl ?_
  refine y_aload0 (q := 12) C 7 rfl rfl ?_
  refine x_getI (q := 15) C 8 rfl rfl fl_RJ5_22 (fun _ _ => rfl) (by first | assumption | rfl | decide | exact hB _ (by decide)) (by first | assumption | rfl | decide | exact hB _ (by decide)) ?_
  rw [hc]
  refine y_K3 (q := 18) C 9 rfl rfl ml_RJ5_399 cd_J0_getBytes_840e7 cv_J0_getBytes_840e7 rfl hcc (by decide) (by decide) (Nat.le_of_ble_eq_true rfl) (Nat.zero_add _).symm (Nat.zero_add _).symm aj_f0 aj_f0 (s_J0_getBytes_840e7 hcc hvk hvL hnv hF ?_)
  intro I1 e1 f1
  show aj_X G 18 _ _ _ _ _ _ _ _ _
  exact x_return C Z 10 rfl rfl (hK _ e1 f1)
set_option maxRecDepth 100000 in
set_option maxHeartbeats 800000 in
theorem s_J5_append_cf1ce {l : Launch} {I : Nat → Nat → Int32} {J : Nat → Nat → Int64} {V : Nat → Nat → Option Nat} {N : Nat → Nat} {L : List Nat} {K : aj_K} {B v w n : Nat} (hBk : B % 16 = 1) (hvk : v % 16 = 10) (hwk : w % 16 = 10) (hwL : w ∉ L) (hwV : ∀ i ∈ L, ∀ j, V i j ≠ some w) (hT : tB B v n I V N L) {c : Nat} (hcc : c < 2) (hn2 : n + aj_kl c ≤ 70) (hK : ∀ I1 V1 N1 L1, tA B v w (n + aj_kl c) (n + aj_kl c) I V N L I1 V1 N1 L1 → K (.inl (some (.ref B))) I1 J V1 N1 L1) : aj_M l yJ5_append_cf1ce (aj_wc yJ5_append_cf1ce cJ5_append_cf1ce 3 (some (.object "java/lang/AbstractStringBuilder"))) (aj_rm 4 1 70) [w] [.ref B, .ref (28 + 16 * c)] I J V N L K := by
  refine aj_intro (tbl := t_J5_append_cf1ce) (lv0 := [some (.ref B), some (.ref (28 + 16 * c)), none]) (by decide) T_J5_append_cf1ce (fun i h => by cases List.mem_singleton.mp h; unfold aj_sp; omega) (Nat.le_of_ble_eq_true rfl) rfl ?_
  intro G hl C Z NX hnm hGL hGF
  have C : aj_C G cJ5_append_cf1ce t_J5_append_cf1ce RJ5 (aj_rm 4 1 70) 3 := C
  have hT0 := hT
  obtain ⟨⟨hBL, hvL, hvB⟩, hV0, hVn, hc, hn, hnN, hN, hF⟩ := hT
  have hBw : B ≠ w := fun e => hwL (e ▸ hBL)
  have hvw : v ≠ w := fun e => hwL (e ▸ hvL)
  have hkl := aj_kl_le c
  have hcw : ¬ 28 + 16 * c = w := fun e => by omega
  refine y_aload1 (q := 1) C 0 rfl rfl ?_
  refine x_ifnonnull (t := 9) C 1 rfl (by decide) ?_
  refine y_aload1 (q := 10) C 5 rfl rfl ?_
  refine y_K0 (q := 13) C 6 rfl rfl ml_RJ5_32 cd_J0_length_8abf5 cv_J0_length_8abf5 rfl hcc (by decide) (by decide) (Nat.le_of_ble_eq_true rfl) (Nat.zero_add _).symm (Nat.zero_add _).symm aj_f0 aj_f0 (s_J0_length_8abf5 hcc ?_)
  show aj_X G 13 _ _ _ _ _ _ _ _ _
  refine y_istore2 (q := 14) C 7 rfl rfl (Nat.le_of_ble_eq_true rfl) rfl ?_
  refine y_aload0 (q := 15) C 8 rfl rfl ?_
  refine y_aload0 (q := 16) C 9 rfl rfl ?_
  refine x_getI (q := 19) C 10 rfl rfl fl_RJ5_79 (fun _ _ => rfl) (by first | assumption | rfl | decide | exact hB _ (by decide)) (by first | assumption | rfl | decide | exact hB _ (by decide)) ?_
  rw [hn]
  refine y_iload2 (q := 20) C 11 rfl rfl ?_
  refine x_iadd (q := 21) C 12 rfl rfl ?_
  rw [nI_add]
  refine y_U1 (q := 24) (bc' := 0) (bs' := 0) C 13 rfl rfl cu_RJ5_100 cd_J5_ensureCapacityInternal_d00df ⟨by rw [hBk]; decide, by rw [hBk]; rfl⟩ hBL (by decide) (by decide) (Nat.le_of_ble_eq_true rfl) rfl rfl (by rw [hGF]; exact fun i h => h) (by intro i h; cases List.mem_singleton.mp h; refine ⟨?_, ?_⟩ <;> simp [hBw, hcw]) (s_J5_ensureCapacityInternal_d00df hBk hvk hwk hwL hwV hT0 ⟨by omega, by omega, by omega⟩ ?_)
  intro I1 V1 N1 L1 hA
  obtain ⟨v1, hv1k, hT1, hm1, hv1⟩ := tA.row hA hvk hwk
  have hT2 := hT1
  obtain ⟨⟨hBL1, hvL1, hvB1⟩, hV01, hVn1, hc1, hn1, hnN1, hN1, hF1⟩ := hT1
  show aj_X G 24 _ _ _ _ _ _ _ _ _
  refine y_aload0 (q := 25) C 14 rfl rfl ?_
  refine y_aload0 (q := 26) C 15 rfl rfl ?_
  refine x_getI (q := 29) C 16 rfl rfl fl_RJ5_79 (fun _ _ => rfl) (by first | assumption | rfl | decide | exact hB _ (by decide)) (by first | assumption | rfl | decide | exact hB _ (by decide)) ?_
  rw [hn1]
  refine y_aload1 (q := 30) C 17 rfl rfl ?_
  refine y_U2 (q := 33) C 18 rfl rfl cu_RJ5_208 cd_J5_putStringAt_47b60 ⟨by rw [hBk]; decide, by rw [hBk]; rfl⟩ hBL1 (by decide) (by decide) (Nat.le_of_ble_eq_true rfl) (Nat.zero_add _).symm (Nat.zero_add _).symm aj_f0 aj_f0 (s_J5_putStringAt_47b60 hcc hBk hv1k hBL1 hvL1 hV01 hc1 ⟨hm1, by omega⟩ hF1 ?_)
  intro I2 e2 f2
  show aj_X G 33 _ _ _ _ _ _ _ _ _
  refine y_aload0 (q := 34) C 19 rfl rfl ?_
  refine x_dupr (q := 35) C 20 rfl rfl ?_
  refine x_getI (q := 38) C 21 rfl rfl fl_RJ5_79 (fun _ _ => rfl) (by first | assumption | rfl | decide | exact hB _ (by decide)) (by first | assumption | rfl | decide | exact hB _ (by decide)) ?_
  rw [(show I2 B 3 = nI n by rw [e2 B (Ne.symm hvB1)]; exact hn1)]
  refine y_iload2 (q := 39) C 22 rfl rfl ?_
  refine x_iadd (q := 40) C 23 rfl rfl ?_
  rw [nI_add]
  refine x_putI (q := 43) C 24 rfl rfl fl_RJ5_79 rfl rfl (by first | assumption | rfl | decide | exact hB _ (by decide)) (by first | assumption | rfl | decide | exact hB _ (by decide)) ?_
  refine y_aload0 (q := 44) C 25 rfl rfl ?_
  exact x_areturn C Z 26 rfl rfl (by first | exact Or.inl ⟨_, rfl⟩ | exact Or.inr ⟨_, rfl⟩) (hK _ _ _ _ (tA.put hA (fun v2 hT3 hm2 hc2 => by cases tA.V0 hT2 hT3; exact ⟨hm1, fun a h1 h2 => by rw [aj_u_o _ _ h1, e2 a h2], by rw [aj_u_k _ _ _ (by decide), e2 B (Ne.symm hvB1)]; exact hc1, aj_u_s _ _ _ _, tF.o f2 (aj_u_o _ _ hvB1)⟩)))
set_option maxRecDepth 100000 in
set_option maxHeartbeats 800000 in
theorem s_J4_append_cf468 {l : Launch} {I : Nat → Nat → Int32} {J : Nat → Nat → Int64} {V : Nat → Nat → Option Nat} {N : Nat → Nat} {L : List Nat} {K : aj_K} {B v w n : Nat} (hBk : B % 16 = 1) (hvk : v % 16 = 10) (hwk : w % 16 = 10) (hwL : w ∉ L) (hwV : ∀ i ∈ L, ∀ j, V i j ≠ some w) (hT : tB B v n I V N L) (hn2 : n + 1 ≤ 70) (hK : ∀ I1 V1 N1 L1, tA B v w (n + 1) (n + 1) I V N L I1 V1 N1 L1 → K (.inl (some (.ref B))) I1 J V1 N1 L1) : aj_M l yJ4_append_cf468 (aj_wc yJ4_append_cf468 cJ4_append_cf468 2 (some (.object "java/lang/StringBuilder"))) (aj_rm 5 1 70) [w] [.ref B, .int 32] I J V N L K := by
  refine aj_intro (tbl := t_J4_append_cf468) (lv0 := [some (.ref B), some (.int 32)]) (by decide) T_J4_append_cf468 (fun i h => by cases List.mem_singleton.mp h; unfold aj_sp; omega) (Nat.le_of_ble_eq_true rfl) rfl ?_
  intro G hl C Z NX hnm hGL hGF
  have C : aj_C G cJ4_append_cf468 t_J4_append_cf468 RJ4 (aj_rm 5 1 70) 2 := C
  have hT0 := hT
  obtain ⟨⟨hBL, hvL, hvB⟩, hV0, hVn, hc, hn, hnN, hN, hF⟩ := hT
  have hBw : B ≠ w := fun e => hwL (e ▸ hBL)
  have hvw : v ≠ w := fun e => hwL (e ▸ hvL)
  refine y_aload0 (q := 1) C 0 rfl rfl ?_
  refine y_iload1 (q := 2) C 1 rfl rfl ?_
  refine y_P1 (q := 5) (bc' := 0) (bs' := 0) C 2 rfl rfl su_RJ4_50 cd_J5_append_3fe6f ⟨by rw [hBk]; decide, by rw [hBk]; rfl⟩ hBL (by decide) (by decide) (Nat.le_of_ble_eq_true rfl) rfl rfl (by rw [hGF]; exact fun i h => h) (by intro i h; cases List.mem_singleton.mp h; refine ⟨?_, ?_⟩ <;> simp [*]) (s_J5_append_3fe6f hBk hvk hwk hwL hwV hT0 hn2 ?_)
  intro I1 V1 N1 L1 hA
  show aj_X G 5 _ _ _ _ _ _ _ _ _
  refine x_pop (q := 6) C 3 rfl rfl rfl ?_
  refine y_aload0 (q := 7) C 4 rfl rfl ?_
  exact x_areturn C Z 5 rfl rfl (by first | exact Or.inl ⟨_, rfl⟩ | exact Or.inr ⟨_, rfl⟩) (hK _ _ _ _ hA)
set_option maxRecDepth 100000 in
set_option maxHeartbeats 800000 in
theorem s_J4_append_bf812 {l : Launch} {I : Nat → Nat → Int32} {J : Nat → Nat → Int64} {V : Nat → Nat → Option Nat} {N : Nat → Nat} {L : List Nat} {K : aj_K} {B v w n : Nat} (hBk : B % 16 = 1) (hvk : v % 16 = 10) (hwk : w % 16 = 10) (hwL : w ∉ L) (hwV : ∀ i ∈ L, ∀ j, V i j ≠ some w) (hT : tB B v n I V N L) {i : Nat} (hi : i < 12) (hn2 : n + sz i ≤ 70) (hK : ∀ I1 V1 N1 L1, tA B v w (n + sz i) (n + sz i) I V N L I1 V1 N1 L1 → K (.inl (some (.ref B))) I1 J V1 N1 L1) : aj_M l yJ4_append_bf812 (aj_wc yJ4_append_bf812 cJ4_append_bf812 2 (some (.object "java/lang/StringBuilder"))) (aj_rm 5 1 70) [w] [.ref B, .int (nI i)] I J V N L K := by
  refine aj_intro (tbl := t_J4_append_bf812) (lv0 := [some (.ref B), some (.int (nI i))]) (by decide) T_J4_append_bf812 (fun i h => by cases List.mem_singleton.mp h; unfold aj_sp; omega) (Nat.le_of_ble_eq_true rfl) rfl ?_
  intro G hl C Z NX hnm hGL hGF
  have C : aj_C G cJ4_append_bf812 t_J4_append_bf812 RJ4 (aj_rm 5 1 70) 2 := C
  have hT0 := hT
  obtain ⟨⟨hBL, hvL, hvB⟩, hV0, hVn, hc, hn, hnN, hN, hF⟩ := hT
  have hBw : B ≠ w := fun e => hwL (e ▸ hBL)
  have hvw : v ≠ w := fun e => hwL (e ▸ hvL)
  refine y_aload0 (q := 1) C 0 rfl rfl ?_
  refine y_iload1 (q := 2) C 1 rfl rfl ?_
  refine y_P1 (q := 5) (bc' := 0) (bs' := 0) C 2 rfl rfl su_RJ4_53 cd_J5_append_c97b9 ⟨by rw [hBk]; decide, by rw [hBk]; rfl⟩ hBL (by decide) (by decide) (Nat.le_of_ble_eq_true rfl) rfl rfl (by rw [hGF]; exact fun i h => h) (by intro i h; cases List.mem_singleton.mp h; refine ⟨?_, ?_⟩ <;> simp [*]) (s_J5_append_c97b9 hBk hvk hwk hwL hwV hT0 hi hn2 ?_)
  intro I1 V1 N1 L1 hA
  show aj_X G 5 _ _ _ _ _ _ _ _ _
  refine x_pop (q := 6) C 3 rfl rfl rfl ?_
  refine y_aload0 (q := 7) C 4 rfl rfl ?_
  exact x_areturn C Z 5 rfl rfl (by first | exact Or.inl ⟨_, rfl⟩ | exact Or.inr ⟨_, rfl⟩) (hK _ _ _ _ hA)
set_option maxRecDepth 100000 in
set_option maxHeartbeats 800000 in
theorem s_J4_append_15ec4 {l : Launch} {I : Nat → Nat → Int32} {J : Nat → Nat → Int64} {V : Nat → Nat → Option Nat} {N : Nat → Nat} {L : List Nat} {K : aj_K} {B v w n : Nat} (hBk : B % 16 = 1) (hvk : v % 16 = 10) (hwk : w % 16 = 10) (hwL : w ∉ L) (hwV : ∀ i ∈ L, ∀ j, V i j ≠ some w) (hT : tB B v n I V N L) {c : Nat} (hcc : c < 2) (hn2 : n + aj_kl c ≤ 70) (hK : ∀ I1 V1 N1 L1, tA B v w (n + aj_kl c) (n + aj_kl c) I V N L I1 V1 N1 L1 → K (.inl (some (.ref B))) I1 J V1 N1 L1) : aj_M l yJ4_append_15ec4 (aj_wc yJ4_append_15ec4 cJ4_append_15ec4 2 (some (.object "java/lang/StringBuilder"))) (aj_rm 5 1 70) [w] [.ref B, .ref (28 + 16 * c)] I J V N L K := by
  refine aj_intro (tbl := t_J4_append_15ec4) (lv0 := [some (.ref B), some (.ref (28 + 16 * c))]) (by decide) T_J4_append_15ec4 (fun i h => by cases List.mem_singleton.mp h; unfold aj_sp; omega) (Nat.le_of_ble_eq_true rfl) rfl ?_
  intro G hl C Z NX hnm hGL hGF
  have C : aj_C G cJ4_append_15ec4 t_J4_append_15ec4 RJ4 (aj_rm 5 1 70) 2 := C
  have hT0 := hT
  obtain ⟨⟨hBL, hvL, hvB⟩, hV0, hVn, hc, hn, hnN, hN, hF⟩ := hT
  have hBw : B ≠ w := fun e => hwL (e ▸ hBL)
  have hvw : v ≠ w := fun e => hwL (e ▸ hvL)
  have hcw : ¬ 28 + 16 * c = w := fun e => by omega
  refine y_aload0 (q := 1) C 0 rfl rfl ?_
  refine y_aload1 (q := 2) C 1 rfl rfl ?_
  refine y_P1 (q := 5) (bc' := 0) (bs' := 0) C 2 rfl rfl su_RJ4_29 cd_J5_append_cf1ce ⟨by rw [hBk]; decide, by rw [hBk]; rfl⟩ hBL (by decide) (by decide) (Nat.le_of_ble_eq_true rfl) rfl rfl (by rw [hGF]; exact fun i h => h) (by intro i h; cases List.mem_singleton.mp h; refine ⟨?_, ?_⟩ <;> simp [hBw, hcw]) (s_J5_append_cf1ce hBk hvk hwk hwL hwV hT0 hcc hn2 ?_)
  intro I1 V1 N1 L1 hA
  show aj_X G 5 _ _ _ _ _ _ _ _ _
  refine x_pop (q := 6) C 3 rfl rfl rfl ?_
  refine y_aload0 (q := 7) C 4 rfl rfl ?_
  exact x_areturn C Z 5 rfl rfl (by first | exact Or.inl ⟨_, rfl⟩ | exact Or.inr ⟨_, rfl⟩) (hK _ _ _ _ hA)
set_option maxRecDepth 100000 in
set_option maxHeartbeats 800000 in
theorem s_J5_init_d00df {l : Launch} {I : Nat → Nat → Int32} {J : Nat → Nat → Int64} {V : Nat → Nat → Option Nat} {N : Nat → Nat} {L : List Nat} {K : aj_K} {B v : Nat} (hBk : B % 16 = 1) (hvk : v % 16 = 10) (hBL : B ∈ L) (hvL : v ∉ L) (hvV : ∀ i ∈ L, ∀ j, V i j ≠ some v) (hI : I B = fun _ => 0) (hV : V B = fun _ => none) (hK : ∀ I1 V1 N1, tB B v 0 I1 V1 N1 (L ++ [v]) → (∀ a, a ≠ B → a ≠ v → I1 a = I a) → (∀ a, a ≠ B → V1 a = V a) → (∀ a, a ≠ v → N1 a = N a) → K (.inl none) I1 J V1 N1 (L ++ [v])) : aj_M l yJ5_init_d00df (aj_wc yJ5_init_d00df cJ5_init_d00df 2 none) (aj_rm 2 1 16) [v] [.ref B, .int 16] I J V N L K := by
  refine aj_intro (tbl := t_J5_init_d00df) (lv0 := [some (.ref B), some (.int 16)]) (by decide) T_J5_init_d00df (fun i h => by cases List.mem_singleton.mp h; unfold aj_sp; omega) (Nat.le_of_ble_eq_true rfl) rfl ?_
  intro G hl C Z NX hnm hGL hGF
  have C : aj_C G cJ5_init_d00df t_J5_init_d00df RJ5 (aj_rm 2 1 16) 2 := C
  have hBv : B ≠ v := fun e => hvL (e ▸ hBL)
  refine y_aload0 (q := 1) C 0 rfl rfl ?_
  refine x_objInit (q := 4) C 1 rfl rfl ml_RJ5_3 ob_init ⟨by decide, Nat.le_of_ble_eq_true rfl⟩ ?_
  refine x_getCS (q := 7) C 2 rfl rfl gs_RJ5_18 ?_
  refine x_if_eq (q := 10) (t := 25) C 3 rfl (by decide) rfl (fun c1 => ?_) (fun c1 => ?_)
  · skip
    exact absurd c1 (by decide)
  · skip
    refine y_aload0 (q := 11) C 4 rfl rfl ?_
    refine y_iload1 (q := 12) C 5 rfl rfl ?_
    refine x_newB (q := 14) (bc' := 0) (bs' := 0) C 6 v (n' := 16) (m := 16) rfl rfl ac_byte (by decide) rfl (Nat.le_refl _) (by decide) hvk (by rw [hGF]; exact List.mem_singleton_self _) hvL hvV (by refine ⟨?_, ?_⟩ <;> simp [*]) rfl rfl ?_
    refine x_putR (q := 17) C 7 rfl rfl fl_RJ5_15 rfl (fun _ _ _ => rfl) (fun _ => rfl) (fun _ => rfl) (by first | assumption | rfl | decide | exact List.mem_append_left _ hBL) (by first | assumption | rfl | decide | exact List.mem_append_left _ hBL) ?_
    refine y_aload0 (q := 18) C 8 rfl rfl ?_
    refine x_iconst (q := 19) C 9 (n := (0)) (v := (0)) rfl rfl rfl ?_
    refine x_putB (q := 22) C 10 rfl rfl fl_RJ5_22 rfl (fun _ _ _ => rfl) rfl rfl (by first | assumption | rfl | decide | exact List.mem_append_left _ hBL) (by first | assumption | rfl | decide | exact List.mem_append_left _ hBL) ?_
    refine x_goto (t := 38) C 11 rfl (by decide) ?_
    exact x_return C Z 19 rfl rfl (hK _ _ _ ⟨⟨List.mem_append_left _ hBL, List.mem_append_right _ (List.mem_singleton_self _), Ne.symm hBv⟩, aj_u_s _ _ _ _, fun j hj => by rw [aj_u_k _ _ _ hj, hV], aj_u_s _ _ _ _, by rw [aj_u_k _ _ _ (by decide), aj_z_o _ _ hBv, hI]; exact nI_0.symm, Nat.zero_le _, Or.inl (aj_ur_s _ _ _), tF.o tF.z (aj_u_o _ _ (Ne.symm hBv))⟩ (fun a h1 h2 => by rw [aj_u_o _ _ h1, aj_z_o _ _ h2]) (fun a h => aj_u_o _ _ h) (fun a h => aj_ur_n _ _ h))
set_option maxRecDepth 100000 in
set_option maxHeartbeats 800000 in
theorem s_J4_init_da8c8 {l : Launch} {I : Nat → Nat → Int32} {J : Nat → Nat → Int64} {V : Nat → Nat → Option Nat} {N : Nat → Nat} {L : List Nat} {K : aj_K} {B v : Nat} (hBk : B % 16 = 1) (hvk : v % 16 = 10) (hBL : B ∈ L) (hvL : v ∉ L) (hvV : ∀ i ∈ L, ∀ j, V i j ≠ some v) (hI : I B = fun _ => 0) (hV : V B = fun _ => none) (hK : ∀ I1 V1 N1, tB B v 0 I1 V1 N1 (L ++ [v]) → (∀ a, a ≠ B → a ≠ v → I1 a = I a) → (∀ a, a ≠ B → V1 a = V a) → (∀ a, a ≠ v → N1 a = N a) → K (.inl none) I1 J V1 N1 (L ++ [v])) : aj_M l yJ4_init_da8c8 (aj_wc yJ4_init_da8c8 cJ4_init_da8c8 1 none) (aj_rm 3 1 16) [v] [.ref B] I J V N L K := by
  refine aj_intro (tbl := t_J4_init_da8c8) (lv0 := [some (.ref B)]) (by decide) T_J4_init_da8c8 (fun i h => by cases List.mem_singleton.mp h; unfold aj_sp; omega) (Nat.le_of_ble_eq_true rfl) rfl ?_
  intro G hl C Z NX hnm hGL hGF
  have C : aj_C G cJ4_init_da8c8 t_J4_init_da8c8 RJ4 (aj_rm 3 1 16) 1 := C
  have hBv : B ≠ v := fun e => hvL (e ▸ hBL)
  refine y_aload0 (q := 1) C 0 rfl rfl ?_
  refine x_bipush (q := 3) C 1 (n := (16)) (v := (16)) rfl rfl rfl ?_
  refine y_I1 (q := 6) (bc' := 0) (bs' := 0) C 2 rfl rfl ml_RJ4_1 cd_J5_init_d00df iv_J5_init_d00df rfl trivial (by decide) (by decide) (Nat.le_of_ble_eq_true rfl) rfl rfl (by rw [hGF]; exact fun i h => h) (by intro i h; cases List.mem_singleton.mp h; refine ⟨?_, ?_⟩ <;> simp [*]) (s_J5_init_d00df hBk hvk hBL hvL hvV hI hV ?_)
  intro I1 V1 N1 a1 a2 a3 a4
  show aj_X G 6 _ _ _ _ _ _ _ _ _
  exact x_return C Z 3 rfl rfl (hK _ _ _ a1 a2 a3 a4)
set_option maxRecDepth 100000 in
set_option maxHeartbeats 800000 in
theorem s_J7_checkLength_df160 {l : Launch} {I : Nat → Nat → Int32} {J : Nat → Nat → Int64} {V : Nat → Nat → Option Nat} {N : Nat → Nat} {L : List Nat} {K : aj_K} {n : Nat} (hn : n ≤ 70) (hK : K (.inl none) I J V N L) : aj_M l yJ7_checkLength_df160 (aj_wc yJ7_checkLength_df160 cJ7_checkLength_df160 2 none) (aj_rm 1 0 0) [] [.int 0, .int (nI n)] I J V N L K := by
  refine aj_intro (tbl := t_J7_checkLength_df160) (lv0 := [some (.int 0), some (.int (nI n))]) (by decide) T_J7_checkLength_df160 aj_f0 (Nat.le_of_ble_eq_true rfl) rfl ?_
  intro G hl C Z NX hnm hGL hGF
  have C : aj_C G cJ7_checkLength_df160 t_J7_checkLength_df160 RJ7 (aj_rm 1 0 0) 2 := C
  refine y_iload1 (q := 1) C 0 rfl rfl ?_
  refine y_iload0 (q := 2) C 1 rfl rfl ?_
  refine x_icmp_ge (q := 5) (t := 37) C 2 rfl (by decide) rfl (fun c1 => ?_) (fun c1 => ?_)
  · skip
    exact x_return C Z 17 rfl rfl (hK)
  · skip
    exact absurd (nI_pos' (n := n) (by omega)) c1
set_option maxRecDepth 100000 in
set_option maxHeartbeats 800000 in
theorem s_J7_copyOfRangeByte_39247 {l : Launch} {I : Nat → Nat → Int32} {J : Nat → Nat → Int64} {V : Nat → Nat → Option Nat} {N : Nat → Nat} {L : List Nat} {K : aj_K} {v u n : Nat} (hvk : v % 16 = 10) (huk : u % 16 = 10) (hvL : v ∈ L) (huL : u ∉ L) (huV : ∀ i ∈ L, ∀ j, V i j ≠ some u) (hnv : n ≤ N v ∧ N v ≤ 70) (hF : tF I v) (hK : ∀ I1, (∀ a, a ≠ u → I1 a = I a) → K (.inl (some (.ref u))) I1 J V (aj_ur N u n) (L ++ [u])) : aj_M l yJ7_copyOfRangeByte_39247 (aj_wc yJ7_copyOfRangeByte_39247 cJ7_copyOfRangeByte_39247 5 (some (.array .byte))) (aj_rm 2 1 70) [u] [.ref v, .int 0, .int (nI n)] I J V N L K := by
  refine aj_intro (tbl := t_J7_copyOfRangeByte_39247) (lv0 := [some (.ref v), some (.int 0), some (.int (nI n)), none, none]) (by decide) T_J7_copyOfRangeByte_39247 (fun i h => by cases List.mem_singleton.mp h; unfold aj_sp; omega) (Nat.le_of_ble_eq_true rfl) rfl ?_
  intro G hl C Z NX hnm hGL hGF
  have C : aj_C G cJ7_copyOfRangeByte_39247 t_J7_copyOfRangeByte_39247 RJ7 (aj_rm 2 1 70) 5 := C
  have hvu : v ≠ u := fun e => huL (e ▸ hvL)
  refine y_iload1 (q := 1) C 0 rfl rfl ?_
  refine y_iload2 (q := 2) C 1 rfl rfl ?_
  refine y_cS2 (q := 5) C 2 rfl rfl ml_RJ7_343 cd_J7_checkLength_df160 sv_J7_checkLength_df160 (by decide) (by decide) (Nat.le_of_ble_eq_true rfl) (s_J7_checkLength_df160 (by omega) ?_)
  show aj_X G 5 _ _ _ _ _ _ _ _ _
  refine y_iload2 (q := 6) C 3 rfl rfl ?_
  refine y_iload1 (q := 7) C 4 rfl rfl ?_
  refine x_isub (q := 8) C 5 rfl rfl ?_
  rw [Int32.sub_zero]
  refine y_istore3 (q := 9) C 6 rfl rfl (Nat.le_of_ble_eq_true rfl) rfl ?_
  refine y_iload3 (q := 10) C 7 rfl rfl ?_
  refine x_newB (q := 12) (bc' := 0) (bs' := 0) C 8 u (n' := n) (m := 70) rfl rfl ac_byte (nI_pos (by omega)) (nI_clamp (by omega)) (by omega) (by decide) huk (by rw [hGF]; exact List.mem_singleton_self _) huL huV (by refine ⟨?_, ?_⟩ <;> simp [*]) rfl rfl ?_
  refine y_astore4 (q := 14) C 9 rfl rfl (Nat.le_of_ble_eq_true rfl) rfl ?_
  refine y_aload0 (q := 15) C 10 rfl rfl ?_
  refine y_iload1 (q := 16) C 11 rfl rfl ?_
  refine y_aload4 (q := 18) C 12 rfl rfl ?_
  refine x_iconst (q := 19) C 13 (n := (0)) (v := (0)) rfl rfl rfl ?_
  refine y_aload0 (q := 20) C 14 rfl rfl ?_
  refine x_alenB (q := 21) C 15 rfl rfl (by first | assumption | rfl | decide | exact List.mem_append_left _ hvL) (by first | assumption | rfl | decide | exact List.mem_append_left _ hvL) ?_
  rw [aj_ur_n N n hvu]
  show aj_X G 21 _ (.int (nI (N v)) :: _) _ _ _ _ _ _ _
  refine y_iload1 (q := 22) C 16 rfl rfl ?_
  refine x_isub (q := 23) C 17 rfl rfl ?_
  rw [Int32.sub_zero]
  refine y_iload3 (q := 24) C 18 rfl rfl ?_
  refine x_min (q := 27) C 19 rfl rfl mw_RJ7_304 ⟨by decide, Nat.le_of_ble_eq_true rfl⟩ ?_
  rw [mn_nI hnv.1 (by omega)]
  refine x_copyB (q := 30) C 20 rfl rfl acp_RJ7_150 ⟨by decide, Nat.le_of_ble_eq_true rfl⟩ hvk (List.mem_append_left _ hvL) huk (List.mem_append_right _ (List.mem_singleton_self _)) (by decide) (by decide) (nI_pos (by omega)) (by rw [aj_ur_n N n hvu, nI_clamp (by omega)]; exact Nat.le_trans (Nat.le_of_eq (Nat.zero_add _)) hnv.1) (by rw [aj_ur_s, nI_clamp (by omega)]; exact Nat.le_of_eq (Nat.zero_add _)) (fun t => by rw [aj_z_o I 0 hvu]; exact hF t) ?_
  refine y_aload4 (q := 32) C 21 rfl rfl ?_
  exact x_areturn C Z 22 rfl rfl (by first | exact Or.inl ⟨_, rfl⟩ | exact Or.inr ⟨_, rfl⟩) (hK _ (fun a ha => by rw [aj_ur_n _ _ ha, aj_z_o I 0 ha]))
set_option maxRecDepth 100000 in
set_option maxHeartbeats 800000 in
theorem s_J7_copyOfRange_39247 {l : Launch} {I : Nat → Nat → Int32} {J : Nat → Nat → Int64} {V : Nat → Nat → Option Nat} {N : Nat → Nat} {L : List Nat} {K : aj_K} {v u n : Nat} (hvk : v % 16 = 10) (huk : u % 16 = 10) (hvL : v ∈ L) (huL : u ∉ L) (huV : ∀ i ∈ L, ∀ j, V i j ≠ some u) (hnv : n ≤ N v ∧ N v ≤ 70) (hF : tF I v) (hK : ∀ I1, (∀ a, a ≠ u → I1 a = I a) → K (.inl (some (.ref u))) I1 J V (aj_ur N u n) (L ++ [u])) : aj_M l yJ7_copyOfRange_39247 (aj_wc yJ7_copyOfRange_39247 cJ7_copyOfRange_39247 3 (some (.array .byte))) (aj_rm 3 1 70) [u] [.ref v, .int 0, .int (nI n)] I J V N L K := by
  refine aj_intro (tbl := t_J7_copyOfRange_39247) (lv0 := [some (.ref v), some (.int 0), some (.int (nI n))]) (by decide) T_J7_copyOfRange_39247 (fun i h => by cases List.mem_singleton.mp h; unfold aj_sp; omega) (Nat.le_of_ble_eq_true rfl) rfl ?_
  intro G hl C Z NX hnm hGL hGF
  have C : aj_C G cJ7_copyOfRange_39247 t_J7_copyOfRange_39247 RJ7 (aj_rm 3 1 70) 3 := C
  have hvu : v ≠ u := fun e => huL (e ▸ hvL)
  refine y_iload1 (q := 1) C 0 rfl rfl ?_
  refine x_if_ne (q := 4) (t := 10) C 1 rfl (by decide) rfl (fun c1 => ?_) (fun c1 => ?_)
  · skip
    exact absurd rfl c1
  · skip
    refine y_iload2 (q := 5) C 2 rfl rfl ?_
    refine y_aload0 (q := 6) C 3 rfl rfl ?_
    refine x_alenB (q := 7) C 4 rfl rfl (by first | assumption | rfl | decide | exact hB _ (by decide)) (by first | assumption | rfl | decide | exact hB _ (by decide)) ?_
    show aj_X G 7 _ (.int (nI (N v)) :: _) _ _ _ _ _ _ _
    refine x_icmp_eq (q := 10) (t := 17) C 5 rfl (by decide) rfl (fun c2 => ?_) (fun c2 => ?_)
    · skip
      refine y_aload0 (q := 18) C 11 rfl rfl ?_
      refine x_clone (q := 21) (bc' := 0) (bs' := 0) C 12 u (m := 70) rfl rfl clo_RJ7_310 ⟨by decide, Nat.le_of_ble_eq_true rfl⟩ hvk hvL (by omega) hF huk (by rw [hGF]; exact List.mem_singleton_self _) huL huV (by refine ⟨?_, ?_⟩ <;> simp [*]) rfl rfl ?_
      refine x_castB (q := 24) C 13 rfl rfl cl_RJ7_311 huk (List.mem_append_right _ (List.mem_singleton_self _)) ?_
      exact x_areturn C Z 14 rfl rfl (by first | exact Or.inl ⟨_, rfl⟩ | exact Or.inr ⟨_, rfl⟩) (by have e : n = N v := (nI_eq (by omega) (by omega)).mp ‹nI n = nI (N v)›; have z := hK (aj_ur I u (I v)) (fun a ha => aj_ur_n _ _ ha); rw [e] at z; exact z)
    · skip
      refine y_aload0 (q := 11) C 6 rfl rfl ?_
      refine y_iload1 (q := 12) C 7 rfl rfl ?_
      refine y_iload2 (q := 13) C 8 rfl rfl ?_
      refine y_T3 (q := 16) (bc' := 0) (bs' := 0) C 9 rfl rfl ml_RJ7_339 cd_J7_copyOfRangeByte_39247 sv_J7_copyOfRangeByte_39247 (by decide) (by decide) (Nat.le_of_ble_eq_true rfl) rfl rfl (by rw [hGF]; exact fun i h => h) (by intro i h; cases List.mem_singleton.mp h; refine ⟨?_, ?_⟩ <;> simp [*]) (s_J7_copyOfRangeByte_39247 hvk huk hvL huL huV hnv hF ?_)
      intro I1 e1
      show aj_X G 16 _ _ _ _ _ _ _ _ _
      exact x_areturn C Z 10 rfl rfl (by first | exact Or.inl ⟨_, rfl⟩ | exact Or.inr ⟨_, rfl⟩) (hK _ e1)
set_option maxRecDepth 100000 in
set_option maxHeartbeats 800000 in
theorem s_J0_init_db425 {l : Launch} {I : Nat → Nat → Int32} {J : Nat → Nat → Int64} {V : Nat → Nat → Option Nat} {N : Nat → Nat} {L : List Nat} {K : aj_K} {S B v u n : Nat} (hSk : S % 16 = 0) (hSL : S ∈ L) (hBk : B % 16 = 1) (hvk : v % 16 = 10) (huk : u % 16 = 10) (hT : tB B v n I V N L) (huL : u ∉ L) (huV : ∀ i ∈ L, ∀ j, V i j ≠ some u) (hK : ∀ I1, (∀ a, a ≠ S → a ≠ u → I1 a = I a) → K (.inl none) I1 J (aj_u V S 0 (some u)) (aj_ur N u n) (L ++ [u])) : aj_M l yJ0_init_db425 (aj_wc yJ0_init_db425 cJ0_init_db425 5 none) (aj_rm 4 1 70) [u] [.ref S, .ref B, .null] I J V N L K := by
  refine aj_intro (tbl := t_J0_init_db425) (lv0 := [some (.ref S), some (.ref B), some (.null), none, none]) (by decide) T_J0_init_db425 (fun i h => by cases List.mem_singleton.mp h; unfold aj_sp; omega) (Nat.le_of_ble_eq_true rfl) rfl ?_
  intro G hl C Z NX hnm hGL hGF
  have C : aj_C G cJ0_init_db425 t_J0_init_db425 RJ0 (aj_rm 4 1 70) 5 := C
  have hT0 := hT
  obtain ⟨⟨hBL, hvL, hvB⟩, hV0, hVn, hc, hn, hnN, hN, hF⟩ := hT
  have hSu : S ≠ u := fun e => huL (e ▸ hSL)
  have hBu : B ≠ u := fun e => huL (e ▸ hBL)
  have hvu : v ≠ u := fun e => huL (e ▸ hvL)
  have hvS : v ≠ S := fun e => by omega
  refine y_aload0 (q := 1) C 0 rfl rfl ?_
  refine x_objInit (q := 4) C 1 rfl rfl ml_RJ0_1 ob_init ⟨by decide, Nat.le_of_ble_eq_true rfl⟩ ?_
  refine y_aload1 (q := 5) C 2 rfl rfl ?_
  refine y_U0 (q := 8) C 3 rfl rfl cu_RJ0_552 cd_J5_getValue_6d5f1 ⟨by rw [hBk]; decide, by rw [hBk]; rfl⟩ hBL (by decide) (by decide) (Nat.le_of_ble_eq_true rfl) (Nat.zero_add _).symm (Nat.zero_add _).symm aj_f0 aj_f0 (s_J5_getValue_6d5f1 hBk hBL hV0 ?_)
  show aj_X G 8 _ _ _ _ _ _ _ _ _
  refine y_astore3 (q := 9) C 4 rfl rfl (Nat.le_of_ble_eq_true rfl) rfl ?_
  refine y_aload1 (q := 10) C 5 rfl rfl ?_
  refine y_O0 (q := 13) C 6 rfl rfl co_RJ0_549 (by decide +kernel) cd_J4_length_8abf5 ⟨by rw [hBk]; decide, by rw [hBk]; rfl⟩ hBL (by decide) (by decide) (Nat.le_of_ble_eq_true rfl) (Nat.zero_add _).symm (Nat.zero_add _).symm aj_f0 aj_f0 (s_J4_length_8abf5 hBk hBL ?_)
  show aj_X G 13 _ _ _ _ _ _ _ _ _
  rw [hn]
  refine y_istore4 (q := 15) C 7 rfl rfl (Nat.le_of_ble_eq_true rfl) rfl ?_
  refine y_aload1 (q := 16) C 8 rfl rfl ?_
  refine y_U0 (q := 19) C 9 rfl rfl cu_RJ0_1047 cd_J5_isLatin1_aae02 ⟨by rw [hBk]; decide, by rw [hBk]; rfl⟩ hBL (by decide) (by decide) (Nat.le_of_ble_eq_true rfl) (Nat.zero_add _).symm (Nat.zero_add _).symm aj_f0 aj_f0 (s_J5_isLatin1_aae02 hBk hBL hc ?_)
  show aj_X G 19 _ _ _ _ _ _ _ _ _
  refine x_if_eq (q := 22) (t := 41) C 10 rfl (by decide) rfl (fun c1 => ?_) (fun c1 => ?_)
  · skip
    exact absurd c1 (by decide)
  · skip
    refine y_aload0 (q := 23) C 11 rfl rfl ?_
    refine x_iconst (q := 24) C 12 (n := (0)) (v := (0)) rfl rfl rfl ?_
    refine x_putFI (q := 27) C 13 rfl rfl fl_RJ0_15 rfl hnm rfl (fun _ _ _ => rfl) rfl rfl (by first | assumption | rfl | decide | exact List.mem_append_left _ hSL) (by first | assumption | rfl | decide | exact List.mem_append_left _ hSL) ?_
    refine y_aload0 (q := 28) C 14 rfl rfl ?_
    refine y_aload3 (q := 29) C 15 rfl rfl ?_
    refine x_iconst (q := 30) C 16 (n := (0)) (v := (0)) rfl rfl rfl ?_
    refine y_iload4 (q := 32) C 17 rfl rfl ?_
    refine y_T3 (q := 35) (bc' := 0) (bs' := 0) C 18 rfl rfl ml_RJ0_54 cd_J7_copyOfRange_39247 sv_J7_copyOfRange_39247 (by decide) (by decide) (Nat.le_of_ble_eq_true rfl) rfl rfl (by rw [hGF]; exact fun i h => h) (by intro i h; cases List.mem_singleton.mp h; refine ⟨?_, ?_⟩ <;> simp [*]) (s_J7_copyOfRange_39247 hvk huk hvL huL huV ⟨hnN, by omega⟩ (tF.o hF (aj_u_o _ _ hvS)) ?_)
    intro I1 e1
    show aj_X G 35 _ _ _ _ _ _ _ _ _
    refine x_putF (q := 38) C 19 rfl rfl fl_RJ0_9 rfl hnm rfl (fun _ _ _ => rfl) (fun _ => rfl) (fun _ => rfl) (by first | assumption | rfl | decide | exact List.mem_append_left _ hSL) (by first | assumption | rfl | decide | exact List.mem_append_left _ hSL) ?_
    refine x_goto (t := 97) C 20 rfl (by decide) ?_
    exact x_return C Z 50 rfl rfl (hK _ (fun a h1 h2 => by rw [e1 a h2, aj_u_o _ _ h1]))
set_option maxRecDepth 100000 in
set_option maxHeartbeats 800000 in
theorem s_J0_init_81219 {l : Launch} {I : Nat → Nat → Int32} {J : Nat → Nat → Int64} {V : Nat → Nat → Option Nat} {N : Nat → Nat} {L : List Nat} {K : aj_K} {S B v u n : Nat} (hSk : S % 16 = 0) (hSL : S ∈ L) (hBk : B % 16 = 1) (hvk : v % 16 = 10) (huk : u % 16 = 10) (hT : tB B v n I V N L) (huL : u ∉ L) (huV : ∀ i ∈ L, ∀ j, V i j ≠ some u) (hK : ∀ I1, (∀ a, a ≠ S → a ≠ u → I1 a = I a) → K (.inl none) I1 J (aj_u V S 0 (some u)) (aj_ur N u n) (L ++ [u])) : aj_M l yJ0_init_81219 (aj_wc yJ0_init_81219 cJ0_init_81219 2 none) (aj_rm 5 1 70) [u] [.ref S, .ref B] I J V N L K := by
  refine aj_intro (tbl := t_J0_init_81219) (lv0 := [some (.ref S), some (.ref B)]) (by decide) T_J0_init_81219 (fun i h => by cases List.mem_singleton.mp h; unfold aj_sp; omega) (Nat.le_of_ble_eq_true rfl) rfl ?_
  intro G hl C Z NX hnm hGL hGF
  have C : aj_C G cJ0_init_81219 t_J0_init_81219 RJ0 (aj_rm 5 1 70) 2 := C
  have hT0 := hT
  obtain ⟨⟨hBL, hvL, hvB⟩, hV0, hVn, hc, hn, hnN, hN, hF⟩ := hT
  have hSu : S ≠ u := fun e => huL (e ▸ hSL)
  have hBu : B ≠ u := fun e => huL (e ▸ hBL)
  have hvu : v ≠ u := fun e => huL (e ▸ hvL)
  have hvS : v ≠ S := fun e => by omega
  refine y_aload0 (q := 1) C 0 rfl rfl ?_
  refine y_aload1 (q := 2) C 1 rfl rfl ?_
  refine x_null (q := 3) C 2 rfl rfl ?_
  refine y_I2 (q := 6) (bc' := 0) (bs' := 0) C 3 rfl rfl ml_RJ0_489 cd_J0_init_db425 iv_J0_init_db425 rfl trivial (by decide) (by decide) (Nat.le_of_ble_eq_true rfl) rfl rfl (by rw [hGF]; exact fun i h => h) (by intro i h; cases List.mem_singleton.mp h; refine ⟨?_, ?_⟩ <;> simp [*]) (s_J0_init_db425 hSk hSL hBk hvk huk hT0 huL huV ?_)
  intro I1 e1
  show aj_X G 6 _ _ _ _ _ _ _ _ _
  exact x_return C Z 4 rfl rfl (hK _ e1)
set_option maxRecDepth 100000 in
set_option maxHeartbeats 800000 in
theorem s_J4_toString_0e30d {l : Launch} {I : Nat → Nat → Int32} {J : Nat → Nat → Int64} {V : Nat → Nat → Option Nat} {N : Nat → Nat} {L : List Nat} {K : aj_K} {S B v u n : Nat} (hSk : S % 16 = 0) (hBk : B % 16 = 1) (hvk : v % 16 = 10) (huk : u % 16 = 10) (hT : tB B v n I V N L) (hSL : S ∉ L) (huL : u ∉ L) (hSV : ∀ i ∈ L, ∀ j, V i j ≠ some S) (huV : ∀ i ∈ L, ∀ j, V i j ≠ some u) (hK : ∀ I1 J1 V1 N1, (∀ a, a ≠ S → a ≠ u → I1 a = I a) → (∀ a, a ≠ S → J1 a = J a) → (∀ a, a ≠ S → V1 a = V a) → (∀ a, a ≠ u → N1 a = N a) → K (.inl (some (.ref S))) I1 J1 V1 N1 ((L ++ [S]) ++ [u])) : aj_M l yJ4_toString_0e30d (aj_wc yJ4_toString_0e30d cJ4_toString_0e30d 1 (some (.object "java/lang/String"))) (aj_rm 6 2 74) [S, u] [.ref B] I J V N L K := by
  refine aj_intro (tbl := t_J4_toString_0e30d) (lv0 := [some (.ref B)]) (by decide) T_J4_toString_0e30d (fun i h => by simp only [List.mem_cons, List.not_mem_nil, or_false] at h; rcases h with rfl | rfl <;> (unfold aj_sp; omega)) (Nat.le_of_ble_eq_true rfl) rfl ?_
  intro G hl C Z NX hnm hGL hGF
  have C : aj_C G cJ4_toString_0e30d t_J4_toString_0e30d RJ4 (aj_rm 6 2 74) 1 := C
  have hT0 := hT
  obtain ⟨⟨hBL, hvL, hvB⟩, hV0, hVn, hc, hn, hnN, hN, hF⟩ := hT
  have hBS : B ≠ S := fun e => by omega
  have hBu : B ≠ u := fun e => by omega
  have hvS : v ≠ S := fun e => by omega
  have hSu : S ≠ u := fun e => by omega
  have huS : u ≠ S := fun e => by omega
  refine x_new (q := 3) (bc' := 1) (bs' := 70) C 0 S rfl rfl nw_RJ4_18 hSk (by rw [hGF]; exact List.mem_cons_self) hSL hSV (by refine ⟨?_, ?_⟩ <;> simp [*]) rfl rfl ?_
  refine x_dupr (q := 4) C 1 rfl rfl ?_
  refine y_aload0 (q := 5) C 2 rfl rfl ?_
  refine y_I1 (q := 8) (bc' := 0) (bs' := 0) C 3 rfl rfl ml_RJ4_137 cd_J0_init_81219 iv_J0_init_81219 rfl trivial (by decide) (by decide) (Nat.le_of_ble_eq_true rfl) rfl rfl (by rw [hGF]; intro i h; exact List.mem_cons_of_mem _ h) (by intro i h; cases List.mem_singleton.mp h; refine ⟨?_, ?_⟩ <;> simp [*]) (s_J0_init_81219 hSk (List.mem_append_right _ (List.mem_singleton_self _)) hBk hvk huk (tB.new hT0 hBS hvS) (nL.new huL huS) (nV.new huV) ?_)
  intro I1 e1
  show aj_X G 8 _ _ _ _ _ _ _ _ _
  exact x_areturn C Z 4 rfl rfl (by first | exact Or.inl ⟨_, rfl⟩ | exact Or.inr ⟨_, rfl⟩) (hK _ _ _ _ (fun a h1 h2 => by rw [e1 a h1 h2, aj_z_o _ _ h1]) (fun a h => aj_z_o _ _ h) (fun a h => by rw [aj_u_o _ _ h, aj_z_o _ _ h]) (fun a h => aj_ur_n _ _ h))
