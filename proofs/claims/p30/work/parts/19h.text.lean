set_option maxRecDepth 100000 in
set_option maxHeartbeats 800000 in
theorem s_J1_canEncode_fc78d {l : Launch} {I : Nat → Nat → Int32} {J : Nat → Nat → Int64} {V : Nat → Nat → Option Nat} {N : Nat → Nat} {L : List Nat} {K : aj_K} (hK : K (.inl (some (.int 1))) I J V N L) : aj_M l yJ1_canEncode_fc78d (aj_wc yJ1_canEncode_fc78d cJ1_canEncode_fc78d 1 (some .boolean)) (aj_rm 1 0 0) [] [.int 32] I J V N L K := by
  refine aj_intro (tbl := t_J1_canEncode_fc78d) (lv0 := [some (.int 32)]) (by decide) T_J1_canEncode_fc78d aj_f0 (Nat.le_of_ble_eq_true rfl) rfl ?_
  intro G hl C Z NX hnm hGL hGF
  have C : aj_C G cJ1_canEncode_fc78d t_J1_canEncode_fc78d RJ1 (aj_rm 1 0 0) 1 := C
  refine y_iload0 (q := 1) C 0 rfl rfl ?_
  refine x_sipush (q := 4) C 1 (n := (255)) (v := (255)) rfl rfl rfl ?_
  refine x_icmp_gt (q := 7) (t := 11) C 2 rfl (by decide) rfl (fun c1 => ?_) (fun c1 => ?_)
  · skip
    exact absurd c1 (by decide)
  · skip
    refine x_iconst (q := 8) C 3 (n := (1)) (v := (1)) rfl rfl rfl ?_
    refine x_goto (t := 12) C 4 rfl (by decide) ?_
    exact x_ireturn C Z 6 rfl rfl rfl (hK)
set_option maxRecDepth 100000 in
set_option maxHeartbeats 800000 in
theorem s_J5_isLatin1_aae02 {l : Launch} {I : Nat → Nat → Int32} {J : Nat → Nat → Int64} {V : Nat → Nat → Option Nat} {N : Nat → Nat} {L : List Nat} {K : aj_K} {B : Nat} (hBk : B % 16 = 1) (hBL : B ∈ L) (hc : I B 1 = 0) (hK : K (.inl (some (.int 1))) I J V N L) : aj_M l yJ5_isLatin1_aae02 (aj_wc yJ5_isLatin1_aae02 cJ5_isLatin1_aae02 1 (some .boolean)) (aj_rm 1 0 0) [] [.ref B] I J V N L K := by
  refine aj_intro (tbl := t_J5_isLatin1_aae02) (lv0 := [some (.ref B)]) (by decide) T_J5_isLatin1_aae02 aj_f0 (Nat.le_of_ble_eq_true rfl) rfl ?_
  intro G hl C Z NX hnm hGL hGF
  have C : aj_C G cJ5_isLatin1_aae02 t_J5_isLatin1_aae02 RJ5 (aj_rm 1 0 0) 1 := C
  refine x_getCS (q := 3) C 0 rfl rfl gs_RJ5_18 ?_
  refine x_if_eq (q := 6) (t := 17) C 1 rfl (by decide) rfl (fun c1 => ?_) (fun c1 => ?_)
  · skip
    exact absurd c1 (by decide)
  · skip
    refine y_aload0 (q := 7) C 2 rfl rfl ?_
    refine x_getI (q := 10) C 3 rfl rfl fl_RJ5_22 (fun _ _ => rfl) (by first | assumption | rfl | decide | exact hB _ (by decide)) (by first | assumption | rfl | decide | exact hB _ (by decide)) ?_
    rw [hc]
    refine x_if_ne (q := 13) (t := 17) C 4 rfl (by decide) rfl (fun c2 => ?_) (fun c2 => ?_)
    · skip
      exact absurd rfl c2
    · skip
      refine x_iconst (q := 14) C 5 (n := (1)) (v := (1)) rfl rfl rfl ?_
      refine x_goto (t := 18) C 6 rfl (by decide) ?_
      exact x_ireturn C Z 8 rfl rfl rfl (hK)
set_option maxRecDepth 100000 in
set_option maxHeartbeats 800000 in
theorem s_J5_length_8abf5 {l : Launch} {I : Nat → Nat → Int32} {J : Nat → Nat → Int64} {V : Nat → Nat → Option Nat} {N : Nat → Nat} {L : List Nat} {K : aj_K} {B : Nat} (hBk : B % 16 = 1) (hBL : B ∈ L) (hK : K (.inl (some (.int (I B 3)))) I J V N L) : aj_M l yJ5_length_8abf5 (aj_wc yJ5_length_8abf5 cJ5_length_8abf5 1 (some .int)) (aj_rm 1 0 0) [] [.ref B] I J V N L K := by
  refine aj_intro (tbl := t_J5_length_8abf5) (lv0 := [some (.ref B)]) (by decide) T_J5_length_8abf5 aj_f0 (Nat.le_of_ble_eq_true rfl) rfl ?_
  intro G hl C Z NX hnm hGL hGF
  have C : aj_C G cJ5_length_8abf5 t_J5_length_8abf5 RJ5 (aj_rm 1 0 0) 1 := C
  refine y_aload0 (q := 1) C 0 rfl rfl ?_
  refine x_getI (q := 4) C 1 rfl rfl fl_RJ5_79 (fun _ _ => rfl) (by first | assumption | rfl | decide | exact hB _ (by decide)) (by first | assumption | rfl | decide | exact hB _ (by decide)) ?_
  exact x_ireturn C Z 2 rfl rfl rfl (hK)
set_option maxRecDepth 100000 in
set_option maxHeartbeats 800000 in
theorem s_J5_getValue_6d5f1 {l : Launch} {I : Nat → Nat → Int32} {J : Nat → Nat → Int64} {V : Nat → Nat → Option Nat} {N : Nat → Nat} {L : List Nat} {K : aj_K} {B v : Nat} (hBk : B % 16 = 1) (hBL : B ∈ L) (hV0 : V B 0 = some v) (hK : K (.inl (some (.ref v))) I J V N L) : aj_M l yJ5_getValue_6d5f1 (aj_wc yJ5_getValue_6d5f1 cJ5_getValue_6d5f1 1 (some (.array .byte))) (aj_rm 1 0 0) [] [.ref B] I J V N L K := by
  refine aj_intro (tbl := t_J5_getValue_6d5f1) (lv0 := [some (.ref B)]) (by decide) T_J5_getValue_6d5f1 aj_f0 (Nat.le_of_ble_eq_true rfl) rfl ?_
  intro G hl C Z NX hnm hGL hGF
  have C : aj_C G cJ5_getValue_6d5f1 t_J5_getValue_6d5f1 RJ5 (aj_rm 1 0 0) 1 := C
  refine y_aload0 (q := 1) C 0 rfl rfl ?_
  refine x_getR (q := 4) C 1 rfl rfl fl_RJ5_15 hV0 (fun _ _ => rfl) (by first | assumption | rfl | decide | exact hB _ (by decide)) (by first | assumption | rfl | decide | exact hB _ (by decide)) ?_
  exact x_areturn C Z 2 rfl rfl (by first | exact Or.inl ⟨_, rfl⟩ | exact Or.inr ⟨_, rfl⟩) (hK)
set_option maxRecDepth 100000 in
theorem s_J4_length_8abf5 {l : Launch} {I : Nat → Nat → Int32} {J : Nat → Nat → Int64} {V : Nat → Nat → Option Nat} {N : Nat → Nat} {L : List Nat} {K : aj_K} {B : Nat} (hBk : B % 16 = 1) (hBL : B ∈ L) (hK : K (.inl (some (.int (I B 3)))) I J V N L) : aj_M l yJ4_length_8abf5 (aj_wc yJ4_length_8abf5 cJ4_length_8abf5 1 (some .int)) (aj_rm 2 0 0) [] [.ref B] I J V N L K := by
  refine aj_intro (tbl := t_J4_length_8abf5) (lv0 := [some (.ref B)]) (by decide) T_J4_length_8abf5 aj_f0 (Nat.le_of_ble_eq_true rfl) rfl ?_
  intro G hl C Z NX hnm hGL hGF
  have C : aj_C G cJ4_length_8abf5 t_J4_length_8abf5 RJ4 (aj_rm 2 0 0) 1 := C
  refine y_aload0 (q := 1) C 0 rfl rfl ?_
  refine y_P0 (q := 4) C 1 rfl rfl su_RJ4_343 cd_J5_length_8abf5 ⟨by rw [hBk]; decide, by rw [hBk]; rfl⟩ hBL (by decide) (by decide) (Nat.le_of_ble_eq_true rfl) (Nat.zero_add _).symm (Nat.zero_add _).symm aj_f0 aj_f0 (s_J5_length_8abf5 hBk hBL ?_)
  show aj_X G 4 _ _ _ _ _ _ _ _ _
  exact x_ireturn C Z 2 rfl rfl rfl (hK)
set_option maxRecDepth 100000 in
set_option maxHeartbeats 800000 in
theorem s_J8_newLength_cabcc {l : Launch} {I : Nat → Nat → Int32} {J : Nat → Nat → Int64} {V : Nat → Nat → Option Nat} {N : Nat → Nat} {L : List Nat} {K : aj_K} {o g p : Nat} (ho : o ≤ 100) (hg : g ≤ p) (hp : 0 < p ∧ p ≤ 100) (hK : K (.inl (some (.int (nI (o + p))))) I J V N L) : aj_M l yJ8_newLength_cabcc (aj_wc yJ8_newLength_cabcc cJ8_newLength_cabcc 4 (some .int)) (aj_rm 1 0 0) [] [.int (nI o), .int (nI g), .int (nI p)] I J V N L K := by
  refine aj_intro (tbl := t_J8_newLength_cabcc) (lv0 := [some (.int (nI o)), some (.int (nI g)), some (.int (nI p)), none]) (by decide) T_J8_newLength_cabcc aj_f0 (Nat.le_of_ble_eq_true rfl) rfl ?_
  intro G hl C Z NX hnm hGL hGF
  have C : aj_C G cJ8_newLength_cabcc t_J8_newLength_cabcc RJ8 (aj_rm 1 0 0) 4 := C
  refine y_iload0 (q := 1) C 0 rfl rfl ?_
  refine y_iload1 (q := 2) C 1 rfl rfl ?_
  refine y_iload2 (q := 3) C 2 rfl rfl ?_
  refine x_max (q := 6) C 3 rfl rfl mw_RJ8_194 ⟨by decide, Nat.le_of_ble_eq_true rfl⟩ ?_
  rw [mx_nI hg (by omega)]
  refine x_iadd (q := 7) C 4 rfl rfl ?_
  rw [nI_add]
  refine y_istore3 (q := 8) C 5 rfl rfl (Nat.le_of_ble_eq_true rfl) rfl ?_
  refine x_iconst (q := 9) C 6 (n := (0)) (v := (0)) rfl rfl rfl ?_
  refine y_iload3 (q := 10) C 7 rfl rfl ?_
  refine x_icmp_ge (q := 13) (t := 21) C 8 rfl (by decide) rfl (fun c1 => ?_) (fun c1 => ?_)
  · skip
    exact absurd c1 (nI_nle (by omega) (by omega))
  · skip
    refine y_iload3 (q := 14) C 9 rfl rfl ?_
    refine x_ldc (q := 16) C 10 kc_RJ8_200 rfl rfl ?_
    refine x_icmp_gt (q := 19) (t := 21) C 11 rfl (by decide) rfl (fun c2 => ?_) (fun c2 => ?_)
    · skip
      exact absurd ((nI_ltI (a := 2147483639) (b := o + p) (by omega) (by omega)).mp c2) (by omega)
    · skip
      refine y_iload3 (q := 20) C 12 rfl rfl ?_
      exact x_ireturn C Z 13 rfl rfl rfl (hK)
set_option maxRecDepth 100000 in
set_option maxHeartbeats 800000 in
theorem s_J5_newCapacity_0f7a4 {l : Launch} {I : Nat → Nat → Int32} {J : Nat → Nat → Int64} {V : Nat → Nat → Option Nat} {N : Nat → Nat} {L : List Nat} {K : aj_K} {B v n : Nat} (hBk : B % 16 = 1) (hvk : v % 16 = 10) (hT : tB B v n I V N L) {m : Nat} (hm : N v < m ∧ m ≤ 70 ∧ m ≤ N v + 2) (hK : K (.inl (some (.int (nI (N v + (N v + 2)))))) I J V N L) : aj_M l yJ5_newCapacity_0f7a4 (aj_wc yJ5_newCapacity_0f7a4 cJ5_newCapacity_0f7a4 6 (some .int)) (aj_rm 2 0 0) [] [.ref B, .int (nI m)] I J V N L K := by
  refine aj_intro (tbl := t_J5_newCapacity_0f7a4) (lv0 := [some (.ref B), some (.int (nI m)), none, none, none, none]) (by decide) T_J5_newCapacity_0f7a4 aj_f0 (Nat.le_of_ble_eq_true rfl) rfl ?_
  intro G hl C Z NX hnm hGL hGF
  have C : aj_C G cJ5_newCapacity_0f7a4 t_J5_newCapacity_0f7a4 RJ5 (aj_rm 2 0 0) 6 := C
  have hT0 := hT
  obtain ⟨⟨hBL, hvL, hvB⟩, hV0, hVn, hc, hn, hnN, hN, hF⟩ := hT
  refine y_aload0 (q := 1) C 0 rfl rfl ?_
  refine x_getR (q := 4) C 1 rfl rfl fl_RJ5_15 hV0 (fun _ _ => rfl) (by first | assumption | rfl | decide | exact hB _ (by decide)) (by first | assumption | rfl | decide | exact hB _ (by decide)) ?_
  refine x_alenB (q := 5) C 2 rfl rfl (by first | assumption | rfl | decide | exact hB _ (by decide)) (by first | assumption | rfl | decide | exact hB _ (by decide)) ?_
  show aj_X G 5 _ (.int (nI (N v)) :: _) _ _ _ _ _ _ _
  refine y_istore2 (q := 6) C 3 rfl rfl (Nat.le_of_ble_eq_true rfl) rfl ?_
  refine y_iload1 (q := 7) C 4 rfl rfl ?_
  refine y_aload0 (q := 8) C 5 rfl rfl ?_
  refine x_getI (q := 11) C 6 rfl rfl fl_RJ5_22 (fun _ _ => rfl) (by first | assumption | rfl | decide | exact hB _ (by decide)) (by first | assumption | rfl | decide | exact hB _ (by decide)) ?_
  rw [hc]
  refine x_ishl (q := 12) C 7 rfl rfl ?_
  rw [sl0]
  refine y_istore3 (q := 13) C 8 rfl rfl (Nat.le_of_ble_eq_true rfl) rfl ?_
  refine y_iload3 (q := 14) C 9 rfl rfl ?_
  refine y_iload2 (q := 15) C 10 rfl rfl ?_
  refine x_isub (q := 16) C 11 rfl rfl ?_
  rw [sb_nI (Nat.le_of_lt hm.1)]
  refine y_istore4 (q := 18) C 12 rfl rfl (Nat.le_of_ble_eq_true rfl) rfl ?_
  refine y_iload2 (q := 19) C 13 rfl rfl ?_
  refine y_iload4 (q := 21) C 14 rfl rfl ?_
  refine y_iload2 (q := 22) C 15 rfl rfl ?_
  refine x_iconst (q := 23) C 16 (n := (2)) (v := (2)) rfl rfl rfl ?_
  refine y_aload0 (q := 24) C 17 rfl rfl ?_
  refine x_getI (q := 27) C 18 rfl rfl fl_RJ5_22 (fun _ _ => rfl) (by first | assumption | rfl | decide | exact hB _ (by decide)) (by first | assumption | rfl | decide | exact hB _ (by decide)) ?_
  rw [hc]
  refine x_ishl (q := 28) C 19 rfl rfl ?_
  rw [sl0]
  refine x_iadd (q := 29) C 20 rfl rfl ?_
  rw [show nI (N v) + 2 = nI (N v + 2) from nI_add _ 2]
  refine y_cS3 (q := 32) C 21 rfl rfl ml_RJ5_114 cd_J8_newLength_cabcc sv_J8_newLength_cabcc (by decide) (by decide) (Nat.le_of_ble_eq_true rfl) (s_J8_newLength_cabcc (o := N v) (g := m - N v) (p := N v + 2) (by omega) (by omega) (by omega) ?_)
  show aj_X G 32 _ _ _ _ _ _ _ _ _
  refine y_istore5 (q := 34) C 22 rfl rfl (Nat.le_of_ble_eq_true rfl) rfl ?_
  refine y_iload5 (q := 36) C 23 rfl rfl ?_
  refine x_ldc (q := 38) C 24 kc_RJ5_39 rfl rfl ?_
  refine x_icmp_ne (q := 41) (t := 51) C 25 rfl (by decide) rfl (fun c1 => ?_) (fun c1 => ?_)
  · skip
    refine y_iload5 (q := 53) C 31 rfl rfl ?_
    refine y_aload0 (q := 54) C 32 rfl rfl ?_
    refine x_getI (q := 57) C 33 rfl rfl fl_RJ5_22 (fun _ _ => rfl) (by first | assumption | rfl | decide | exact hB _ (by decide)) (by first | assumption | rfl | decide | exact hB _ (by decide)) ?_
    rw [hc]
    refine x_ishr (q := 58) C 34 rfl rfl ?_
    rw [sr0]
    exact x_ireturn C Z 35 rfl rfl rfl (hK)
  · skip
    exact absurd ((nI_eq (a := N v + (N v + 2)) (b := 2147483647) (by omega) (by omega)).mp c1) (by omega)
set_option maxRecDepth 100000 in
set_option maxHeartbeats 800000 in
theorem s_J7_copyOf_9075b {l : Launch} {I : Nat → Nat → Int32} {J : Nat → Nat → Int64} {V : Nat → Nat → Option Nat} {N : Nat → Nat} {L : List Nat} {K : aj_K} {v w m : Nat} (hvk : v % 16 = 10) (hwk : w % 16 = 10) (hvL : v ∈ L) (hwL : w ∉ L) (hwV : ∀ i ∈ L, ∀ j, V i j ≠ some w) (hm : N v < m ∧ m ≤ 70) (hF : tF I v) (hK : ∀ I1, (∀ a, a ≠ w → I1 a = I a) → tF I1 w → K (.inl (some (.ref w))) I1 J V (aj_ur N w m) (L ++ [w])) : aj_M l yJ7_copyOf_9075b (aj_wc yJ7_copyOf_9075b cJ7_copyOf_9075b 3 (some (.array .byte))) (aj_rm 1 1 70) [w] [.ref v, .int (nI m)] I J V N L K := by
  refine aj_intro (tbl := t_J7_copyOf_9075b) (lv0 := [some (.ref v), some (.int (nI m)), none]) (by decide) T_J7_copyOf_9075b (fun i h => by cases List.mem_singleton.mp h; unfold aj_sp; omega) (Nat.le_of_ble_eq_true rfl) rfl ?_
  intro G hl C Z NX hnm hGL hGF
  have C : aj_C G cJ7_copyOf_9075b t_J7_copyOf_9075b RJ7 (aj_rm 1 1 70) 3 := C
  have hvw : v ≠ w := fun e => hwL (e ▸ hvL)
  refine y_iload1 (q := 1) C 0 rfl rfl ?_
  refine y_aload0 (q := 2) C 1 rfl rfl ?_
  refine x_alenB (q := 3) C 2 rfl rfl (by first | assumption | rfl | decide | exact List.mem_append_left _ hvL) (by first | assumption | rfl | decide | exact List.mem_append_left _ hvL) ?_
  show aj_X G 3 _ (.int (nI (N v)) :: _) _ _ _ _ _ _ _
  refine x_icmp_ne (q := 6) (t := 14) C 3 rfl (by decide) rfl (fun c1 => ?_) (fun c1 => ?_)
  · skip
    refine y_iload1 (q := 15) C 8 rfl rfl ?_
    refine x_newB (q := 17) (bc' := 0) (bs' := 0) C 9 w (n' := m) (m := 70) rfl rfl ac_byte (nI_pos (by omega)) (nI_clamp (by omega)) (by omega) (by decide) hwk (by rw [hGF]; exact List.mem_singleton_self _) hwL hwV (by refine ⟨?_, ?_⟩ <;> simp [*]) rfl rfl ?_
    refine y_astore2 (q := 18) C 10 rfl rfl (Nat.le_of_ble_eq_true rfl) rfl ?_
    refine y_aload0 (q := 19) C 11 rfl rfl ?_
    refine x_iconst (q := 20) C 12 (n := (0)) (v := (0)) rfl rfl rfl ?_
    refine y_aload2 (q := 21) C 13 rfl rfl ?_
    refine x_iconst (q := 22) C 14 (n := (0)) (v := (0)) rfl rfl rfl ?_
    refine y_aload0 (q := 23) C 15 rfl rfl ?_
    refine x_alenB (q := 24) C 16 rfl rfl (by first | assumption | rfl | decide | exact List.mem_append_left _ hvL) (by first | assumption | rfl | decide | exact List.mem_append_left _ hvL) ?_
    rw [aj_ur_n N m hvw]
    show aj_X G 24 _ (.int (nI (N v)) :: _) _ _ _ _ _ _ _
    refine y_iload1 (q := 25) C 17 rfl rfl ?_
    refine x_min (q := 28) C 18 rfl rfl mw_RJ7_304 ⟨by decide, Nat.le_of_ble_eq_true rfl⟩ ?_
    rw [if_neg (nI_nlt (a := m) (b := N v) (by omega) (by omega))]
    refine x_copyB (q := 31) C 19 rfl rfl acp_RJ7_150 ⟨by decide, Nat.le_of_ble_eq_true rfl⟩ hvk (List.mem_append_left _ hvL) hwk (List.mem_append_right _ (List.mem_singleton_self _)) (by decide) (by decide) (nI_pos (by omega)) (by rw [aj_ur_n N m hvw, nI_clamp (by omega)]; exact Nat.le_of_eq (Nat.zero_add _)) (by rw [aj_ur_s, nI_clamp (by omega)]; exact Nat.le_trans (Nat.le_of_eq (Nat.zero_add _)) (by omega)) (fun t => by rw [aj_z_o I 0 hvw]; exact hF t) ?_
    refine y_aload2 (q := 32) C 20 rfl rfl ?_
    exact x_areturn C Z 21 rfl rfl (by first | exact Or.inl ⟨_, rfl⟩ | exact Or.inr ⟨_, rfl⟩) (hK _ (fun a ha => by rw [aj_ur_n _ _ ha, aj_z_o I 0 ha]) (tF.ur (cpy_fits (fun j => by rw [aj_z_o I 0 hvw]; exact hF j) (tF.z))))
  · skip
    exact absurd ((nI_eq (by omega) (by omega)).mp c1) (by omega)
set_option maxRecDepth 100000 in
set_option maxHeartbeats 800000 in
theorem s_J5_ensureCapacityInternal_d00df {l : Launch} {I : Nat → Nat → Int32} {J : Nat → Nat → Int64} {V : Nat → Nat → Option Nat} {N : Nat → Nat} {L : List Nat} {K : aj_K} {B v w n : Nat} (hBk : B % 16 = 1) (hvk : v % 16 = 10) (hwk : w % 16 = 10) (hwL : w ∉ L) (hwV : ∀ i ∈ L, ∀ j, V i j ≠ some w) (hT : tB B v n I V N L) {m : Nat} (hm : n ≤ m ∧ m ≤ 70 ∧ m ≤ n + 2) (hK : ∀ I1 V1 N1 L1, tA B v w n m I V N L I1 V1 N1 L1 → K (.inl none) I1 J V1 N1 L1) : aj_M l yJ5_ensureCapacityInternal_d00df (aj_wc yJ5_ensureCapacityInternal_d00df cJ5_ensureCapacityInternal_d00df 3 none) (aj_rm 3 1 70) [w] [.ref B, .int (nI m)] I J V N L K := by
  refine aj_intro (tbl := t_J5_ensureCapacityInternal_d00df) (lv0 := [some (.ref B), some (.int (nI m)), none]) (by decide) T_J5_ensureCapacityInternal_d00df (fun i h => by cases List.mem_singleton.mp h; unfold aj_sp; omega) (Nat.le_of_ble_eq_true rfl) rfl ?_
  intro G hl C Z NX hnm hGL hGF
  have C : aj_C G cJ5_ensureCapacityInternal_d00df t_J5_ensureCapacityInternal_d00df RJ5 (aj_rm 3 1 70) 3 := C
  have hT0 := hT
  obtain ⟨⟨hBL, hvL, hvB⟩, hV0, hVn, hc, hn, hnN, hN, hF⟩ := hT
  have hBw : B ≠ w := fun e => hwL (e ▸ hBL)
  have hvw : v ≠ w := fun e => hwL (e ▸ hvL)
  refine y_aload0 (q := 1) C 0 rfl rfl ?_
  refine x_getR (q := 4) C 1 rfl rfl fl_RJ5_15 hV0 (fun _ _ => rfl) (by first | assumption | rfl | decide | exact List.mem_append_left _ hBL) (by first | assumption | rfl | decide | exact List.mem_append_left _ hBL) ?_
  refine x_alenB (q := 5) C 2 rfl rfl (by first | assumption | rfl | decide | exact List.mem_append_left _ hBL) (by first | assumption | rfl | decide | exact List.mem_append_left _ hBL) ?_
  show aj_X G 5 _ (.int (nI (N v)) :: _) _ _ _ _ _ _ _
  refine y_aload0 (q := 6) C 3 rfl rfl ?_
  refine x_getI (q := 9) C 4 rfl rfl fl_RJ5_22 (fun _ _ => rfl) (by first | assumption | rfl | decide | exact List.mem_append_left _ hBL) (by first | assumption | rfl | decide | exact List.mem_append_left _ hBL) ?_
  rw [hc]
  refine x_ishr (q := 10) C 5 rfl rfl ?_
  rw [sr0]
  refine y_istore2 (q := 11) C 6 rfl rfl (Nat.le_of_ble_eq_true rfl) rfl ?_
  refine y_iload1 (q := 12) C 7 rfl rfl ?_
  refine y_iload2 (q := 13) C 8 rfl rfl ?_
  refine x_isub (q := 14) C 9 rfl rfl ?_
  refine x_if_le (q := 17) (t := 38) C 10 rfl (by decide) rfl (fun c1 => ?_) (fun c1 => ?_)
  · skip
    exact x_return C Z 22 rfl rfl (hK _ _ _ _ (tA.rf hT0 ((sbl m (by omega) (N v) (by omega)).mp ‹_›)))
  · skip
    have hlt : N v < m := Nat.not_le.mp (fun z => absurd ((sbl m (by omega) (N v) (by omega)).mpr z) ‹_›)
    refine y_aload0 (q := 18) C 11 rfl rfl ?_
    refine y_aload0 (q := 19) C 12 rfl rfl ?_
    refine x_getR (q := 22) C 13 rfl rfl fl_RJ5_15 hV0 (fun _ _ => rfl) (by first | assumption | rfl | decide | exact List.mem_append_left _ hBL) (by first | assumption | rfl | decide | exact List.mem_append_left _ hBL) ?_
    refine y_aload0 (q := 23) C 14 rfl rfl ?_
    refine y_iload1 (q := 24) C 15 rfl rfl ?_
    refine y_U1 (q := 27) C 16 rfl rfl cu_RJ5_104 cd_J5_newCapacity_0f7a4 ⟨by rw [hBk]; decide, by rw [hBk]; rfl⟩ hBL (by decide) (by decide) (Nat.le_of_ble_eq_true rfl) (Nat.zero_add _).symm (Nat.zero_add _).symm aj_f0 aj_f0 (s_J5_newCapacity_0f7a4 hBk hvk hT0 ⟨hlt, hm.2.1, by omega⟩ ?_)
    show aj_X G 27 _ _ _ _ _ _ _ _ _
    refine y_aload0 (q := 28) C 17 rfl rfl ?_
    refine x_getI (q := 31) C 18 rfl rfl fl_RJ5_22 (fun _ _ => rfl) (by first | assumption | rfl | decide | exact List.mem_append_left _ hBL) (by first | assumption | rfl | decide | exact List.mem_append_left _ hBL) ?_
    rw [hc]
    refine x_ishl (q := 32) C 19 rfl rfl ?_
    rw [sl0]
    refine y_T2 (q := 35) (bc' := 0) (bs' := 0) C 20 rfl rfl ml_RJ5_108 cd_J7_copyOf_9075b sv_J7_copyOf_9075b (by decide) (by decide) (Nat.le_of_ble_eq_true rfl) rfl rfl (by rw [hGF]; exact fun i h => h) (by intro i h; cases List.mem_singleton.mp h; refine ⟨?_, ?_⟩ <;> simp [*]) (s_J7_copyOf_9075b hvk hwk hvL hwL hwV ⟨by omega, by omega⟩ hF ?_)
    intro I1 e1 f1
    show aj_X G 35 _ _ _ _ _ _ _ _ _
    refine x_putR (q := 38) C 21 rfl rfl fl_RJ5_15 rfl (fun _ _ _ => rfl) (fun _ => rfl) (fun _ => rfl) (by first | assumption | rfl | decide | exact List.mem_append_left _ hBL) (by first | assumption | rfl | decide | exact List.mem_append_left _ hBL) ?_
    exact x_return C Z 22 rfl rfl (hK _ _ _ _ (tA.gr hT0 hBw (by omega) (by omega) e1 f1))
