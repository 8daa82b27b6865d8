set_option maxRecDepth 100000 in
set_option maxHeartbeats 800000 in
theorem s_X3_textOf {l : Launch} {I : Nat → Nat → Int32} {J : Nat → Nat → Int64} {V : Nat → Nat → Option Nat} {N : Nat → Nat} {L : List Nat} {K : aj_K} {a c : Nat} (hak : a % 16 = 8) (haL : a ∈ L) (hR : ∀ j, j < c → ∃ m, m < 12 ∧ I a j = nI m) (hc : c ≤ 12 ∧ c ≤ N a ∧ N a ≤ 1000) (hX : tX V L) (hK : ∀ I1 J1 V1 N1 X, tK L I J V N I1 J1 V1 N1 → K (.inl (some (.ref 16))) I1 J1 V1 N1 (L ++ X)) : aj_M l yX3_textOf (aj_wc yX3_textOf cX3_textOf 4 (some (.object "java/lang/String"))) (aj_rm 7 28 1774) [65, 26, 42, 16, 58] [.ref a, .int (nI c)] I J V N L K := by
  refine aj_intro (tbl := t_X3_textOf) (lv0 := [some (.ref a), some (.int (nI c)), none, none]) (by decide) T_X3_textOf (fun i h => by revert i h; unfold aj_sp; decide) (Nat.le_of_ble_eq_true rfl) rfl ?_
  intro G hl C Z NX hnm hGL hGF
  have C : aj_C G cX3_textOf t_X3_textOf RX3 (aj_rm 7 28 1774) 4 := C
  have ha65 : a ≠ 65 := hX.ne haL (by decide)
  have ha26 : a ≠ 26 := hX.ne haL (by decide)
  have ha42 : a ≠ 42 := hX.ne haL (by decide)
  have ha16 : a ≠ 16 := hX.ne haL (by decide)
  have ha58 : a ≠ 58 := hX.ne haL (by decide)
  refine x_new (q := 3) (bc' := 27) (bs' := 1770) C 0 65 rfl rfl nw_RX3_214 rfl (by rw [hGF]; decide) (hX 65 (by decide)).1 (fun i hi j => (hX 65 (by decide)).2 i (Or.inl hi) j) (by refine ⟨?_, ?_⟩ <;> simp [ha65]) rfl rfl ?_
  refine x_dupr (q := 4) C 1 rfl rfl ?_
  refine y_I0 (q := 7) (bc' := 26) (bs' := 1754) C 2 rfl rfl ml_RX3_216 cd_J4_init_da8c8 iv_J4_init_da8c8 rfl trivial (by decide) (by decide) (Nat.le_of_ble_eq_true rfl) rfl rfl (by rw [hGF]; decide) (by intro i h; cases List.mem_singleton.mp h; refine ⟨?_, ?_⟩ <;> simp [ha26]) (s_J4_init_da8c8 (B := 65) (v := 26) rfl rfl (List.mem_append_right _ (List.mem_singleton_self _)) (nL.new (hX 26 (by decide)).1 (by decide)) (nV.new (fun i hi j => (hX 26 (by decide)).2 i (Or.inl hi) j)) (aj_z_s _ _ _) (aj_z_s _ _ _) ?_)
  intro I1 V1 N1 b1 b2 b3 b4
  show aj_X G 7 _ _ _ _ _ _ _ _ _
  refine y_astore2 (q := 8) C 3 rfl rfl (Nat.le_of_ble_eq_true rfl) rfl ?_
  refine x_iconst (q := 9) C 4 (n := (0)) (v := (0)) rfl rfl rfl ?_
  refine y_istore3 (q := 10) C 5 rfl rfl (Nat.le_of_ble_eq_true rfl) rfl ?_
  have lp10 : ∀ (m k n v w : Nat) (I2 : Nat → Nat → Int32) (V2 : Nat → Nat → Option Nat) (N2 : Nat → Nat), k + m = c → n ≤ 3 * k → tW v w → tB 65 v n I2 V2 N2 ((L ++ [65]) ++ [v]) → tL I V N I2 V2 N2 → aj_X G 10 [some (.ref a), some (.int (nI c)), some (.ref 65), some (.int (nI k))] [] I2 (aj_z J 65 0) V2 N2 ((L ++ [65]) ++ [v]) (2 * m + 2) (140 * m + 74) := by
    intro m
    induction m with
    | zero =>
      intro k n v w I2 V2 N2 hk hn3 hvw hT1 hl1
      have hvk := hvw.v10
      have hwk := hvw.w10
      obtain ⟨hwP, hwv, hw65⟩ := hvw.wF
      obtain ⟨hwL, hwV⟩ := hX.fr hl1 hT1 hvw hwP hwv hw65
      have haw : a ≠ w := hX.ne haL hwP
      have h65w : ¬ 65 = w := Ne.symm hw65
      have hBL1 : 65 ∈ (L ++ [65]) ++ [v] := hT1.1.1
      refine y_iload3 (q := 11) C 6 rfl rfl ?_
      refine y_iload1 (q := 12) C 7 rfl rfl ?_
      refine x_icmp_ge (q := 15) (t := 40) C 8 rfl (by decide) rfl (fun c1 => ?_) (fun c1 => ?_)
      · skip
        obtain ⟨hS16, hS16v⟩ := hX.fr hl1 hT1 hvw (f := 16) (by decide) (by rcases hvw with z | z <;> rw [z.1] <;> decide) (by decide)
        obtain ⟨hS58, hS58v⟩ := hX.fr hl1 hT1 hvw (f := 58) (by decide) (by rcases hvw with z | z <;> rw [z.1] <;> decide) (by decide)
        refine y_aload2 (q := 41) C 23 rfl rfl ?_
        refine y_G0 (q := 44) (bc' := 0) (bs' := 0) C 24 rfl rfl ml_RX3_224 cd_J4_toString_0e30d cv_J4_toString_0e30d ⟨by decide, rfl⟩ hBL1 (by decide) (by decide) (Nat.le_of_ble_eq_true rfl) (by omega) (by omega) (by rw [hGF]; decide) (by intro i h; simp only [List.mem_cons, List.not_mem_nil, or_false] at h; rcases h with rfl | rfl <;> refine ⟨?_, ?_⟩ <;> simp [ha16, ha58]) (s_J4_toString_0e30d (S := 16) (B := 65) (v := v) (u := 58) (n := n) rfl rfl hvk rfl hT1 hS16 hS58 hS16v hS58v ?_)
        intro I3 J3 V3 N3 g1 g2 g3 g4
        show aj_X G 44 _ _ _ _ _ _ _ _ _
        exact x_areturn C Z 25 rfl rfl (by first | exact Or.inl ⟨_, rfl⟩ | exact Or.inr ⟨_, rfl⟩) (by have z := hK I3 J3 V3 N3 [65, v, 16, 58] (tK.of hX hl1 g1 g2 g3 g4); rw [show (((L ++ [65]) ++ [v]) ++ [16]) ++ [58] = L ++ [65, v, 16, 58] by simp]; exact z)
      · skip
        exact absurd (nI_le (by omega) (by omega)) c1
    | succ m ih =>
      intro k n v w I2 V2 N2 hk hn3 hvw hT1 hl1
      have hvk := hvw.v10
      have hwk := hvw.w10
      obtain ⟨hwP, hwv, hw65⟩ := hvw.wF
      obtain ⟨hwL, hwV⟩ := hX.fr hl1 hT1 hvw hwP hwv hw65
      have haw : a ≠ w := hX.ne haL hwP
      have h65w : ¬ 65 = w := Ne.symm hw65
      have hBL1 : 65 ∈ (L ++ [65]) ++ [v] := hT1.1.1
      refine y_iload3 (q := 11) C 6 rfl rfl ?_
      refine y_iload1 (q := 12) C 7 rfl rfl ?_
      refine x_icmp_ge (q := 15) (t := 40) C 8 rfl (by decide) rfl (fun c2 => ?_) (fun c2 => ?_)
      · skip
        exact absurd ((nI_leI (by omega) (by omega)).mp c2) (by omega)
      · skip
        refine y_iload3 (q := 16) C 9 rfl rfl ?_
        refine x_if_le (q := 19) (t := 26) C 10 rfl (by decide) rfl (fun c3 => ?_) (fun c3 => ?_)
        · skip
          refine aj_bud (bc' := 2 * m + 3) (bs' := 140 * m + 144) (by omega) (by omega) ?_
          obtain ⟨i, hi, hiv⟩ := hR k (by omega)
          have hs := sz_le i
          refine y_aload2 (q := 27) C 15 rfl rfl ?_
          refine y_aload0 (q := 28) C 16 rfl rfl ?_
          refine y_iload3 (q := 29) C 17 rfl rfl ?_
          refine x_iald (q := 30) C 18 rfl rfl (by first | assumption | rfl | decide | exact List.mem_append_left _ (List.mem_append_left _ haL)) (by first | assumption | rfl | decide | exact List.mem_append_left _ (List.mem_append_left _ haL)) (by rw [hl1.2.2 a ha26 ha42]; exact nI_in (by omega) (by omega)) ?_
          rw [nI_clamp (by omega), hl1.1 a ha65 ha26 ha42, hiv]
          refine y_G1 (q := 33) (bc' := 2 * m + 2) (bs' := 140 * m + 74) C 19 rfl rfl ml_RX3_221 cd_J4_append_bf812 cv_J4_append_bf812 ⟨by decide, rfl⟩ hBL1 (by decide) (by decide) (Nat.le_of_ble_eq_true rfl) (by omega) (by omega) (by rw [hGF]; intro i h; cases List.mem_singleton.mp h; exact hwP) (by intro i h; cases List.mem_singleton.mp h; refine ⟨?_, ?_⟩ <;> simp [haw, h65w]) (s_J4_append_bf812 (B := 65) rfl hvk hwk hwL hwV hT1 hi (by omega) ?_)
          intro I4 V4 N4 L4 hA4
          show aj_X G 33 _ _ _ _ _ _ _ _ _
          have hl4 := tL.tA hl1 hA4 hvw
          refine tA.norm hA4 hvw hGL (fun v4 w4 hvw4 hT4 => ?_)
          show aj_X G 33 _ _ _ _ _ _ _ _ _
          refine x_pop (q := 34) C 20 rfl rfl rfl ?_
          refine y_iinc3 (q := 37) C 21 rfl rfl (nI_1 k) (Nat.le_of_ble_eq_true rfl) rfl ?_
          refine x_goto (t := 10) C 22 rfl (by decide) ?_
          exact ih (k + 1) _ v4 w4 I4 V4 N4 (by omega) (by omega) hvw4 hT4 hl4
        · skip
          refine y_aload2 (q := 20) C 11 rfl rfl ?_
          refine x_bipush (q := 22) C 12 (n := (32)) (v := (32)) rfl rfl rfl ?_
          refine y_G1 (q := 25) (bc' := 2 * m + 3) (bs' := 140 * m + 144) C 13 rfl rfl ml_RX3_217 cd_J4_append_cf468 cv_J4_append_cf468 ⟨by decide, rfl⟩ hBL1 (by decide) (by decide) (Nat.le_of_ble_eq_true rfl) (by omega) (by omega) (by rw [hGF]; intro i h; cases List.mem_singleton.mp h; exact hwP) (by intro i h; cases List.mem_singleton.mp h; refine ⟨?_, ?_⟩ <;> simp [haw, h65w]) (s_J4_append_cf468 (B := 65) rfl hvk hwk hwL hwV hT1 (by omega) ?_)
          intro I3 V3 N3 L3 hA3
          show aj_X G 25 _ _ _ _ _ _ _ _ _
          have hl3 := tL.tA hl1 hA3 hvw
          refine tA.norm hA3 hvw hGL (fun v3 w3 hvw3 hT3 => ?_)
          show aj_X G 25 _ _ _ _ _ _ _ _ _
          refine x_pop (q := 26) C 14 rfl rfl rfl ?_
          have hvk3 := hvw3.v10
          have hwk3 := hvw3.w10
          obtain ⟨hwP3, hwv3, hw653⟩ := hvw3.wF
          obtain ⟨hwL3, hwV3⟩ := hX.fr hl3 hT3 hvw3 hwP3 hwv3 hw653
          have haw3 : a ≠ w3 := hX.ne haL hwP3
          have h65w3 : ¬ 65 = w3 := Ne.symm hw653
          have hBL3 : 65 ∈ (L ++ [65]) ++ [v3] := hT3.1.1
          obtain ⟨i, hi, hiv⟩ := hR k (by omega)
          have hs := sz_le i
          refine y_aload2 (q := 27) C 15 rfl rfl ?_
          refine y_aload0 (q := 28) C 16 rfl rfl ?_
          refine y_iload3 (q := 29) C 17 rfl rfl ?_
          refine x_iald (q := 30) C 18 rfl rfl (by first | assumption | rfl | decide | exact List.mem_append_left _ (List.mem_append_left _ haL)) (by first | assumption | rfl | decide | exact List.mem_append_left _ (List.mem_append_left _ haL)) (by rw [hl3.2.2 a ha26 ha42]; exact nI_in (by omega) (by omega)) ?_
          rw [nI_clamp (by omega), hl3.1 a ha65 ha26 ha42, hiv]
          refine y_G1 (q := 33) (bc' := 2 * m + 2) (bs' := 140 * m + 74) C 19 rfl rfl ml_RX3_221 cd_J4_append_bf812 cv_J4_append_bf812 ⟨by decide, rfl⟩ hBL3 (by decide) (by decide) (Nat.le_of_ble_eq_true rfl) (by omega) (by omega) (by rw [hGF]; intro i h; cases List.mem_singleton.mp h; exact hwP3) (by intro i h; cases List.mem_singleton.mp h; refine ⟨?_, ?_⟩ <;> simp [haw3, h65w3]) (s_J4_append_bf812 (B := 65) rfl hvk3 hwk3 hwL3 hwV3 hT3 hi (by omega) ?_)
          intro I4 V4 N4 L4 hA4
          show aj_X G 33 _ _ _ _ _ _ _ _ _
          have hl4 := tL.tA hl3 hA4 hvw3
          refine tA.norm hA4 hvw3 hGL (fun v4 w4 hvw4 hT4 => ?_)
          show aj_X G 33 _ _ _ _ _ _ _ _ _
          refine x_pop (q := 34) C 20 rfl rfl rfl ?_
          refine y_iinc3 (q := 37) C 21 rfl rfl (nI_1 k) (Nat.le_of_ble_eq_true rfl) rfl ?_
          refine x_goto (t := 10) C 22 rfl (by decide) ?_
          exact ih (k + 1) _ v4 w4 I4 V4 N4 (by omega) (by omega) hvw4 hT4 hl4
  refine aj_bud (bc' := 2 * c + 2) (bs' := 140 * c + 74) (by omega) (by omega) ?_
  exact lp10 c 0 0 26 42 I1 V1 N1 (by omega) (by omega) (Or.inl ⟨rfl, rfl⟩) b1 ⟨fun a h1 h2 _ => (b2 a h1 h2).trans (aj_z_o _ _ h1), fun a h1 => (b3 a h1).trans (aj_z_o _ _ h1), fun a h1 _ => b4 a h1⟩
set_option maxRecDepth 100000 in
set_option maxHeartbeats 800000 in
theorem s_X5_text {l : Launch} {I : Nat → Nat → Int32} {J : Nat → Nat → Int64} {V : Nat → Nat → Option Nat} {N : Nat → Nat} {L : List Nat} {K : aj_K} {a c : Nat} (hak : a % 16 = 8) (haL : a ∈ L) (hR : ∀ j, j < c → ∃ m, m < 12 ∧ I a j = nI m) (hNc : N a = c) (hc : c ≤ 12) (hX : tX V L) (hK : ∀ I1 J1 V1 N1 X, tK L I J V N I1 J1 V1 N1 → K (.inl (some (.ref 16))) I1 J1 V1 N1 (L ++ X)) : aj_M l yX5_text (aj_wc yX5_text cX5_text 3 (some (.object "java/lang/String"))) (aj_rm 7 28 1774) [65, 26, 42, 16, 58] [.ref a] I J V N L K := by
  refine aj_intro (tbl := t_X5_text) (lv0 := [some (.ref a), none, none]) (by decide) T_X5_text (fun i h => by revert i h; unfold aj_sp; decide) (Nat.le_of_ble_eq_true rfl) rfl ?_
  intro G hl C Z NX hnm hGL hGF
  have C : aj_C G cX5_text t_X5_text RX5 (aj_rm 7 28 1774) 3 := C
  have ha65 : a ≠ 65 := hX.ne haL (by decide)
  have ha26 : a ≠ 26 := hX.ne haL (by decide)
  have ha42 : a ≠ 42 := hX.ne haL (by decide)
  have ha16 : a ≠ 16 := hX.ne haL (by decide)
  have ha58 : a ≠ 58 := hX.ne haL (by decide)
  refine x_new (q := 3) (bc' := 27) (bs' := 1770) C 0 65 rfl rfl nw_RX5_217 rfl (by rw [hGF]; decide) (hX 65 (by decide)).1 (fun i hi j => (hX 65 (by decide)).2 i (Or.inl hi) j) (by refine ⟨?_, ?_⟩ <;> simp [ha65]) rfl rfl ?_
  refine x_dupr (q := 4) C 1 rfl rfl ?_
  refine y_I0 (q := 7) (bc' := 26) (bs' := 1754) C 2 rfl rfl ml_RX5_219 cd_J4_init_da8c8 iv_J4_init_da8c8 rfl trivial (by decide) (by decide) (Nat.le_of_ble_eq_true rfl) rfl rfl (by rw [hGF]; decide) (by intro i h; cases List.mem_singleton.mp h; refine ⟨?_, ?_⟩ <;> simp [ha26]) (s_J4_init_da8c8 (B := 65) (v := 26) rfl rfl (List.mem_append_right _ (List.mem_singleton_self _)) (nL.new (hX 26 (by decide)).1 (by decide)) (nV.new (fun i hi j => (hX 26 (by decide)).2 i (Or.inl hi) j)) (aj_z_s _ _ _) (aj_z_s _ _ _) ?_)
  intro I1 V1 N1 b1 b2 b3 b4
  show aj_X G 7 _ _ _ _ _ _ _ _ _
  refine y_astore1 (q := 8) C 3 rfl rfl (Nat.le_of_ble_eq_true rfl) rfl ?_
  refine x_iconst (q := 9) C 4 (n := (0)) (v := (0)) rfl rfl rfl ?_
  refine y_istore2 (q := 10) C 5 rfl rfl (Nat.le_of_ble_eq_true rfl) rfl ?_
  have lp10 : ∀ (m k n v w : Nat) (I2 : Nat → Nat → Int32) (V2 : Nat → Nat → Option Nat) (N2 : Nat → Nat), k + m = c → n ≤ 3 * k → tW v w → tB 65 v n I2 V2 N2 ((L ++ [65]) ++ [v]) → tL I V N I2 V2 N2 → aj_X G 10 [some (.ref a), some (.ref 65), some (.int (nI k))] [] I2 (aj_z J 65 0) V2 N2 ((L ++ [65]) ++ [v]) (2 * m + 2) (140 * m + 74) := by
    intro m
    induction m with
    | zero =>
      intro k n v w I2 V2 N2 hk hn3 hvw hT1 hl1
      have hvk := hvw.v10
      have hwk := hvw.w10
      obtain ⟨hwP, hwv, hw65⟩ := hvw.wF
      obtain ⟨hwL, hwV⟩ := hX.fr hl1 hT1 hvw hwP hwv hw65
      have haw : a ≠ w := hX.ne haL hwP
      have h65w : ¬ 65 = w := Ne.symm hw65
      have hBL1 : 65 ∈ (L ++ [65]) ++ [v] := hT1.1.1
      refine y_iload2 (q := 11) C 6 rfl rfl ?_
      refine y_aload0 (q := 12) C 7 rfl rfl ?_
      refine x_alen (q := 13) C 8 rfl rfl (by first | assumption | rfl | decide | exact List.mem_append_left _ (List.mem_append_left _ haL)) (by first | assumption | rfl | decide | exact List.mem_append_left _ (List.mem_append_left _ haL)) ?_
      rw [hl1.2.2 a ha26 ha42, hNc]
      show aj_X G 13 _ (.int (nI c) :: _) _ _ _ _ _ _ _
      refine x_icmp_ge (q := 16) (t := 44) C 9 rfl (by decide) rfl (fun c1 => ?_) (fun c1 => ?_)
      · skip
        obtain ⟨hS16, hS16v⟩ := hX.fr hl1 hT1 hvw (f := 16) (by decide) (by rcases hvw with z | z <;> rw [z.1] <;> decide) (by decide)
        obtain ⟨hS58, hS58v⟩ := hX.fr hl1 hT1 hvw (f := 58) (by decide) (by rcases hvw with z | z <;> rw [z.1] <;> decide) (by decide)
        refine y_aload1 (q := 45) C 24 rfl rfl ?_
        refine y_G0 (q := 48) (bc' := 0) (bs' := 0) C 25 rfl rfl ml_RX5_231 cd_J4_toString_0e30d cv_J4_toString_0e30d ⟨by decide, rfl⟩ hBL1 (by decide) (by decide) (Nat.le_of_ble_eq_true rfl) (by omega) (by omega) (by rw [hGF]; decide) (by intro i h; simp only [List.mem_cons, List.not_mem_nil, or_false] at h; rcases h with rfl | rfl <;> refine ⟨?_, ?_⟩ <;> simp [ha16, ha58]) (s_J4_toString_0e30d (S := 16) (B := 65) (v := v) (u := 58) (n := n) rfl rfl hvk rfl hT1 hS16 hS58 hS16v hS58v ?_)
        intro I3 J3 V3 N3 g1 g2 g3 g4
        show aj_X G 48 _ _ _ _ _ _ _ _ _
        exact x_areturn C Z 26 rfl rfl (by first | exact Or.inl ⟨_, rfl⟩ | exact Or.inr ⟨_, rfl⟩) (by have z := hK I3 J3 V3 N3 [65, v, 16, 58] (tK.of hX hl1 g1 g2 g3 g4); rw [show (((L ++ [65]) ++ [v]) ++ [16]) ++ [58] = L ++ [65, v, 16, 58] by simp]; exact z)
      · skip
        exact absurd (nI_le (by omega) (by omega)) c1
    | succ m ih =>
      intro k n v w I2 V2 N2 hk hn3 hvw hT1 hl1
      have hvk := hvw.v10
      have hwk := hvw.w10
      obtain ⟨hwP, hwv, hw65⟩ := hvw.wF
      obtain ⟨hwL, hwV⟩ := hX.fr hl1 hT1 hvw hwP hwv hw65
      have haw : a ≠ w := hX.ne haL hwP
      have h65w : ¬ 65 = w := Ne.symm hw65
      have hBL1 : 65 ∈ (L ++ [65]) ++ [v] := hT1.1.1
      refine y_iload2 (q := 11) C 6 rfl rfl ?_
      refine y_aload0 (q := 12) C 7 rfl rfl ?_
      refine x_alen (q := 13) C 8 rfl rfl (by first | assumption | rfl | decide | exact List.mem_append_left _ (List.mem_append_left _ haL)) (by first | assumption | rfl | decide | exact List.mem_append_left _ (List.mem_append_left _ haL)) ?_
      rw [hl1.2.2 a ha26 ha42, hNc]
      show aj_X G 13 _ (.int (nI c) :: _) _ _ _ _ _ _ _
      refine x_icmp_ge (q := 16) (t := 44) C 9 rfl (by decide) rfl (fun c2 => ?_) (fun c2 => ?_)
      · skip
        exact absurd ((nI_leI (by omega) (by omega)).mp c2) (by omega)
      · skip
        refine y_aload1 (q := 17) C 10 rfl rfl ?_
        refine y_iload2 (q := 18) C 11 rfl rfl ?_
        refine x_if_ne (q := 21) (t := 26) C 12 rfl (by decide) rfl (fun c3 => ?_) (fun c3 => ?_)
        · skip
          refine x_ldcS1 (q := 28) C 15 rfl rfl ?_
          refine y_G1 (q := 31) (bc' := 2 * m + 3) (bs' := 140 * m + 144) C 16 rfl rfl ml_RX5_224 cd_J4_append_15ec4 cv_J4_append_15ec4 ⟨by decide, rfl⟩ hBL1 (by decide) (by decide) (Nat.le_of_ble_eq_true rfl) (by omega) (by omega) (by rw [hGF]; intro i h; cases List.mem_singleton.mp h; exact hwP) (by intro i h; cases List.mem_singleton.mp h; refine ⟨?_, ?_⟩ <;> simp [haw, h65w]) (s_J4_append_15ec4 (L := (L ++ [65]) ++ [v]) (I := I2) (V := V2) (N := N2) (B := 65) rfl hvk hwk hwL hwV hT1 (c := 1) (by decide) (by have := aj_kl_le 1; omega) ?_)
          intro I3 V3 N3 L3 hA3
          show aj_X G 31 _ _ _ _ _ _ _ _ _
          have hl3 := tL.tA hl1 hA3 hvw
          refine tA.norm hA3 hvw hGL (fun v3 w3 hvw3 hT3 => ?_)
          show aj_X G 31 _ _ _ _ _ _ _ _ _
          have hvk3 := hvw3.v10
          have hwk3 := hvw3.w10
          obtain ⟨hwP3, hwv3, hw653⟩ := hvw3.wF
          obtain ⟨hwL3, hwV3⟩ := hX.fr hl3 hT3 hvw3 hwP3 hwv3 hw653
          have haw3 : a ≠ w3 := hX.ne haL hwP3
          have h65w3 : ¬ 65 = w3 := Ne.symm hw653
          have hBL3 : 65 ∈ (L ++ [65]) ++ [v3] := hT3.1.1
          have hkl := aj_kl_le 1
          obtain ⟨i, hi, hiv⟩ := hR k (by omega)
          have hs := sz_le i
          refine y_aload0 (q := 32) C 17 rfl rfl ?_
          refine y_iload2 (q := 33) C 18 rfl rfl ?_
          refine x_iald (q := 34) C 19 rfl rfl (by first | assumption | rfl | decide | exact List.mem_append_left _ (List.mem_append_left _ haL)) (by first | assumption | rfl | decide | exact List.mem_append_left _ (List.mem_append_left _ haL)) (by rw [hl3.2.2 a ha26 ha42, hNc]; exact nI_in (by omega) (by omega)) ?_
          rw [nI_clamp (by omega), hl3.1 a ha65 ha26 ha42, hiv]
          refine y_G1 (q := 37) (bc' := 2 * m + 2) (bs' := 140 * m + 74) C 20 rfl rfl ml_RX5_228 cd_J4_append_bf812 cv_J4_append_bf812 ⟨by decide, rfl⟩ hBL3 (by decide) (by decide) (Nat.le_of_ble_eq_true rfl) (by omega) (by omega) (by rw [hGF]; intro i h; cases List.mem_singleton.mp h; exact hwP3) (by intro i h; cases List.mem_singleton.mp h; refine ⟨?_, ?_⟩ <;> simp [haw3, h65w3]) (s_J4_append_bf812 (B := 65) rfl hvk3 hwk3 hwL3 hwV3 hT3 hi (by omega) ?_)
          intro I4 V4 N4 L4 hA4
          show aj_X G 37 _ _ _ _ _ _ _ _ _
          have hl4 := tL.tA hl3 hA4 hvw3
          refine tA.norm hA4 hvw3 hGL (fun v4 w4 hvw4 hT4 => ?_)
          show aj_X G 37 _ _ _ _ _ _ _ _ _
          refine x_pop (q := 38) C 21 rfl rfl rfl ?_
          refine y_iinc2 (q := 41) C 22 rfl rfl (nI_1 k) (Nat.le_of_ble_eq_true rfl) rfl ?_
          refine x_goto (t := 10) C 23 rfl (by decide) ?_
          exact ih (k + 1) _ v4 w4 I4 V4 N4 (by omega) (by omega) hvw4 hT4 hl4
        · skip
          refine x_ldcS0 (q := 23) C 13 rfl rfl ?_
          refine x_goto (t := 28) C 14 rfl (by decide) ?_
          refine y_G1 (q := 31) (bc' := 2 * m + 3) (bs' := 140 * m + 144) C 16 rfl rfl ml_RX5_224 cd_J4_append_15ec4 cv_J4_append_15ec4 ⟨by decide, rfl⟩ hBL1 (by decide) (by decide) (Nat.le_of_ble_eq_true rfl) (by omega) (by omega) (by rw [hGF]; intro i h; cases List.mem_singleton.mp h; exact hwP) (by intro i h; cases List.mem_singleton.mp h; refine ⟨?_, ?_⟩ <;> simp [haw, h65w]) (s_J4_append_15ec4 (L := (L ++ [65]) ++ [v]) (I := I2) (V := V2) (N := N2) (B := 65) rfl hvk hwk hwL hwV hT1 (c := 0) (by decide) (by have := aj_kl_le 0; omega) ?_)
          intro I3 V3 N3 L3 hA3
          show aj_X G 31 _ _ _ _ _ _ _ _ _
          have hl3 := tL.tA hl1 hA3 hvw
          refine tA.norm hA3 hvw hGL (fun v3 w3 hvw3 hT3 => ?_)
          show aj_X G 31 _ _ _ _ _ _ _ _ _
          have hvk3 := hvw3.v10
          have hwk3 := hvw3.w10
          obtain ⟨hwP3, hwv3, hw653⟩ := hvw3.wF
          obtain ⟨hwL3, hwV3⟩ := hX.fr hl3 hT3 hvw3 hwP3 hwv3 hw653
          have haw3 : a ≠ w3 := hX.ne haL hwP3
          have h65w3 : ¬ 65 = w3 := Ne.symm hw653
          have hBL3 : 65 ∈ (L ++ [65]) ++ [v3] := hT3.1.1
          have hkl := aj_kl_le 0
          obtain ⟨i, hi, hiv⟩ := hR k (by omega)
          have hs := sz_le i
          refine y_aload0 (q := 32) C 17 rfl rfl ?_
          refine y_iload2 (q := 33) C 18 rfl rfl ?_
          refine x_iald (q := 34) C 19 rfl rfl (by first | assumption | rfl | decide | exact List.mem_append_left _ (List.mem_append_left _ haL)) (by first | assumption | rfl | decide | exact List.mem_append_left _ (List.mem_append_left _ haL)) (by rw [hl3.2.2 a ha26 ha42, hNc]; exact nI_in (by omega) (by omega)) ?_
          rw [nI_clamp (by omega), hl3.1 a ha65 ha26 ha42, hiv]
          refine y_G1 (q := 37) (bc' := 2 * m + 2) (bs' := 140 * m + 74) C 20 rfl rfl ml_RX5_228 cd_J4_append_bf812 cv_J4_append_bf812 ⟨by decide, rfl⟩ hBL3 (by decide) (by decide) (Nat.le_of_ble_eq_true rfl) (by omega) (by omega) (by rw [hGF]; intro i h; cases List.mem_singleton.mp h; exact hwP3) (by intro i h; cases List.mem_singleton.mp h; refine ⟨?_, ?_⟩ <;> simp [haw3, h65w3]) (s_J4_append_bf812 (B := 65) rfl hvk3 hwk3 hwL3 hwV3 hT3 hi (by omega) ?_)
          intro I4 V4 N4 L4 hA4
          show aj_X G 37 _ _ _ _ _ _ _ _ _
          have hl4 := tL.tA hl3 hA4 hvw3
          refine tA.norm hA4 hvw3 hGL (fun v4 w4 hvw4 hT4 => ?_)
          show aj_X G 37 _ _ _ _ _ _ _ _ _
          refine x_pop (q := 38) C 21 rfl rfl rfl ?_
          refine y_iinc2 (q := 41) C 22 rfl rfl (nI_1 k) (Nat.le_of_ble_eq_true rfl) rfl ?_
          refine x_goto (t := 10) C 23 rfl (by decide) ?_
          exact ih (k + 1) _ v4 w4 I4 V4 N4 (by omega) (by omega) hvw4 hT4 hl4
  refine aj_bud (bc' := 2 * c + 2) (bs' := 140 * c + 74) (by omega) (by omega) ?_
  exact lp10 c 0 0 26 42 I1 V1 N1 (by omega) (by omega) (Or.inl ⟨rfl, rfl⟩) b1 ⟨fun a h1 h2 _ => (b2 a h1 h2).trans (aj_z_o _ _ h1), fun a h1 => (b3 a h1).trans (aj_z_o _ _ h1), fun a h1 _ => b4 a h1⟩
set_option maxRecDepth 100000 in
set_option maxHeartbeats 800000 in
theorem s_X3_roundText {l : Launch} {I : Nat → Nat → Int32} {J : Nat → Nat → Int64} {V : Nat → Nat → Option Nat} {N : Nat → Nat} {L : List Nat} {K : aj_K} {n : Nat} (hn : n ≤ 12) (hf : fW I n) (hB : bV V N L) (hX : tX V L) (hK : ∀ I1 J1 V1 N1 X, tK L I J V N I1 J1 V1 N1 → K (.inl (some (.ref 16))) I1 J1 V1 N1 (L ++ X)) : aj_M l yX3_roundText (aj_wc yX3_roundText cX3_roundText 1 (some (.object "java/lang/String"))) (aj_rm 8 28 1774) [65, 26, 42, 16, 58] [.ref 20] I J V N L K := by
  refine aj_intro (tbl := t_X3_roundText) (lv0 := [some (.ref 20)]) (by decide) T_X3_roundText (fun i h => by revert i h; unfold aj_sp; decide) (Nat.le_of_ble_eq_true rfl) rfl ?_
  intro G hl C Z NX hnm hGL hGF
  have C : aj_C G cX3_roundText t_X3_roundText RX3 (aj_rm 8 28 1774) 1 := C
  obtain ⟨rc, hcn, hr1, hr2, hr3, hr4, hr5, hr6, hr7⟩ := hf
  refine y_aload0 (q := 1) C 0 rfl rfl ?_
  refine x_getR (q := 4) C 1 rfl rfl fl_RX3_33 (bv_4_5 hB) (fun _ _ => rfl) (by first | assumption | rfl | decide | exact bL hB _ (by decide)) (by first | assumption | rfl | decide | exact bL hB _ (by decide)) ?_
  refine x_getR (q := 7) C 2 rfl rfl fl_RX3_189 (bv_2_3 hB) (fun _ _ => rfl) (by first | assumption | rfl | decide | exact bL hB _ (by decide)) (by first | assumption | rfl | decide | exact bL hB _ (by decide)) ?_
  refine y_aload0 (q := 8) C 3 rfl rfl ?_
  refine x_getR (q := 11) C 4 rfl rfl fl_RX3_33 (bv_4_5 hB) (fun _ _ => rfl) (by first | assumption | rfl | decide | exact bL hB _ (by decide)) (by first | assumption | rfl | decide | exact bL hB _ (by decide)) ?_
  refine x_getI (q := 14) C 5 rfl rfl fl_RX3_186 (fun _ _ => rfl) (by first | assumption | rfl | decide | exact bL hB _ (by decide)) (by first | assumption | rfl | decide | exact bL hB _ (by decide)) ?_
  rw [hr3]
  refine y_T2 (q := 17) (bc' := 0) (bs' := 0) C 6 rfl rfl ml_RX3_192 cd_X3_textOf sv_X3_textOf (by decide) (by decide) (Nat.le_of_ble_eq_true rfl) rfl rfl (by rw [hGF]; exact fun i h => h) (by intro i h; simp only [List.mem_cons, List.not_mem_nil, or_false] at h; rcases h with rfl | rfl | rfl | rfl | rfl <;> exact aj_no.of rfl) (s_X3_textOf (a := 56) (c := rc) rfl (bL hB _ (by decide)) (fun j hj => by obtain ⟨m, h1, h2⟩ := hr5 j hj; exact ⟨m, by omega, h2⟩) ⟨by omega, by rw [bn56 hB]; omega, by rw [bn56 hB]; decide⟩ hX ?_)
  intro I1 J1 V1 N1 X hk1
  show aj_X G 17 _ _ _ _ _ _ _ _ _
  exact x_areturn C Z 7 rfl rfl (by first | exact Or.inl ⟨_, rfl⟩ | exact Or.inr ⟨_, rfl⟩) (hK _ _ _ _ _ hk1)
set_option maxRecDepth 100000 in
set_option maxHeartbeats 800000 in
theorem s_X3_hullText {l : Launch} {I : Nat → Nat → Int32} {J : Nat → Nat → Int64} {V : Nat → Nat → Option Nat} {N : Nat → Nat} {L : List Nat} {K : aj_K} {n : Nat} (hn : n ≤ 12) (hf : fW I n) (hB : bV V N L) (hX : tX V L) (hK : ∀ I1 J1 V1 N1 X, tK L I J V N I1 J1 V1 N1 → K (.inl (some (.ref 16))) I1 J1 V1 N1 (L ++ X)) : aj_M l yX3_hullText (aj_wc yX3_hullText cX3_hullText 1 (some (.object "java/lang/String"))) (aj_rm 8 28 1774) [65, 26, 42, 16, 58] [.ref 20] I J V N L K := by
  refine aj_intro (tbl := t_X3_hullText) (lv0 := [some (.ref 20)]) (by decide) T_X3_hullText (fun i h => by revert i h; unfold aj_sp; decide) (Nat.le_of_ble_eq_true rfl) rfl ?_
  intro G hl C Z NX hnm hGL hGF
  have C : aj_C G cX3_hullText t_X3_hullText RX3 (aj_rm 8 28 1774) 1 := C
  obtain ⟨rc, hcn, hr1, hr2, hr3, hr4, hr5, hr6, hr7⟩ := hf
  refine y_aload0 (q := 1) C 0 rfl rfl ?_
  refine x_getR (q := 4) C 1 rfl rfl fl_RX3_33 (bv_4_5 hB) (fun _ _ => rfl) (by first | assumption | rfl | decide | exact bL hB _ (by decide)) (by first | assumption | rfl | decide | exact bL hB _ (by decide)) ?_
  refine x_getR (q := 7) C 2 rfl rfl fl_RX3_205 (bv_2_5 hB) (fun _ _ => rfl) (by first | assumption | rfl | decide | exact bL hB _ (by decide)) (by first | assumption | rfl | decide | exact bL hB _ (by decide)) ?_
  refine y_aload0 (q := 8) C 3 rfl rfl ?_
  refine x_getR (q := 11) C 4 rfl rfl fl_RX3_33 (bv_4_5 hB) (fun _ _ => rfl) (by first | assumption | rfl | decide | exact bL hB _ (by decide)) (by first | assumption | rfl | decide | exact bL hB _ (by decide)) ?_
  refine x_getI (q := 14) C 5 rfl rfl fl_RX3_202 (fun _ _ => rfl) (by first | assumption | rfl | decide | exact bL hB _ (by decide)) (by first | assumption | rfl | decide | exact bL hB _ (by decide)) ?_
  rw [hr4]
  refine y_T2 (q := 17) (bc' := 0) (bs' := 0) C 6 rfl rfl ml_RX3_192 cd_X3_textOf sv_X3_textOf (by decide) (by decide) (Nat.le_of_ble_eq_true rfl) rfl rfl (by rw [hGF]; exact fun i h => h) (by intro i h; simp only [List.mem_cons, List.not_mem_nil, or_false] at h; rcases h with rfl | rfl | rfl | rfl | rfl <;> exact aj_no.of rfl) (s_X3_textOf (a := 72) (c := hcn) rfl (bL hB _ (by decide)) (fun j hj => by obtain ⟨m, h1, h2⟩ := hr6 j hj; exact ⟨m, by omega, h2⟩) ⟨by omega, by rw [bn72 hB]; omega, by rw [bn72 hB]; decide⟩ hX ?_)
  intro I1 J1 V1 N1 X hk1
  show aj_X G 17 _ _ _ _ _ _ _ _ _
  exact x_areturn C Z 7 rfl rfl (by first | exact Or.inl ⟨_, rfl⟩ | exact Or.inr ⟨_, rfl⟩) (hK _ _ _ _ _ hk1)
