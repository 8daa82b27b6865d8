set_option maxRecDepth 100000 in
set_option maxHeartbeats 800000 in
theorem s_X5_roundText {l : Launch} {I : Nat → Nat → Int32} {J : Nat → Nat → Int64} {V : Nat → Nat → Option Nat} {N : Nat → Nat} {L : List Nat} {K : aj_K} (hM : mI I) (haL : 184 ∉ L) (hT : ∀ i j, V i j ≠ some 184) (hB : bV V N L) (hX : tX V L) (hX2 : ∀ f ∈ tP, ∀ i j, V i j ≠ some f) (hK : ∀ I1 J1 V1 N1 X, mRT L I J V N I1 J1 V1 N1 → K (.inl (some (.ref 16))) I1 J1 V1 N1 (L ++ X)) : aj_M l yX5_roundText (aj_wc yX5_roundText cX5_roundText 1 (some (.object "java/lang/String"))) (aj_rm 8 29 1786) [184, 65, 26, 42, 16, 58] [.ref 22] I J V N L K := by
  refine aj_intro (tbl := t_X5_roundText) (lv0 := [some (.ref 22)]) (by decide) T_X5_roundText (fun i h => by revert i h; unfold aj_sp; decide) (Nat.le_of_ble_eq_true rfl) rfl ?_
  intro G hl C Z NX hnm hGL hGF
  have C : aj_C G cX5_roundText t_X5_roundText RX5 (aj_rm 8 29 1786) 1 := C
  obtain ⟨n, hn, he⟩ := hM.2.1
  have hTT := hT
  have hB0 := hB
  refine y_aload0 (q := 1) C 0 rfl rfl ?_
  refine x_iconst (q := 2) C 1 (n := (0)) (v := (0)) rfl rfl rfl ?_
  refine x_putI (q := 5) C 2 rfl rfl fl_RX5_32 rfl rfl (by first | assumption | rfl | decide | omega | exact bL hB _ (by decide)) (by first | assumption | rfl | decide | omega | exact bL hB _ (by decide)) ?_
  have hR0 : mR I J (aj_u I 22 0 0) J := mR.t hM
  have hT : aj_u I 22 0 0 22 0 = 0 := aj_u_s _ _ _ _
  have he0 : aj_u I 22 0 0 22 7 = nI n := (aj_u_k _ _ _ (by decide)).trans he
  generalize aj_u I 22 0 0 = I0 at hR0 hT he0 ⊢
  refine y_aload0 (q := 6) C 3 rfl rfl ?_
  refine y_fV0 (q := 9) C 4 rfl rfl ml_RX5_235 cd_X5_round cv_X5_round ⟨by decide, rfl⟩ (by first | assumption | rfl | decide | omega | exact bL hB _ (by decide)) (by decide) (by decide) (Nat.le_of_ble_eq_true rfl) (bc' := 28) (bs' := 1774) rfl rfl (by rw [hGF]; decide) (fun i h => by rw [List.mem_singleton.mp h]; exact aj_no.of rfl) (s_X5_round hn he0 rfl haL hTT hB ?_)
  intro I1 t ht h1 hv
  have haL1 : 184 ∈ L ++ [184] := List.mem_append_right _ List.mem_cons_self
  have hRA := mRA.of hB haL hR0 h1
  have hX1 := hX.add hX2 (show 184 ∉ tP by decide)
  show aj_X G 9 _ _ _ _ _ _ _ _ _
  refine y_T1 (q := 12) (bc' := 0) (bs' := 0) C 5 rfl rfl ml_RX5_238 cd_X5_text sv_X5_text (by decide) (by decide) (Nat.le_of_ble_eq_true rfl) rfl rfl (by rw [hGF]; decide) (by intro i h; simp only [List.mem_cons, List.not_mem_nil, or_false] at h; rcases h with rfl | rfl | rfl | rfl | rfl <;> exact aj_no.of rfl) (s_X5_text (a := 184) (c := t) rfl haL1 hv (aj_ur_s _ _ _) ht hX1 ?_)
  intro I2 J2 V2 N2 X hk
  show aj_X G 12 _ _ _ _ _ _ _ _ _
  exact x_areturn C Z 6 rfl rfl (by first | exact Or.inl ⟨_, rfl⟩ | exact Or.inr ⟨_, rfl⟩) (by have z := hK _ _ _ _ ([184] ++ X) (mRT.of hB0 haL hRA hk); rw [← List.append_assoc] at z; exact z)
set_option maxRecDepth 100000 in
set_option maxHeartbeats 800000 in
theorem s_X5_hullText {l : Launch} {I : Nat → Nat → Int32} {J : Nat → Nat → Int64} {V : Nat → Nat → Option Nat} {N : Nat → Nat} {L : List Nat} {K : aj_K} (hM : mI I) (haL : 184 ∉ L) (hT : ∀ i j, V i j ≠ some 184) (hB : bV V N L) (hX : tX V L) (hX2 : ∀ f ∈ tP, ∀ i j, V i j ≠ some f) (hK : ∀ I1 J1 V1 N1 X, mRT L I J V N I1 J1 V1 N1 → K (.inl (some (.ref 16))) I1 J1 V1 N1 (L ++ X)) : aj_M l yX5_hullText (aj_wc yX5_hullText cX5_hullText 1 (some (.object "java/lang/String"))) (aj_rm 8 29 1786) [184, 65, 26, 42, 16, 58] [.ref 22] I J V N L K := by
  refine aj_intro (tbl := t_X5_hullText) (lv0 := [some (.ref 22)]) (by decide) T_X5_hullText (fun i h => by revert i h; unfold aj_sp; decide) (Nat.le_of_ble_eq_true rfl) rfl ?_
  intro G hl C Z NX hnm hGL hGF
  have C : aj_C G cX5_hullText t_X5_hullText RX5 (aj_rm 8 29 1786) 1 := C
  obtain ⟨n, hn, he⟩ := hM.2.1
  have hTT := hT
  have hB0 := hB
  refine y_aload0 (q := 1) C 0 rfl rfl ?_
  refine x_iconst (q := 2) C 1 (n := (0)) (v := (0)) rfl rfl rfl ?_
  refine x_putI (q := 5) C 2 rfl rfl fl_RX5_32 rfl rfl (by first | assumption | rfl | decide | omega | exact bL hB _ (by decide)) (by first | assumption | rfl | decide | omega | exact bL hB _ (by decide)) ?_
  have hR0 : mR I J (aj_u I 22 0 0) J := mR.t hM
  have hT : aj_u I 22 0 0 22 0 = 0 := aj_u_s _ _ _ _
  have he0 : aj_u I 22 0 0 22 7 = nI n := (aj_u_k _ _ _ (by decide)).trans he
  generalize aj_u I 22 0 0 = I0 at hR0 hT he0 ⊢
  refine y_aload0 (q := 6) C 3 rfl rfl ?_
  refine y_fV0 (q := 9) C 4 rfl rfl ml_RX5_191 cd_X5_corners cv_X5_corners ⟨by decide, rfl⟩ (by first | assumption | rfl | decide | omega | exact bL hB _ (by decide)) (by decide) (by decide) (Nat.le_of_ble_eq_true rfl) (bc' := 28) (bs' := 1774) rfl rfl (by rw [hGF]; decide) (fun i h => by rw [List.mem_singleton.mp h]; exact aj_no.of rfl) (s_X5_corners hn he0 rfl haL hTT hB ?_)
  intro I1 t ht h1 hv
  have haL1 : 184 ∈ L ++ [184] := List.mem_append_right _ List.mem_cons_self
  have hRA := mRA.of hB haL hR0 h1
  have hX1 := hX.add hX2 (show 184 ∉ tP by decide)
  show aj_X G 9 _ _ _ _ _ _ _ _ _
  refine y_T1 (q := 12) (bc' := 0) (bs' := 0) C 5 rfl rfl ml_RX5_238 cd_X5_text sv_X5_text (by decide) (by decide) (Nat.le_of_ble_eq_true rfl) rfl rfl (by rw [hGF]; decide) (by intro i h; simp only [List.mem_cons, List.not_mem_nil, or_false] at h; rcases h with rfl | rfl | rfl | rfl | rfl <;> exact aj_no.of rfl) (s_X5_text (a := 184) (c := t) rfl haL1 hv (aj_ur_s _ _ _) ht hX1 ?_)
  intro I2 J2 V2 N2 X hk
  show aj_X G 12 _ _ _ _ _ _ _ _ _
  exact x_areturn C Z 6 rfl rfl (by first | exact Or.inl ⟨_, rfl⟩ | exact Or.inr ⟨_, rfl⟩) (by have z := hK _ _ _ _ ([184] ++ X) (mRT.of hB0 haL hRA hk); rw [← List.append_assoc] at z; exact z)
