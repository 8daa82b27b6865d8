set_option maxRecDepth 100000 in
set_option maxHeartbeats 800000 in
theorem s_X2_init {l : Launch} {I : Nat → Nat → Int32} {J : Nat → Nat → Int64} {V : Nat → Nat → Option Nat} {N : Nat → Nat} {L : List Nat} {K : aj_K} {a : Nat} (ha : a % 16 = 3) (haL : a ∈ L) (hK : K (.inl none) (aj_u (aj_u I a 0 1) a 3 1) J V N L) : aj_M l yX2_init (aj_wc yX2_init cX2_init 1 none) (aj_rm 1 0 0) [] [.ref a] I J V N L K := by
  refine aj_intro (tbl := t_X2_init) (lv0 := [some (.ref a)]) (by decide) T_X2_init aj_f0 (Nat.le_of_ble_eq_true rfl) rfl ?_
  intro G hl C Z NX hnm hGL hGF
  have C : aj_C G cX2_init t_X2_init RX2 (aj_rm 1 0 0) 1 := C
  refine y_aload0 (q := 1) C 0 rfl rfl ?_
  refine x_objInit (q := 4) C 1 rfl rfl ml_RX2_1 ob_init ⟨by decide, Nat.le_of_ble_eq_true rfl⟩ ?_
  refine y_aload0 (q := 5) C 2 rfl rfl ?_
  refine x_iconst (q := 6) C 3 (n := (1)) (v := (1)) rfl rfl rfl ?_
  refine x_putI (q := 9) C 4 rfl rfl fl_RX2_7 rfl rfl (by first | assumption | rfl | decide | exact hB _ (by decide)) (by first | assumption | rfl | decide | exact hB _ (by decide)) ?_
  refine y_aload0 (q := 10) C 5 rfl rfl ?_
  refine x_iconst (q := 11) C 6 (n := (1)) (v := (1)) rfl rfl rfl ?_
  refine x_putI (q := 14) C 7 rfl rfl fl_RX2_13 rfl rfl (by first | assumption | rfl | decide | exact hB _ (by decide)) (by first | assumption | rfl | decide | exact hB _ (by decide)) ?_
  exact x_return C Z 8 rfl rfl (hK)
set_option maxRecDepth 100000 in
set_option maxHeartbeats 800000 in
theorem s_X1_init {l : Launch} {I : Nat → Nat → Int32} {J : Nat → Nat → Int64} {V : Nat → Nat → Option Nat} {N : Nat → Nat} {L : List Nat} {K : aj_K} {M : List Nat} (hLL : L = [20, 27, 43, 25, 147, 163, 18]) (hMM : M = [163, 147, 25, 43, 27]) (hM : vM V M) (hK : ∀ I1 J1 V1 N1, eqO [24, 40, 56, 72, 179, 195] I I1 → (∀ i, i ∉ ([179, 195] : List Nat) → J1 i = J i) → (∀ i, i ∉ ([18, 24, 40, 56, 72, 179, 195] : List Nat) → V1 i = V i) → (V1 18 0 = some 24 ∧ V1 18 1 = some 40 ∧ V1 18 3 = some 56 ∧ V1 18 5 = some 72 ∧ V1 18 7 = some 179 ∧ V1 18 8 = some 195) → vM V1 ([195, 179, 72, 56, 40, 24] ++ M) → (∀ i, i ∉ ([24, 40, 56, 72] : List Nat) → N1 i = N i) → (N1 24 = 13 ∧ N1 40 = 13 ∧ N1 56 = 12 ∧ N1 72 = 12) → ((∀ k, I1 24 k = 0) ∧ (∀ k, I1 40 k = 0) ∧ (∀ k, I1 56 k = 0) ∧ (∀ k, I1 72 k = 0)) → (∀ c ∈ ([179, 195] : List Nat), ∀ k, I1 c k = if k = 0 ∨ k = 3 then 1 else 0) → K (.inl none) I1 J1 V1 N1 (L ++ [24, 40, 56, 72, 179, 195])) : aj_M l yX1_init (aj_wc yX1_init cX1_init 1 none) (aj_rm 2 6 58) [24, 40, 56, 72, 179, 195] [.ref 18] I J V N L K := by
  refine aj_intro (tbl := t_X1_init) (lv0 := [some (.ref 18)]) (by decide) T_X1_init (fun i h => by unfold aj_sp; simp only [List.mem_cons, List.not_mem_nil, or_false] at h; omega) (Nat.le_of_ble_eq_true rfl) rfl ?_
  intro G hl C Z NX hnm hGL hGF
  have C : aj_C G cX1_init t_X1_init RX1 (aj_rm 2 6 58) 1 := C
  subst hLL
  subst hMM
  refine y_aload0 (q := 1) C 0 rfl rfl ?_
  refine x_objInit (q := 4) C 1 rfl rfl ml_RX1_3 ob_init ⟨by decide, Nat.le_of_ble_eq_true rfl⟩ ?_
  refine y_aload0 (q := 5) C 2 rfl rfl ?_
  refine x_bipush (q := 7) C 3 (n := (13)) (v := (13)) rfl rfl rfl ?_
  refine x_newI (q := 9) (bc' := 5) (bs' := 45) C 4 24 (n' := 13) (m := 13) rfl rfl ac_int (by decide) rfl (Nat.le_refl _) (by decide) rfl (by rw [hGF]; decide) (by decide) (vM.no (by repeat (first | assumption | (with_reducible apply vM.z) | (with_reducible apply vM.u))) (by decide)) (aj_no.of rfl) rfl rfl ?_
  refine x_putF (q := 12) C 5 rfl rfl fl_RX1_9 rfl hnm rfl (fun _ _ _ => rfl) (fun _ => rfl) (fun _ => rfl) (by first | assumption | rfl | decide | exact hB _ (by decide)) (by first | assumption | rfl | decide | exact hB _ (by decide)) ?_
  refine y_aload0 (q := 13) C 6 rfl rfl ?_
  refine x_bipush (q := 15) C 7 (n := (13)) (v := (13)) rfl rfl rfl ?_
  refine x_newI (q := 17) (bc' := 4) (bs' := 32) C 8 40 (n' := 13) (m := 13) rfl rfl ac_int (by decide) rfl (Nat.le_refl _) (by decide) rfl (by rw [hGF]; decide) (by decide) (vM.no (by repeat (first | assumption | (with_reducible apply vM.z) | (with_reducible apply vM.u))) (by decide)) (aj_no.of rfl) rfl rfl ?_
  refine x_putF (q := 20) C 9 rfl rfl fl_RX1_13 rfl hnm rfl (fun _ _ _ => rfl) (fun _ => rfl) (fun _ => rfl) (by first | assumption | rfl | decide | exact hB _ (by decide)) (by first | assumption | rfl | decide | exact hB _ (by decide)) ?_
  refine y_aload0 (q := 21) C 10 rfl rfl ?_
  refine x_bipush (q := 23) C 11 (n := (12)) (v := (12)) rfl rfl rfl ?_
  refine x_newI (q := 25) (bc' := 3) (bs' := 20) C 12 56 (n' := 12) (m := 12) rfl rfl ac_int (by decide) rfl (Nat.le_refl _) (by decide) rfl (by rw [hGF]; decide) (by decide) (vM.no (by repeat (first | assumption | (with_reducible apply vM.z) | (with_reducible apply vM.u))) (by decide)) (aj_no.of rfl) rfl rfl ?_
  refine x_putF (q := 28) C 13 rfl rfl fl_RX1_16 rfl hnm rfl (fun _ _ _ => rfl) (fun _ => rfl) (fun _ => rfl) (by first | assumption | rfl | decide | exact hB _ (by decide)) (by first | assumption | rfl | decide | exact hB _ (by decide)) ?_
  refine y_aload0 (q := 29) C 14 rfl rfl ?_
  refine x_bipush (q := 31) C 15 (n := (12)) (v := (12)) rfl rfl rfl ?_
  refine x_newI (q := 33) (bc' := 2) (bs' := 8) C 16 72 (n' := 12) (m := 12) rfl rfl ac_int (by decide) rfl (Nat.le_refl _) (by decide) rfl (by rw [hGF]; decide) (by decide) (vM.no (by repeat (first | assumption | (with_reducible apply vM.z) | (with_reducible apply vM.u))) (by decide)) (aj_no.of rfl) rfl rfl ?_
  refine x_putF (q := 36) C 17 rfl rfl fl_RX1_19 rfl hnm rfl (fun _ _ _ => rfl) (fun _ => rfl) (fun _ => rfl) (by first | assumption | rfl | decide | exact hB _ (by decide)) (by first | assumption | rfl | decide | exact hB _ (by decide)) ?_
  refine y_aload0 (q := 37) C 18 rfl rfl ?_
  refine x_new (q := 40) (bc' := 1) (bs' := 4) C 19 179 rfl rfl nw_RX1_22 rfl (by rw [hGF]; decide) (by decide) (vM.no (by repeat (first | assumption | (with_reducible apply vM.z) | (with_reducible apply vM.u))) (by decide)) (aj_no.of rfl) rfl rfl ?_
  refine x_dupr (q := 41) C 20 rfl rfl ?_
  refine y_jN0 (q := 44) (bc' := 1) (bs' := 4) (host := "Raywalk") C 21 rfl rfl (by decide) cd_X2_init iv_X2_init rfl (by decide) (by decide) (Nat.le_of_ble_eq_true rfl) (Nat.zero_add _).symm (Nat.zero_add _).symm aj_f0 aj_f0 (s_X2_init (by decide) (by decide) ?_)
  show aj_X G 44 _ _ _ _ _ _ _ _ _
  refine x_putF (q := 47) C 22 rfl rfl fl_RX1_25 rfl hnm rfl (fun _ _ _ => rfl) (fun _ => rfl) (fun _ => rfl) (by first | assumption | rfl | decide | exact hB _ (by decide)) (by first | assumption | rfl | decide | exact hB _ (by decide)) ?_
  refine y_aload0 (q := 48) C 23 rfl rfl ?_
  refine x_new (q := 51) (bc' := 0) (bs' := 0) C 24 195 rfl rfl nw_RX1_22 rfl (by rw [hGF]; decide) (by decide) (vM.no (by repeat (first | assumption | (with_reducible apply vM.z) | (with_reducible apply vM.u))) (by decide)) (aj_no.of rfl) rfl rfl ?_
  refine x_dupr (q := 52) C 25 rfl rfl ?_
  refine y_jN0 (q := 55) (bc' := 0) (bs' := 0) (host := "Raywalk") C 26 rfl rfl (by decide) cd_X2_init iv_X2_init rfl (by decide) (by decide) (Nat.le_of_ble_eq_true rfl) (Nat.zero_add _).symm (Nat.zero_add _).symm aj_f0 aj_f0 (s_X2_init (by decide) (by decide) ?_)
  show aj_X G 55 _ _ _ _ _ _ _ _ _
  refine x_putF (q := 58) C 27 rfl rfl fl_RX1_29 rfl hnm rfl (fun _ _ _ => rfl) (fun _ => rfl) (fun _ => rfl) (by first | assumption | rfl | decide | exact hB _ (by decide)) (by first | assumption | rfl | decide | exact hB _ (by decide)) ?_
  exact x_return C Z 28 rfl rfl (hK _ _ _ _ (fun i h => by simp only [List.mem_cons, List.not_mem_nil, or_false, not_or] at h; funext k; simp [aj_u, aj_z, h]) (fun i h => by simp only [List.mem_cons, List.not_mem_nil, or_false, not_or] at h; funext k; simp [aj_u, aj_z, h]) (fun i h => by simp only [List.mem_cons, List.not_mem_nil, or_false, not_or] at h; funext k; simp [aj_u, aj_z, h]) ⟨rfl, rfl, rfl, rfl, rfl, rfl⟩ (vM.mono (by repeat (first | assumption | (with_reducible apply vM.z) | (with_reducible apply vM.u))) (by decide)) (fun i h => by simp only [List.mem_cons, List.not_mem_nil, or_false, not_or] at h; simp [aj_ur, h]) ⟨rfl, rfl, rfl, rfl⟩ ⟨fun _ => rfl, fun _ => rfl, fun _ => rfl, fun _ => rfl⟩ (fun c hc k => by simp only [List.mem_cons, List.not_mem_nil, or_false] at hc; rcases hc with rfl | rfl <;> (by_cases z : k = 3 <;> by_cases z2 : k = 0 <;> simp [aj_u, aj_z, z, z2])))
set_option maxRecDepth 100000 in
set_option maxHeartbeats 800000 in
theorem s_X3_init {l : Launch} {I : Nat → Nat → Int32} {J : Nat → Nat → Int64} {V : Nat → Nat → Option Nat} {N : Nat → Nat} {L : List Nat} {K : aj_K} (hLL : L = [20]) (hM : vM V []) (hK : ∀ I1 J1 V1 N1, eqO [27, 43, 25, 147, 163, 18, 24, 40, 56, 72, 179, 195, 19, 35, 51, 67, 83, 99, 115, 131] I I1 → (V1 20 0 = some 27 ∧ V1 20 1 = some 43 ∧ V1 20 2 = some 25 ∧ V1 20 3 = some 147 ∧ V1 20 4 = some 163 ∧ V1 20 5 = some 18) → (V1 18 0 = some 24 ∧ V1 18 1 = some 40 ∧ V1 18 3 = some 56 ∧ V1 18 5 = some 72 ∧ V1 18 7 = some 179 ∧ V1 18 8 = some 195) → (∀ j, j < 8 → V1 27 j = some (19 + 16 * j)) → vM V1 [27, 43, 25, 147, 163, 18, 24, 40, 56, 72, 179, 195, 19, 35, 51, 67, 83, 99, 115, 131] → (N1 27 = 8 ∧ N1 43 = 8 ∧ N1 25 = 8 ∧ N1 24 = 13 ∧ N1 40 = 13 ∧ N1 56 = 12 ∧ N1 72 = 12) → (∀ i, i ∉ ([27, 43, 25, 147, 163, 18, 24, 40, 56, 72, 179, 195, 19, 35, 51, 67, 83, 99, 115, 131] : List Nat) → N1 i = N i) → ((∀ k, I1 18 k = 0) ∧ (∀ k, I1 24 k = 0) ∧ (∀ k, I1 40 k = 0) ∧ (∀ k, I1 56 k = 0) ∧ (∀ k, I1 72 k = 0)) → (∀ k, J1 25 k = 0) → (∀ c ∈ ([147, 163, 179, 195, 19, 35, 51, 67, 83, 99, 115, 131] : List Nat), ∀ k, I1 c k = if k = 0 ∨ k = 3 then 1 else 0) → K (.inl none) I1 J1 V1 N1 ([20] ++ [27, 43, 25, 147, 163, 18, 24, 40, 56, 72, 179, 195, 19, 35, 51, 67, 83, 99, 115, 131])) : aj_M l yX3_init (aj_wc yX3_init cX3_init 2 none) (aj_rm 3 20 131) [27, 43, 25, 147, 163, 18, 24, 40, 56, 72, 179, 195, 19, 35, 51, 67, 83, 99, 115, 131] [.ref 20] I J V N L K := by
  refine aj_intro (tbl := t_X3_init) (lv0 := [some (.ref 20), none]) (by decide) T_X3_init (fun i h => by unfold aj_sp; simp only [List.mem_cons, List.not_mem_nil, or_false] at h; omega) (Nat.le_of_ble_eq_true rfl) rfl ?_
  intro G hl C Z NX hnm hGL hGF
  have C : aj_C G cX3_init t_X3_init RX3 (aj_rm 3 20 131) 2 := C
  subst hLL
  refine y_aload0 (q := 1) C 0 rfl rfl ?_
  refine x_objInit (q := 4) C 1 rfl rfl ml_RX3_1 ob_init ⟨by decide, Nat.le_of_ble_eq_true rfl⟩ ?_
  refine y_aload0 (q := 5) C 2 rfl rfl ?_
  refine x_bipush (q := 7) C 3 (n := (8)) (v := (8)) rfl rfl rfl ?_
  refine x_newR (q := 10) (bc' := 19) (bs' := 123) C 4 27 (n' := 8) (m := 8) rfl rfl ac_RX3_9 (by decide) rfl (Nat.le_refl _) (by decide) rfl (by rw [hGF]; decide) (by decide) (vM.no (by repeat (first | assumption | (with_reducible apply vM.z) | (with_reducible apply vM.u))) (by decide)) (aj_no.of rfl) rfl rfl ?_
  refine x_putF (q := 13) C 5 rfl rfl fl_RX3_11 rfl hnm rfl (fun _ _ _ => rfl) (fun _ => rfl) (fun _ => rfl) (by first | assumption | rfl | decide | exact hB _ (by decide)) (by first | assumption | rfl | decide | exact hB _ (by decide)) ?_
  refine y_aload0 (q := 14) C 6 rfl rfl ?_
  refine x_bipush (q := 16) C 7 (n := (8)) (v := (8)) rfl rfl rfl ?_
  refine x_newR (q := 19) (bc' := 18) (bs' := 115) C 8 43 (n' := 8) (m := 8) rfl rfl ac_RX3_9 (by decide) rfl (Nat.le_refl _) (by decide) rfl (by rw [hGF]; decide) (by decide) (vM.no (by repeat (first | assumption | (with_reducible apply vM.z) | (with_reducible apply vM.u))) (by decide)) (aj_no.of rfl) rfl rfl ?_
  refine x_putF (q := 22) C 9 rfl rfl fl_RX3_15 rfl hnm rfl (fun _ _ _ => rfl) (fun _ => rfl) (fun _ => rfl) (by first | assumption | rfl | decide | exact hB _ (by decide)) (by first | assumption | rfl | decide | exact hB _ (by decide)) ?_
  refine y_aload0 (q := 23) C 10 rfl rfl ?_
  refine x_bipush (q := 25) C 11 (n := (8)) (v := (8)) rfl rfl rfl ?_
  refine x_newJ (q := 27) (bc' := 17) (bs' := 107) C 12 25 (n' := 8) (m := 8) rfl rfl ac_long (by decide) rfl (Nat.le_refl _) (by decide) rfl (by rw [hGF]; decide) (by decide) (vM.no (by repeat (first | assumption | (with_reducible apply vM.z) | (with_reducible apply vM.u))) (by decide)) (aj_no.of rfl) rfl rfl ?_
  refine x_putF (q := 30) C 13 rfl rfl fl_RX3_18 rfl hnm rfl (fun _ _ _ => rfl) (fun _ => rfl) (fun _ => rfl) (by first | assumption | rfl | decide | exact hB _ (by decide)) (by first | assumption | rfl | decide | exact hB _ (by decide)) ?_
  refine y_aload0 (q := 31) C 14 rfl rfl ?_
  refine x_new (q := 34) (bc' := 16) (bs' := 103) C 15 147 rfl rfl nw_RX3_9 rfl (by rw [hGF]; decide) (by decide) (vM.no (by repeat (first | assumption | (with_reducible apply vM.z) | (with_reducible apply vM.u))) (by decide)) (aj_no.of rfl) rfl rfl ?_
  refine x_dupr (q := 35) C 16 rfl rfl ?_
  refine y_jN0 (q := 38) (bc' := 16) (bs' := 103) (host := "Raywalk") C 17 rfl rfl (by decide) cd_X2_init iv_X2_init rfl (by decide) (by decide) (Nat.le_of_ble_eq_true rfl) (Nat.zero_add _).symm (Nat.zero_add _).symm aj_f0 aj_f0 (s_X2_init (by decide) (by decide) ?_)
  show aj_X G 38 _ _ _ _ _ _ _ _ _
  refine x_putF (q := 41) C 18 rfl rfl fl_RX3_23 rfl hnm rfl (fun _ _ _ => rfl) (fun _ => rfl) (fun _ => rfl) (by first | assumption | rfl | decide | exact hB _ (by decide)) (by first | assumption | rfl | decide | exact hB _ (by decide)) ?_
  refine y_aload0 (q := 42) C 19 rfl rfl ?_
  refine x_new (q := 45) (bc' := 15) (bs' := 99) C 20 163 rfl rfl nw_RX3_9 rfl (by rw [hGF]; decide) (by decide) (vM.no (by repeat (first | assumption | (with_reducible apply vM.z) | (with_reducible apply vM.u))) (by decide)) (aj_no.of rfl) rfl rfl ?_
  refine x_dupr (q := 46) C 21 rfl rfl ?_
  refine y_jN0 (q := 49) (bc' := 15) (bs' := 99) (host := "Raywalk") C 22 rfl rfl (by decide) cd_X2_init iv_X2_init rfl (by decide) (by decide) (Nat.le_of_ble_eq_true rfl) (Nat.zero_add _).symm (Nat.zero_add _).symm aj_f0 aj_f0 (s_X2_init (by decide) (by decide) ?_)
  show aj_X G 49 _ _ _ _ _ _ _ _ _
  refine x_putF (q := 52) C 23 rfl rfl fl_RX3_27 rfl hnm rfl (fun _ _ _ => rfl) (fun _ => rfl) (fun _ => rfl) (by first | assumption | rfl | decide | exact hB _ (by decide)) (by first | assumption | rfl | decide | exact hB _ (by decide)) ?_
  refine y_aload0 (q := 53) C 24 rfl rfl ?_
  refine x_new (q := 56) (bc' := 14) (bs' := 90) C 25 18 rfl rfl nw_RX3_30 rfl (by rw [hGF]; decide) (by decide) (vM.no (by repeat (first | assumption | (with_reducible apply vM.z) | (with_reducible apply vM.u))) (by decide)) (aj_no.of rfl) rfl rfl ?_
  refine x_dupr (q := 57) C 26 rfl rfl ?_
  refine y_jN0 (q := 60) (bc' := 8) (bs' := 32) (host := "Raywalk") C 27 rfl rfl (by decide) cd_X1_init iv_X1_init rfl (by decide) (by decide) (Nat.le_of_ble_eq_true rfl) rfl rfl (by rw [hGF]; decide) (by intro i h; simp only [List.mem_cons, List.not_mem_nil, or_false] at h; rcases h with rfl | rfl | rfl | rfl | rfl | rfl <;> exact aj_no.of rfl) (s_X1_init rfl rfl (vM.mono (M' := [163, 147, 25, 43, 27]) (by repeat (first | assumption | (with_reducible apply vM.z) | (with_reducible apply vM.u))) (by decide)) ?_)
  intro I1 J1 V1 N1 e1 e2 e3 v1 vm n1 n2 z1 s1
  show aj_X G 60 _ _ _ _ _ _ _ _ _
  refine x_putF (q := 63) C 28 rfl rfl fl_RX3_33 rfl hnm rfl (fun _ _ _ => rfl) (fun _ => rfl) (fun _ => rfl) (by first | assumption | rfl | decide | exact hB _ (by decide)) (by first | assumption | rfl | decide | exact hB _ (by decide)) ?_
  refine x_iconst (q := 64) C 29 (n := (0)) (v := (0)) rfl rfl rfl ?_
  refine y_istore1 (q := 65) C 30 rfl rfl (Nat.le_of_ble_eq_true rfl) rfl ?_
  refine y_iload1 (q := 66) C 31 rfl rfl ?_
  refine x_bipush (q := 68) C 32 (n := (8)) (v := (8)) rfl rfl rfl ?_
  refine x_icmp_ge (q := 71) (t := 90) C 33 rfl (by decide) rfl (fun c1 => ?_) (fun c1 => ?_)
  · skip
    exact absurd c1 (by decide)
  · skip
    refine y_aload0 (q := 72) C 34 rfl rfl ?_
    refine x_getR (q := 75) C 35 rfl rfl fl_RX3_11 (show V1 20 0 = some 27 from congrFun (e3 20 (by decide)) 0) (fun _ _ => rfl) (by first | assumption | rfl | decide | exact hB _ (by decide)) (by first | assumption | rfl | decide | exact hB _ (by decide)) ?_
    refine y_iload1 (q := 76) C 36 rfl rfl ?_
    refine x_new (q := 79) (bc' := 7) (bs' := 28) C 37 19 rfl rfl nw_RX3_9 rfl (by rw [hGF]; decide) (by decide) (vM.no (by repeat (first | assumption | (with_reducible apply vM.z) | (with_reducible apply vM.u))) (by decide)) (aj_no.of rfl) rfl rfl ?_
    refine x_dupr (q := 80) C 38 rfl rfl ?_
    refine y_jN0 (q := 83) (bc' := 7) (bs' := 28) (host := "Raywalk") C 39 rfl rfl (by decide) cd_X2_init iv_X2_init rfl (by decide) (by decide) (Nat.le_of_ble_eq_true rfl) (Nat.zero_add _).symm (Nat.zero_add _).symm aj_f0 aj_f0 (s_X2_init (by decide) (by decide) ?_)
    show aj_X G 83 _ _ _ _ _ _ _ _ _
    refine x_aast (q := 84) C 40 rfl rfl (by first | assumption | rfl | decide | exact hB _ (by decide)) (by first | assumption | rfl | decide | exact hB _ (by decide)) (by first | assumption | rfl | decide | exact hB _ (by decide)) (by first | assumption | rfl | decide | exact hB _ (by decide)) (by rw [show N1 27 = 8 from n1 27 (by decide)]; unfold vp_in; decide) ?_
    refine y_iinc1 (q := 87) C 41 rfl rfl (v := 1) (by decide) (Nat.le_of_ble_eq_true rfl) rfl ?_
    refine x_goto (t := 65) C 42 rfl (by decide) ?_
    refine y_iload1 (q := 66) C 31 rfl rfl ?_
    refine x_bipush (q := 68) C 32 (n := (8)) (v := (8)) rfl rfl rfl ?_
    refine x_icmp_ge (q := 71) (t := 90) C 33 rfl (by decide) rfl (fun c2 => ?_) (fun c2 => ?_)
    · skip
      exact absurd c2 (by decide)
    · skip
      refine y_aload0 (q := 72) C 34 rfl rfl ?_
      refine x_getR (q := 75) C 35 rfl rfl fl_RX3_11 (show V1 20 0 = some 27 from congrFun (e3 20 (by decide)) 0) (fun _ _ => rfl) (by first | assumption | rfl | decide | exact hB _ (by decide)) (by first | assumption | rfl | decide | exact hB _ (by decide)) ?_
      refine y_iload1 (q := 76) C 36 rfl rfl ?_
      refine x_new (q := 79) (bc' := 6) (bs' := 24) C 37 35 rfl rfl nw_RX3_9 rfl (by rw [hGF]; decide) (by decide) (vM.no (by repeat (first | assumption | (with_reducible apply vM.z) | (with_reducible apply vM.u))) (by decide)) (aj_no.of rfl) rfl rfl ?_
      refine x_dupr (q := 80) C 38 rfl rfl ?_
      refine y_jN0 (q := 83) (bc' := 6) (bs' := 24) (host := "Raywalk") C 39 rfl rfl (by decide) cd_X2_init iv_X2_init rfl (by decide) (by decide) (Nat.le_of_ble_eq_true rfl) (Nat.zero_add _).symm (Nat.zero_add _).symm aj_f0 aj_f0 (s_X2_init (by decide) (by decide) ?_)
      show aj_X G 83 _ _ _ _ _ _ _ _ _
      refine x_aast (q := 84) C 40 rfl rfl (by first | assumption | rfl | decide | exact hB _ (by decide)) (by first | assumption | rfl | decide | exact hB _ (by decide)) (by first | assumption | rfl | decide | exact hB _ (by decide)) (by first | assumption | rfl | decide | exact hB _ (by decide)) (by rw [show N1 27 = 8 from n1 27 (by decide)]; unfold vp_in; decide) ?_
      refine y_iinc1 (q := 87) C 41 rfl rfl (v := 2) (by decide) (Nat.le_of_ble_eq_true rfl) rfl ?_
      refine x_goto (t := 65) C 42 rfl (by decide) ?_
      refine y_iload1 (q := 66) C 31 rfl rfl ?_
      refine x_bipush (q := 68) C 32 (n := (8)) (v := (8)) rfl rfl rfl ?_
      refine x_icmp_ge (q := 71) (t := 90) C 33 rfl (by decide) rfl (fun c3 => ?_) (fun c3 => ?_)
      · skip
        exact absurd c3 (by decide)
      · skip
        refine y_aload0 (q := 72) C 34 rfl rfl ?_
        refine x_getR (q := 75) C 35 rfl rfl fl_RX3_11 (show V1 20 0 = some 27 from congrFun (e3 20 (by decide)) 0) (fun _ _ => rfl) (by first | assumption | rfl | decide | exact hB _ (by decide)) (by first | assumption | rfl | decide | exact hB _ (by decide)) ?_
        refine y_iload1 (q := 76) C 36 rfl rfl ?_
        refine x_new (q := 79) (bc' := 5) (bs' := 20) C 37 51 rfl rfl nw_RX3_9 rfl (by rw [hGF]; decide) (by decide) (vM.no (by repeat (first | assumption | (with_reducible apply vM.z) | (with_reducible apply vM.u))) (by decide)) (aj_no.of rfl) rfl rfl ?_
        refine x_dupr (q := 80) C 38 rfl rfl ?_
        refine y_jN0 (q := 83) (bc' := 5) (bs' := 20) (host := "Raywalk") C 39 rfl rfl (by decide) cd_X2_init iv_X2_init rfl (by decide) (by decide) (Nat.le_of_ble_eq_true rfl) (Nat.zero_add _).symm (Nat.zero_add _).symm aj_f0 aj_f0 (s_X2_init (by decide) (by decide) ?_)
        show aj_X G 83 _ _ _ _ _ _ _ _ _
        refine x_aast (q := 84) C 40 rfl rfl (by first | assumption | rfl | decide | exact hB _ (by decide)) (by first | assumption | rfl | decide | exact hB _ (by decide)) (by first | assumption | rfl | decide | exact hB _ (by decide)) (by first | assumption | rfl | decide | exact hB _ (by decide)) (by rw [show N1 27 = 8 from n1 27 (by decide)]; unfold vp_in; decide) ?_
        refine y_iinc1 (q := 87) C 41 rfl rfl (v := 3) (by decide) (Nat.le_of_ble_eq_true rfl) rfl ?_
        refine x_goto (t := 65) C 42 rfl (by decide) ?_
        refine y_iload1 (q := 66) C 31 rfl rfl ?_
        refine x_bipush (q := 68) C 32 (n := (8)) (v := (8)) rfl rfl rfl ?_
        refine x_icmp_ge (q := 71) (t := 90) C 33 rfl (by decide) rfl (fun c4 => ?_) (fun c4 => ?_)
        · skip
          exact absurd c4 (by decide)
        · skip
          refine y_aload0 (q := 72) C 34 rfl rfl ?_
          refine x_getR (q := 75) C 35 rfl rfl fl_RX3_11 (show V1 20 0 = some 27 from congrFun (e3 20 (by decide)) 0) (fun _ _ => rfl) (by first | assumption | rfl | decide | exact hB _ (by decide)) (by first | assumption | rfl | decide | exact hB _ (by decide)) ?_
          refine y_iload1 (q := 76) C 36 rfl rfl ?_
          refine x_new (q := 79) (bc' := 4) (bs' := 16) C 37 67 rfl rfl nw_RX3_9 rfl (by rw [hGF]; decide) (by decide) (vM.no (by repeat (first | assumption | (with_reducible apply vM.z) | (with_reducible apply vM.u))) (by decide)) (aj_no.of rfl) rfl rfl ?_
          refine x_dupr (q := 80) C 38 rfl rfl ?_
          refine y_jN0 (q := 83) (bc' := 4) (bs' := 16) (host := "Raywalk") C 39 rfl rfl (by decide) cd_X2_init iv_X2_init rfl (by decide) (by decide) (Nat.le_of_ble_eq_true rfl) (Nat.zero_add _).symm (Nat.zero_add _).symm aj_f0 aj_f0 (s_X2_init (by decide) (by decide) ?_)
          show aj_X G 83 _ _ _ _ _ _ _ _ _
          refine x_aast (q := 84) C 40 rfl rfl (by first | assumption | rfl | decide | exact hB _ (by decide)) (by first | assumption | rfl | decide | exact hB _ (by decide)) (by first | assumption | rfl | decide | exact hB _ (by decide)) (by first | assumption | rfl | decide | exact hB _ (by decide)) (by rw [show N1 27 = 8 from n1 27 (by decide)]; unfold vp_in; decide) ?_
          refine y_iinc1 (q := 87) C 41 rfl rfl (v := 4) (by decide) (Nat.le_of_ble_eq_true rfl) rfl ?_
          refine x_goto (t := 65) C 42 rfl (by decide) ?_
          refine y_iload1 (q := 66) C 31 rfl rfl ?_
          refine x_bipush (q := 68) C 32 (n := (8)) (v := (8)) rfl rfl rfl ?_
          refine x_icmp_ge (q := 71) (t := 90) C 33 rfl (by decide) rfl (fun c5 => ?_) (fun c5 => ?_)
          · skip
            exact absurd c5 (by decide)
          · skip
            refine y_aload0 (q := 72) C 34 rfl rfl ?_
            refine x_getR (q := 75) C 35 rfl rfl fl_RX3_11 (show V1 20 0 = some 27 from congrFun (e3 20 (by decide)) 0) (fun _ _ => rfl) (by first | assumption | rfl | decide | exact hB _ (by decide)) (by first | assumption | rfl | decide | exact hB _ (by decide)) ?_
            refine y_iload1 (q := 76) C 36 rfl rfl ?_
            refine x_new (q := 79) (bc' := 3) (bs' := 12) C 37 83 rfl rfl nw_RX3_9 rfl (by rw [hGF]; decide) (by decide) (vM.no (by repeat (first | assumption | (with_reducible apply vM.z) | (with_reducible apply vM.u))) (by decide)) (aj_no.of rfl) rfl rfl ?_
            refine x_dupr (q := 80) C 38 rfl rfl ?_
            refine y_jN0 (q := 83) (bc' := 3) (bs' := 12) (host := "Raywalk") C 39 rfl rfl (by decide) cd_X2_init iv_X2_init rfl (by decide) (by decide) (Nat.le_of_ble_eq_true rfl) (Nat.zero_add _).symm (Nat.zero_add _).symm aj_f0 aj_f0 (s_X2_init (by decide) (by decide) ?_)
            show aj_X G 83 _ _ _ _ _ _ _ _ _
            refine x_aast (q := 84) C 40 rfl rfl (by first | assumption | rfl | decide | exact hB _ (by decide)) (by first | assumption | rfl | decide | exact hB _ (by decide)) (by first | assumption | rfl | decide | exact hB _ (by decide)) (by first | assumption | rfl | decide | exact hB _ (by decide)) (by rw [show N1 27 = 8 from n1 27 (by decide)]; unfold vp_in; decide) ?_
            refine y_iinc1 (q := 87) C 41 rfl rfl (v := 5) (by decide) (Nat.le_of_ble_eq_true rfl) rfl ?_
            refine x_goto (t := 65) C 42 rfl (by decide) ?_
            refine y_iload1 (q := 66) C 31 rfl rfl ?_
            refine x_bipush (q := 68) C 32 (n := (8)) (v := (8)) rfl rfl rfl ?_
            refine x_icmp_ge (q := 71) (t := 90) C 33 rfl (by decide) rfl (fun c6 => ?_) (fun c6 => ?_)
            · skip
              exact absurd c6 (by decide)
            · skip
              refine y_aload0 (q := 72) C 34 rfl rfl ?_
              refine x_getR (q := 75) C 35 rfl rfl fl_RX3_11 (show V1 20 0 = some 27 from congrFun (e3 20 (by decide)) 0) (fun _ _ => rfl) (by first | assumption | rfl | decide | exact hB _ (by decide)) (by first | assumption | rfl | decide | exact hB _ (by decide)) ?_
              refine y_iload1 (q := 76) C 36 rfl rfl ?_
              refine x_new (q := 79) (bc' := 2) (bs' := 8) C 37 99 rfl rfl nw_RX3_9 rfl (by rw [hGF]; decide) (by decide) (vM.no (by repeat (first | assumption | (with_reducible apply vM.z) | (with_reducible apply vM.u))) (by decide)) (aj_no.of rfl) rfl rfl ?_
              refine x_dupr (q := 80) C 38 rfl rfl ?_
              refine y_jN0 (q := 83) (bc' := 2) (bs' := 8) (host := "Raywalk") C 39 rfl rfl (by decide) cd_X2_init iv_X2_init rfl (by decide) (by decide) (Nat.le_of_ble_eq_true rfl) (Nat.zero_add _).symm (Nat.zero_add _).symm aj_f0 aj_f0 (s_X2_init (by decide) (by decide) ?_)
              show aj_X G 83 _ _ _ _ _ _ _ _ _
              refine x_aast (q := 84) C 40 rfl rfl (by first | assumption | rfl | decide | exact hB _ (by decide)) (by first | assumption | rfl | decide | exact hB _ (by decide)) (by first | assumption | rfl | decide | exact hB _ (by decide)) (by first | assumption | rfl | decide | exact hB _ (by decide)) (by rw [show N1 27 = 8 from n1 27 (by decide)]; unfold vp_in; decide) ?_
              refine y_iinc1 (q := 87) C 41 rfl rfl (v := 6) (by decide) (Nat.le_of_ble_eq_true rfl) rfl ?_
              refine x_goto (t := 65) C 42 rfl (by decide) ?_
              refine y_iload1 (q := 66) C 31 rfl rfl ?_
              refine x_bipush (q := 68) C 32 (n := (8)) (v := (8)) rfl rfl rfl ?_
              refine x_icmp_ge (q := 71) (t := 90) C 33 rfl (by decide) rfl (fun c7 => ?_) (fun c7 => ?_)
              · skip
                exact absurd c7 (by decide)
              · skip
                refine y_aload0 (q := 72) C 34 rfl rfl ?_
                refine x_getR (q := 75) C 35 rfl rfl fl_RX3_11 (show V1 20 0 = some 27 from congrFun (e3 20 (by decide)) 0) (fun _ _ => rfl) (by first | assumption | rfl | decide | exact hB _ (by decide)) (by first | assumption | rfl | decide | exact hB _ (by decide)) ?_
                refine y_iload1 (q := 76) C 36 rfl rfl ?_
                refine x_new (q := 79) (bc' := 1) (bs' := 4) C 37 115 rfl rfl nw_RX3_9 rfl (by rw [hGF]; decide) (by decide) (vM.no (by repeat (first | assumption | (with_reducible apply vM.z) | (with_reducible apply vM.u))) (by decide)) (aj_no.of rfl) rfl rfl ?_
                refine x_dupr (q := 80) C 38 rfl rfl ?_
                refine y_jN0 (q := 83) (bc' := 1) (bs' := 4) (host := "Raywalk") C 39 rfl rfl (by decide) cd_X2_init iv_X2_init rfl (by decide) (by decide) (Nat.le_of_ble_eq_true rfl) (Nat.zero_add _).symm (Nat.zero_add _).symm aj_f0 aj_f0 (s_X2_init (by decide) (by decide) ?_)
                show aj_X G 83 _ _ _ _ _ _ _ _ _
                refine x_aast (q := 84) C 40 rfl rfl (by first | assumption | rfl | decide | exact hB _ (by decide)) (by first | assumption | rfl | decide | exact hB _ (by decide)) (by first | assumption | rfl | decide | exact hB _ (by decide)) (by first | assumption | rfl | decide | exact hB _ (by decide)) (by rw [show N1 27 = 8 from n1 27 (by decide)]; unfold vp_in; decide) ?_
                refine y_iinc1 (q := 87) C 41 rfl rfl (v := 7) (by decide) (Nat.le_of_ble_eq_true rfl) rfl ?_
                refine x_goto (t := 65) C 42 rfl (by decide) ?_
                refine y_iload1 (q := 66) C 31 rfl rfl ?_
                refine x_bipush (q := 68) C 32 (n := (8)) (v := (8)) rfl rfl rfl ?_
                refine x_icmp_ge (q := 71) (t := 90) C 33 rfl (by decide) rfl (fun c8 => ?_) (fun c8 => ?_)
                · skip
                  exact absurd c8 (by decide)
                · skip
                  refine y_aload0 (q := 72) C 34 rfl rfl ?_
                  refine x_getR (q := 75) C 35 rfl rfl fl_RX3_11 (show V1 20 0 = some 27 from congrFun (e3 20 (by decide)) 0) (fun _ _ => rfl) (by first | assumption | rfl | decide | exact hB _ (by decide)) (by first | assumption | rfl | decide | exact hB _ (by decide)) ?_
                  refine y_iload1 (q := 76) C 36 rfl rfl ?_
                  refine x_new (q := 79) (bc' := 0) (bs' := 0) C 37 131 rfl rfl nw_RX3_9 rfl (by rw [hGF]; decide) (by decide) (vM.no (by repeat (first | assumption | (with_reducible apply vM.z) | (with_reducible apply vM.u))) (by decide)) (aj_no.of rfl) rfl rfl ?_
                  refine x_dupr (q := 80) C 38 rfl rfl ?_
                  refine y_jN0 (q := 83) (bc' := 0) (bs' := 0) (host := "Raywalk") C 39 rfl rfl (by decide) cd_X2_init iv_X2_init rfl (by decide) (by decide) (Nat.le_of_ble_eq_true rfl) (Nat.zero_add _).symm (Nat.zero_add _).symm aj_f0 aj_f0 (s_X2_init (by decide) (by decide) ?_)
                  show aj_X G 83 _ _ _ _ _ _ _ _ _
                  refine x_aast (q := 84) C 40 rfl rfl (by first | assumption | rfl | decide | exact hB _ (by decide)) (by first | assumption | rfl | decide | exact hB _ (by decide)) (by first | assumption | rfl | decide | exact hB _ (by decide)) (by first | assumption | rfl | decide | exact hB _ (by decide)) (by rw [show N1 27 = 8 from n1 27 (by decide)]; unfold vp_in; decide) ?_
                  refine y_iinc1 (q := 87) C 41 rfl rfl (v := 8) (by decide) (Nat.le_of_ble_eq_true rfl) rfl ?_
                  refine x_goto (t := 65) C 42 rfl (by decide) ?_
                  refine y_iload1 (q := 66) C 31 rfl rfl ?_
                  refine x_bipush (q := 68) C 32 (n := (8)) (v := (8)) rfl rfl rfl ?_
                  refine x_icmp_ge (q := 71) (t := 90) C 33 rfl (by decide) rfl (fun c9 => ?_) (fun c9 => ?_)
                  · skip
                    exact x_return C Z 43 rfl rfl (hK _ _ _ _ (fun i h => by simp only [List.mem_cons, List.not_mem_nil, or_false, not_or] at h; have q := e1 i (by simp [h]); funext k; simp [aj_u, aj_z, h, q]) ⟨congrFun (e3 20 (by decide)) 0, congrFun (e3 20 (by decide)) 1, congrFun (e3 20 (by decide)) 2, congrFun (e3 20 (by decide)) 3, congrFun (e3 20 (by decide)) 4, rfl⟩ v1 (fun j hj => by have q : V1 27 = fun _ => none := (e3 27 (by decide)).trans (funext fun _ => rfl); rcases (show j = 0 ∨ j = 1 ∨ j = 2 ∨ j = 3 ∨ j = 4 ∨ j = 5 ∨ j = 6 ∨ j = 7 by omega) with rfl | rfl | rfl | rfl | rfl | rfl | rfl | rfl <;> rfl) (vM.mono (by repeat (first | assumption | (with_reducible apply vM.z) | (with_reducible apply vM.u))) (by decide)) ⟨n1 27 (by decide), n1 43 (by decide), n1 25 (by decide), n2.1, n2.2.1, n2.2.2.1, n2.2.2.2⟩ (fun i h => by simp only [List.mem_cons, List.not_mem_nil, or_false, not_or] at h; have q := n1 i (by simp [h]); simp [aj_ur, h, q]) ⟨fun k => congrFun (e1 18 (by decide)) k, z1.1, z1.2.1, z1.2.2.1, z1.2.2.2⟩ (fun k => congrFun (e2 25 (by decide)) k) (fun c hc k => by simp only [List.mem_cons, List.not_mem_nil, or_false] at hc; rcases hc with rfl | rfl | rfl | rfl | rfl | rfl | rfl | rfl | rfl | rfl | rfl | rfl <;> (by_cases z : k = 3 <;> by_cases z2 : k = 0 <;> simp [aj_u, aj_z, z, z2, e1 147 (by decide), e1 163 (by decide), s1 179 (by decide), s1 195 (by decide)])))
                  · skip
                    exact absurd c9 (by decide)
set_option maxRecDepth 100000 in
set_option maxHeartbeats 800000 in
theorem s_X4_init {l : Launch} {I : Nat → Nat → Int32} {J : Nat → Nat → Int64} {V : Nat → Nat → Option Nat} {N : Nat → Nat} {L : List Nat} {K : aj_K} {a : Nat} (hK : K (.inl none) I J V N L) : aj_M l yX4_init (aj_wc yX4_init cX4_init 1 none) (aj_rm 1 0 0) [] [.ref a] I J V N L K := by
  refine aj_intro (tbl := t_X4_init) (lv0 := [some (.ref a)]) (by decide) T_X4_init aj_f0 (Nat.le_of_ble_eq_true rfl) rfl ?_
  intro G hl C Z NX hnm hGL hGF
  have C : aj_C G cX4_init t_X4_init RX4 (aj_rm 1 0 0) 1 := C
  refine y_aload0 (q := 1) C 0 rfl rfl ?_
  refine x_objInit (q := 4) C 1 rfl rfl ml_RX4_1 ob_init ⟨by decide, Nat.le_of_ble_eq_true rfl⟩ ?_
  exact x_return C Z 2 rfl rfl (hK)
set_option maxRecDepth 100000 in
set_option maxHeartbeats 800000 in
theorem s_X5_init {l : Launch} {I : Nat → Nat → Int32} {J : Nat → Nat → Int64} {V : Nat → Nat → Option Nat} {N : Nat → Nat} {L : List Nat} {K : aj_K} (hLL : L = [20] ++ [27, 43, 25, 147, 163, 18, 24, 40, 56, 72, 179, 195, 19, 35, 51, 67, 83, 99, 115, 131] ++ [22]) (hM : vM V [27, 43, 25, 147, 163, 18, 24, 40, 56, 72, 179, 195, 19, 35, 51, 67, 83, 99, 115, 131]) (hK : ∀ I1 J1 V1 N1, eqO [88, 104, 120, 41, 136, 152, 168] I I1 → (∀ i, i ≠ 41 → J1 i = J i) → (∀ i, i ≠ 22 → V1 i = V i) → (V1 22 1 = some 88 ∧ V1 22 2 = some 104 ∧ V1 22 3 = some 120 ∧ V1 22 4 = some 41 ∧ V1 22 5 = some 136 ∧ V1 22 6 = some 152 ∧ V1 22 10 = some 168) → vM V1 ([88, 104, 120, 41, 136, 152, 168] ++ [27, 43, 25, 147, 163, 18, 24, 40, 56, 72, 179, 195, 19, 35, 51, 67, 83, 99, 115, 131]) → (N1 41 = 8 ∧ N1 88 = 8 ∧ N1 104 = 8 ∧ N1 120 = 8 ∧ N1 136 = 12 ∧ N1 152 = 12 ∧ N1 168 = 4) → (∀ i, i ∉ ([88, 104, 120, 41, 136, 152, 168] : List Nat) → N1 i = N i) → ((∀ k, k < 8 → I1 88 k = 1) ∧ (∀ k, I1 104 k = 0) ∧ (∀ k, I1 120 k = 0) ∧ (∀ k, I1 136 k = 0) ∧ (∀ k, I1 152 k = 0) ∧ (∀ k, I1 168 k = 0)) → (∀ k, J1 41 k = 0) → K (.inl none) I1 J1 V1 N1 ([20] ++ [27, 43, 25, 147, 163, 18, 24, 40, 56, 72, 179, 195, 19, 35, 51, 67, 83, 99, 115, 131] ++ [22] ++ [88, 104, 120, 41, 136, 152, 168])) : aj_M l yX5_init (aj_wc yX5_init cX5_init 2 none) (aj_rm 1 7 60) [88, 104, 120, 41, 136, 152, 168] [.ref 22] I J V N L K := by
  refine aj_intro (tbl := t_X5_init) (lv0 := [some (.ref 22), none]) (by decide) T_X5_init (fun i h => by unfold aj_sp; simp only [List.mem_cons, List.not_mem_nil, or_false] at h; omega) (Nat.le_of_ble_eq_true rfl) rfl ?_
  intro G hl C Z NX hnm hGL hGF
  have C : aj_C G cX5_init t_X5_init RX5 (aj_rm 1 7 60) 2 := C
  subst hLL
  refine y_aload0 (q := 1) C 0 rfl rfl ?_
  refine x_objInit (q := 4) C 1 rfl rfl ml_RX5_3 ob_init ⟨by decide, Nat.le_of_ble_eq_true rfl⟩ ?_
  refine y_aload0 (q := 5) C 2 rfl rfl ?_
  refine x_bipush (q := 7) C 3 (n := (8)) (v := (8)) rfl rfl rfl ?_
  refine x_newI (q := 9) (bc' := 6) (bs' := 52) C 4 88 (n' := 8) (m := 8) rfl rfl ac_int (by decide) rfl (Nat.le_refl _) (by decide) rfl (by rw [hGF]; decide) (by decide) (vM.no (by repeat (first | assumption | (with_reducible apply vM.z) | (with_reducible apply vM.u))) (by decide)) (aj_no.of rfl) rfl rfl ?_
  refine x_putF (q := 12) C 5 rfl rfl fl_RX5_9 rfl hnm rfl (fun _ _ _ => rfl) (fun _ => rfl) (fun _ => rfl) (by first | assumption | rfl | decide | exact hB _ (by decide)) (by first | assumption | rfl | decide | exact hB _ (by decide)) ?_
  refine y_aload0 (q := 13) C 6 rfl rfl ?_
  refine x_bipush (q := 15) C 7 (n := (8)) (v := (8)) rfl rfl rfl ?_
  refine x_newI (q := 17) (bc' := 5) (bs' := 44) C 8 104 (n' := 8) (m := 8) rfl rfl ac_int (by decide) rfl (Nat.le_refl _) (by decide) rfl (by rw [hGF]; decide) (by decide) (vM.no (by repeat (first | assumption | (with_reducible apply vM.z) | (with_reducible apply vM.u))) (by decide)) (aj_no.of rfl) rfl rfl ?_
  refine x_putF (q := 20) C 9 rfl rfl fl_RX5_13 rfl hnm rfl (fun _ _ _ => rfl) (fun _ => rfl) (fun _ => rfl) (by first | assumption | rfl | decide | exact hB _ (by decide)) (by first | assumption | rfl | decide | exact hB _ (by decide)) ?_
  refine y_aload0 (q := 21) C 10 rfl rfl ?_
  refine x_bipush (q := 23) C 11 (n := (8)) (v := (8)) rfl rfl rfl ?_
  refine x_newI (q := 25) (bc' := 4) (bs' := 36) C 12 120 (n' := 8) (m := 8) rfl rfl ac_int (by decide) rfl (Nat.le_refl _) (by decide) rfl (by rw [hGF]; decide) (by decide) (vM.no (by repeat (first | assumption | (with_reducible apply vM.z) | (with_reducible apply vM.u))) (by decide)) (aj_no.of rfl) rfl rfl ?_
  refine x_putF (q := 28) C 13 rfl rfl fl_RX5_16 rfl hnm rfl (fun _ _ _ => rfl) (fun _ => rfl) (fun _ => rfl) (by first | assumption | rfl | decide | exact hB _ (by decide)) (by first | assumption | rfl | decide | exact hB _ (by decide)) ?_
  refine y_aload0 (q := 29) C 14 rfl rfl ?_
  refine x_bipush (q := 31) C 15 (n := (8)) (v := (8)) rfl rfl rfl ?_
  refine x_newJ (q := 33) (bc' := 3) (bs' := 28) C 16 41 (n' := 8) (m := 8) rfl rfl ac_long (by decide) rfl (Nat.le_refl _) (by decide) rfl (by rw [hGF]; decide) (by decide) (vM.no (by repeat (first | assumption | (with_reducible apply vM.z) | (with_reducible apply vM.u))) (by decide)) (aj_no.of rfl) rfl rfl ?_
  refine x_putF (q := 36) C 17 rfl rfl fl_RX5_19 rfl hnm rfl (fun _ _ _ => rfl) (fun _ => rfl) (fun _ => rfl) (by first | assumption | rfl | decide | exact hB _ (by decide)) (by first | assumption | rfl | decide | exact hB _ (by decide)) ?_
  refine y_aload0 (q := 37) C 18 rfl rfl ?_
  refine x_bipush (q := 39) C 19 (n := (12)) (v := (12)) rfl rfl rfl ?_
  refine x_newI (q := 41) (bc' := 2) (bs' := 16) C 20 136 (n' := 12) (m := 12) rfl rfl ac_int (by decide) rfl (Nat.le_refl _) (by decide) rfl (by rw [hGF]; decide) (by decide) (vM.no (by repeat (first | assumption | (with_reducible apply vM.z) | (with_reducible apply vM.u))) (by decide)) (aj_no.of rfl) rfl rfl ?_
  refine x_putF (q := 44) C 21 rfl rfl fl_RX5_23 rfl hnm rfl (fun _ _ _ => rfl) (fun _ => rfl) (fun _ => rfl) (by first | assumption | rfl | decide | exact hB _ (by decide)) (by first | assumption | rfl | decide | exact hB _ (by decide)) ?_
  refine y_aload0 (q := 45) C 22 rfl rfl ?_
  refine x_bipush (q := 47) C 23 (n := (12)) (v := (12)) rfl rfl rfl ?_
  refine x_newI (q := 49) (bc' := 1) (bs' := 4) C 24 152 (n' := 12) (m := 12) rfl rfl ac_int (by decide) rfl (Nat.le_refl _) (by decide) rfl (by rw [hGF]; decide) (by decide) (vM.no (by repeat (first | assumption | (with_reducible apply vM.z) | (with_reducible apply vM.u))) (by decide)) (aj_no.of rfl) rfl rfl ?_
  refine x_putF (q := 52) C 25 rfl rfl fl_RX5_26 rfl hnm rfl (fun _ _ _ => rfl) (fun _ => rfl) (fun _ => rfl) (by first | assumption | rfl | decide | exact hB _ (by decide)) (by first | assumption | rfl | decide | exact hB _ (by decide)) ?_
  refine y_aload0 (q := 53) C 26 rfl rfl ?_
  refine x_iconst (q := 54) C 27 (n := (4)) (v := (4)) rfl rfl rfl ?_
  refine x_newI (q := 56) (bc' := 0) (bs' := 0) C 28 168 (n' := 4) (m := 4) rfl rfl ac_int (by decide) rfl (Nat.le_refl _) (by decide) rfl (by rw [hGF]; decide) (by decide) (vM.no (by repeat (first | assumption | (with_reducible apply vM.z) | (with_reducible apply vM.u))) (by decide)) (aj_no.of rfl) rfl rfl ?_
  refine x_putF (q := 59) C 29 rfl rfl fl_RX5_29 rfl hnm rfl (fun _ _ _ => rfl) (fun _ => rfl) (fun _ => rfl) (by first | assumption | rfl | decide | exact hB _ (by decide)) (by first | assumption | rfl | decide | exact hB _ (by decide)) ?_
  refine x_iconst (q := 60) C 30 (n := (0)) (v := (0)) rfl rfl rfl ?_
  refine y_istore1 (q := 61) C 31 rfl rfl (Nat.le_of_ble_eq_true rfl) rfl ?_
  refine y_iload1 (q := 62) C 32 rfl rfl ?_
  refine x_bipush (q := 64) C 33 (n := (8)) (v := (8)) rfl rfl rfl ?_
  refine x_icmp_ge (q := 67) (t := 80) C 34 rfl (by decide) rfl (fun c1 => ?_) (fun c1 => ?_)
  · skip
    exact absurd c1 (by decide)
  · skip
    refine y_aload0 (q := 68) C 35 rfl rfl ?_
    refine x_getR (q := 71) C 36 rfl rfl fl_RX5_9 rfl (fun _ _ => rfl) (by first | assumption | rfl | decide | exact hB _ (by decide)) (by first | assumption | rfl | decide | exact hB _ (by decide)) ?_
    refine y_iload1 (q := 72) C 37 rfl rfl ?_
    refine x_iconst (q := 73) C 38 (n := (1)) (v := (1)) rfl rfl rfl ?_
    refine x_iast (q := 74) C 39 rfl rfl (by first | assumption | rfl | decide | exact hB _ (by decide)) (by first | assumption | rfl | decide | exact hB _ (by decide)) (by show vp_in _ 8; unfold vp_in; decide) ?_
    refine y_iinc1 (q := 77) C 40 rfl rfl (v := 1) (by decide) (Nat.le_of_ble_eq_true rfl) rfl ?_
    refine x_goto (t := 61) C 41 rfl (by decide) ?_
    refine y_iload1 (q := 62) C 32 rfl rfl ?_
    refine x_bipush (q := 64) C 33 (n := (8)) (v := (8)) rfl rfl rfl ?_
    refine x_icmp_ge (q := 67) (t := 80) C 34 rfl (by decide) rfl (fun c2 => ?_) (fun c2 => ?_)
    · skip
      exact absurd c2 (by decide)
    · skip
      refine y_aload0 (q := 68) C 35 rfl rfl ?_
      refine x_getR (q := 71) C 36 rfl rfl fl_RX5_9 rfl (fun _ _ => rfl) (by first | assumption | rfl | decide | exact hB _ (by decide)) (by first | assumption | rfl | decide | exact hB _ (by decide)) ?_
      refine y_iload1 (q := 72) C 37 rfl rfl ?_
      refine x_iconst (q := 73) C 38 (n := (1)) (v := (1)) rfl rfl rfl ?_
      refine x_iast (q := 74) C 39 rfl rfl (by first | assumption | rfl | decide | exact hB _ (by decide)) (by first | assumption | rfl | decide | exact hB _ (by decide)) (by show vp_in _ 8; unfold vp_in; decide) ?_
      refine y_iinc1 (q := 77) C 40 rfl rfl (v := 2) (by decide) (Nat.le_of_ble_eq_true rfl) rfl ?_
      refine x_goto (t := 61) C 41 rfl (by decide) ?_
      refine y_iload1 (q := 62) C 32 rfl rfl ?_
      refine x_bipush (q := 64) C 33 (n := (8)) (v := (8)) rfl rfl rfl ?_
      refine x_icmp_ge (q := 67) (t := 80) C 34 rfl (by decide) rfl (fun c3 => ?_) (fun c3 => ?_)
      · skip
        exact absurd c3 (by decide)
      · skip
        refine y_aload0 (q := 68) C 35 rfl rfl ?_
        refine x_getR (q := 71) C 36 rfl rfl fl_RX5_9 rfl (fun _ _ => rfl) (by first | assumption | rfl | decide | exact hB _ (by decide)) (by first | assumption | rfl | decide | exact hB _ (by decide)) ?_
        refine y_iload1 (q := 72) C 37 rfl rfl ?_
        refine x_iconst (q := 73) C 38 (n := (1)) (v := (1)) rfl rfl rfl ?_
        refine x_iast (q := 74) C 39 rfl rfl (by first | assumption | rfl | decide | exact hB _ (by decide)) (by first | assumption | rfl | decide | exact hB _ (by decide)) (by show vp_in _ 8; unfold vp_in; decide) ?_
        refine y_iinc1 (q := 77) C 40 rfl rfl (v := 3) (by decide) (Nat.le_of_ble_eq_true rfl) rfl ?_
        refine x_goto (t := 61) C 41 rfl (by decide) ?_
        refine y_iload1 (q := 62) C 32 rfl rfl ?_
        refine x_bipush (q := 64) C 33 (n := (8)) (v := (8)) rfl rfl rfl ?_
        refine x_icmp_ge (q := 67) (t := 80) C 34 rfl (by decide) rfl (fun c4 => ?_) (fun c4 => ?_)
        · skip
          exact absurd c4 (by decide)
        · skip
          refine y_aload0 (q := 68) C 35 rfl rfl ?_
          refine x_getR (q := 71) C 36 rfl rfl fl_RX5_9 rfl (fun _ _ => rfl) (by first | assumption | rfl | decide | exact hB _ (by decide)) (by first | assumption | rfl | decide | exact hB _ (by decide)) ?_
          refine y_iload1 (q := 72) C 37 rfl rfl ?_
          refine x_iconst (q := 73) C 38 (n := (1)) (v := (1)) rfl rfl rfl ?_
          refine x_iast (q := 74) C 39 rfl rfl (by first | assumption | rfl | decide | exact hB _ (by decide)) (by first | assumption | rfl | decide | exact hB _ (by decide)) (by show vp_in _ 8; unfold vp_in; decide) ?_
          refine y_iinc1 (q := 77) C 40 rfl rfl (v := 4) (by decide) (Nat.le_of_ble_eq_true rfl) rfl ?_
          refine x_goto (t := 61) C 41 rfl (by decide) ?_
          refine y_iload1 (q := 62) C 32 rfl rfl ?_
          refine x_bipush (q := 64) C 33 (n := (8)) (v := (8)) rfl rfl rfl ?_
          refine x_icmp_ge (q := 67) (t := 80) C 34 rfl (by decide) rfl (fun c5 => ?_) (fun c5 => ?_)
          · skip
            exact absurd c5 (by decide)
          · skip
            refine y_aload0 (q := 68) C 35 rfl rfl ?_
            refine x_getR (q := 71) C 36 rfl rfl fl_RX5_9 rfl (fun _ _ => rfl) (by first | assumption | rfl | decide | exact hB _ (by decide)) (by first | assumption | rfl | decide | exact hB _ (by decide)) ?_
            refine y_iload1 (q := 72) C 37 rfl rfl ?_
            refine x_iconst (q := 73) C 38 (n := (1)) (v := (1)) rfl rfl rfl ?_
            refine x_iast (q := 74) C 39 rfl rfl (by first | assumption | rfl | decide | exact hB _ (by decide)) (by first | assumption | rfl | decide | exact hB _ (by decide)) (by show vp_in _ 8; unfold vp_in; decide) ?_
            refine y_iinc1 (q := 77) C 40 rfl rfl (v := 5) (by decide) (Nat.le_of_ble_eq_true rfl) rfl ?_
            refine x_goto (t := 61) C 41 rfl (by decide) ?_
            refine y_iload1 (q := 62) C 32 rfl rfl ?_
            refine x_bipush (q := 64) C 33 (n := (8)) (v := (8)) rfl rfl rfl ?_
            refine x_icmp_ge (q := 67) (t := 80) C 34 rfl (by decide) rfl (fun c6 => ?_) (fun c6 => ?_)
            · skip
              exact absurd c6 (by decide)
            · skip
              refine y_aload0 (q := 68) C 35 rfl rfl ?_
              refine x_getR (q := 71) C 36 rfl rfl fl_RX5_9 rfl (fun _ _ => rfl) (by first | assumption | rfl | decide | exact hB _ (by decide)) (by first | assumption | rfl | decide | exact hB _ (by decide)) ?_
              refine y_iload1 (q := 72) C 37 rfl rfl ?_
              refine x_iconst (q := 73) C 38 (n := (1)) (v := (1)) rfl rfl rfl ?_
              refine x_iast (q := 74) C 39 rfl rfl (by first | assumption | rfl | decide | exact hB _ (by decide)) (by first | assumption | rfl | decide | exact hB _ (by decide)) (by show vp_in _ 8; unfold vp_in; decide) ?_
              refine y_iinc1 (q := 77) C 40 rfl rfl (v := 6) (by decide) (Nat.le_of_ble_eq_true rfl) rfl ?_
              refine x_goto (t := 61) C 41 rfl (by decide) ?_
              refine y_iload1 (q := 62) C 32 rfl rfl ?_
              refine x_bipush (q := 64) C 33 (n := (8)) (v := (8)) rfl rfl rfl ?_
              refine x_icmp_ge (q := 67) (t := 80) C 34 rfl (by decide) rfl (fun c7 => ?_) (fun c7 => ?_)
              · skip
                exact absurd c7 (by decide)
              · skip
                refine y_aload0 (q := 68) C 35 rfl rfl ?_
                refine x_getR (q := 71) C 36 rfl rfl fl_RX5_9 rfl (fun _ _ => rfl) (by first | assumption | rfl | decide | exact hB _ (by decide)) (by first | assumption | rfl | decide | exact hB _ (by decide)) ?_
                refine y_iload1 (q := 72) C 37 rfl rfl ?_
                refine x_iconst (q := 73) C 38 (n := (1)) (v := (1)) rfl rfl rfl ?_
                refine x_iast (q := 74) C 39 rfl rfl (by first | assumption | rfl | decide | exact hB _ (by decide)) (by first | assumption | rfl | decide | exact hB _ (by decide)) (by show vp_in _ 8; unfold vp_in; decide) ?_
                refine y_iinc1 (q := 77) C 40 rfl rfl (v := 7) (by decide) (Nat.le_of_ble_eq_true rfl) rfl ?_
                refine x_goto (t := 61) C 41 rfl (by decide) ?_
                refine y_iload1 (q := 62) C 32 rfl rfl ?_
                refine x_bipush (q := 64) C 33 (n := (8)) (v := (8)) rfl rfl rfl ?_
                refine x_icmp_ge (q := 67) (t := 80) C 34 rfl (by decide) rfl (fun c8 => ?_) (fun c8 => ?_)
                · skip
                  exact absurd c8 (by decide)
                · skip
                  refine y_aload0 (q := 68) C 35 rfl rfl ?_
                  refine x_getR (q := 71) C 36 rfl rfl fl_RX5_9 rfl (fun _ _ => rfl) (by first | assumption | rfl | decide | exact hB _ (by decide)) (by first | assumption | rfl | decide | exact hB _ (by decide)) ?_
                  refine y_iload1 (q := 72) C 37 rfl rfl ?_
                  refine x_iconst (q := 73) C 38 (n := (1)) (v := (1)) rfl rfl rfl ?_
                  refine x_iast (q := 74) C 39 rfl rfl (by first | assumption | rfl | decide | exact hB _ (by decide)) (by first | assumption | rfl | decide | exact hB _ (by decide)) (by show vp_in _ 8; unfold vp_in; decide) ?_
                  refine y_iinc1 (q := 77) C 40 rfl rfl (v := 8) (by decide) (Nat.le_of_ble_eq_true rfl) rfl ?_
                  refine x_goto (t := 61) C 41 rfl (by decide) ?_
                  refine y_iload1 (q := 62) C 32 rfl rfl ?_
                  refine x_bipush (q := 64) C 33 (n := (8)) (v := (8)) rfl rfl rfl ?_
                  refine x_icmp_ge (q := 67) (t := 80) C 34 rfl (by decide) rfl (fun c9 => ?_) (fun c9 => ?_)
                  · skip
                    exact x_return C Z 42 rfl rfl (hK _ _ _ _ (fun i h => by simp only [List.mem_cons, List.not_mem_nil, or_false, not_or] at h; funext k; simp [aj_u, aj_z, h]) (fun i h => by funext k; simp [aj_z, h]) (fun i h => by funext k; simp [aj_u, h]) ⟨rfl, rfl, rfl, rfl, rfl, rfl, rfl⟩ (vM.mono (by repeat (first | assumption | (with_reducible apply vM.z) | (with_reducible apply vM.u))) (by decide)) ⟨rfl, rfl, rfl, rfl, rfl, rfl, rfl⟩ (fun i h => by simp only [List.mem_cons, List.not_mem_nil, or_false, not_or] at h; simp [aj_ur, h]) ⟨fun k hk => by rcases (show k = 0 ∨ k = 1 ∨ k = 2 ∨ k = 3 ∨ k = 4 ∨ k = 5 ∨ k = 6 ∨ k = 7 by omega) with rfl | rfl | rfl | rfl | rfl | rfl | rfl | rfl <;> rfl, fun _ => rfl, fun _ => rfl, fun _ => rfl, fun _ => rfl, fun _ => rfl⟩ (fun _ => rfl))
                  · skip
                    exact absurd c9 (by decide)
