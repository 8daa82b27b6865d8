
section LE
variable {G : aj_G} {n : Nat} {xs : Nat → Int32} {bc bs : Nat}
set_option maxRecDepth 100000 in
set_option maxHeartbeats 4000000 in
theorem law_loop (Cf : ∀ tbl : List (Nat × Instr × Nat), (∀ e ∈ tbl, decode code e.1 = .ok e.2) → aj_C G code tbl RL room_1 7) (hS0 : lS G n xs) (hGL : gL G = []) (hGF : gF G = lGF) (hn : n ≤ 320)
    (kend : ∀ t I J V N, aj_X G 1663 [some (.ref 8), some (.ref 20), some (.ref 22), some (.ref 21), some (.int (nI (5 * t))), none, none] [] I J V N aj_LL bc bs) : ∀ m t I J V N, t + m = 64 → lI I V N → lX I V → aj_X G 27 [some (.ref 8), some (.ref 20), some (.ref 22), some (.ref 21), some (.int (nI (5 * t))), none, none] [] I J V N aj_LL (60 * m + bc) (3600 * m + bs) := by
  have Cs : aj_C G code t_law_s RL room_1 7 := Cf t_law_s T_law_s
  have Ce : aj_C G code t_law_e RL room_1 7 := Cf t_law_e T_law_e
  intro m
  induction m with
  | zero =>
    intro t I J V N ht hl hx
    refine y_iload4 (q := 29) Cs 14 rfl rfl ?_
    refine y_aload0 (q := 30) Cs 15 rfl rfl ?_
    refine x_slen (q := 31) Cs hS0 16 rfl rfl ?_
    refine x_iconst (q := 32) Cs 17 (n := (5)) (v := (5)) rfl rfl rfl ?_
    refine x_isub (q := 33) Cs 18 rfl rfl ?_
    refine x_icmp_gt (q := 36) (t := 1663) Cs 19 rfl (by decide) rfl (fun h => ?_) (fun h => ?_)
    · exact aj_bud (bc' := bc) (bs' := bs) (by omega) (by omega) (kend t _ _ _ _)
    · exact absurd ((sub5 (a := n) (i := 5 * t) (by omega) (by omega)).mpr (by omega)) h
  | succ m ih =>
    intro t I J V N ht hl hx
    refine y_iload4 (q := 29) Cs 14 rfl rfl ?_
    refine y_aload0 (q := 30) Cs 15 rfl rfl ?_
    refine x_slen (q := 31) Cs hS0 16 rfl rfl ?_
    refine x_iconst (q := 32) Cs 17 (n := (5)) (v := (5)) rfl rfl rfl ?_
    refine x_isub (q := 33) Cs 18 rfl rfl ?_
    refine x_icmp_gt (q := 36) (t := 1663) Cs 19 rfl (by decide) rfl (fun h => ?_) (fun h => ?_)
    · exact aj_bud (bc' := bc) (bs' := bs) (by omega) (by omega) (kend t _ _ _ _)
    have h5 : 5 * t + 5 ≤ n := Decidable.byContradiction (fun z => h ((sub5 (a := n) (i := 5 * t) (by omega) (by omega)).mpr z))
    have kk : ∀ I1 J1 V1 N1, lI I1 V1 N1 → lX I1 V1 → aj_X G 1657 [some (.ref 8), some (.ref 20), some (.ref 22), some (.ref 21), some (.int (nI (5 * t))), none, none] [] I1 J1 V1 N1 aj_LL (60 * m + bc) (3600 * m + bs) := by
      intro I1 J1 V1 N1 hl1 hx1
      refine y_iinc4 (q := 1660) Ce 0 rfl rfl (v := nI (5 * (t + 1))) (nI_add (5 * t) 5) (Nat.le_of_ble_eq_true rfl) rfl ?_
      refine x_goto (t := 27) Ce 1 rfl (by decide) ?_
      exact ih (t + 1) I1 J1 V1 N1 (by omega) hl1 hx1
    refine y_aload0 (q := 37) Cs 20 rfl rfl ?_
    refine y_iload4 (q := 39) Cs 21 rfl rfl ?_
    refine x_sld (q := 40) Cs hS0 22 rfl rfl (nI_in (by omega) (by omega)) ?_
    refine x_bipush (q := 42) Cs 23 (n := (63)) (v := (63)) rfl rfl rfl ?_
    refine x_iand (q := 43) Cs 24 rfl rfl ?_
    obtain ⟨c, hc, he⟩ := and63 (xs (nI (5 * t)).toNatClampNeg)
    rw [he]
    refine aj_bud (bc' := 60 * m + bc + 60) (bs' := 3600 * m + bs + 3600) (by omega) (by omega) ?_
    clear he ih h
    rcases (show c = 0 ∨ c = 1 ∨ c = 2 ∨ c = 3 ∨ c = 4 ∨ c = 5 ∨ c = 6 ∨ c = 7 ∨ c = 8 ∨ c = 9 ∨ c = 10 ∨ c = 11 ∨ c = 12 ∨ c = 13 ∨ c = 14 ∨ c = 15 ∨ c = 16 ∨ c = 17 ∨ c = 18 ∨ c = 19 ∨ c = 20 ∨ c = 21 ∨ c = 22 ∨ c = 23 ∨ c = 24 ∨ c = 25 ∨ c = 26 ∨ c = 27 ∨ c = 28 ∨ c = 29 ∨ c = 30 ∨ c = 31 ∨ c = 32 ∨ c = 33 ∨ c = 34 ∨ c = 35 ∨ c = 36 ∨ c = 37 ∨ c = 38 ∨ c = 39 ∨ c = 40 ∨ c = 41 ∨ c = 42 ∨ c = 43 ∨ c = 44 ∨ c = 45 ∨ c = 46 ∨ c = 47 ∨ c = 48 ∨ c = 49 ∨ c = 50 ∨ c = 51 ∨ c = 52 ∨ c = 53 ∨ c = 54 ∨ c = 55 ∨ c = 56 ∨ c = 57 ∨ c = 58 ∨ c = 59 ∨ c = 60 ∨ c = 61 ∨ c = 62 ∨ c = 63 by omega) with rfl | rfl | rfl | rfl | rfl | rfl | rfl | rfl | rfl | rfl | rfl | rfl | rfl | rfl | rfl | rfl | rfl | rfl | rfl | rfl | rfl | rfl | rfl | rfl | rfl | rfl | rfl | rfl | rfl | rfl | rfl | rfl | rfl | rfl | rfl | rfl | rfl | rfl | rfl | rfl | rfl | rfl | rfl | rfl | rfl | rfl | rfl | rfl | rfl | rfl | rfl | rfl | rfl | rfl | rfl | rfl | rfl | rfl | rfl | rfl | rfl | rfl | rfl | rfl
    · skip
      refine x_swIn (off := 185) (t := 228) Cs 25 rfl (by decide) (by decide) (by decide) (by decide) ?_
      exact lc_0 (Cf t_law_0 T_law_0) hS0 hGL hGF hl hx h5 hn kk
    · skip
      refine x_swIn (off := 249) (t := 292) Cs 25 rfl (by decide) (by decide) (by decide) (by decide) ?_
      exact lc_1 (Cf t_law_1 T_law_1) hS0 hGL hGF hl hx h5 hn kk
    · skip
      refine x_swIn (off := 289) (t := 332) Cs 25 rfl (by decide) (by decide) (by decide) (by decide) ?_
      exact lc_2 (Cf t_law_2 T_law_2) hS0 hGL hGF hl hx h5 hn kk
    · skip
      refine x_swIn (off := 329) (t := 372) Cs 25 rfl (by decide) (by decide) (by decide) (by decide) ?_
      exact lc_3 (Cf t_law_3 T_law_3) hS0 hGL hGF hl hx h5 hn kk
    · skip
      refine x_swIn (off := 381) (t := 424) Cs 25 rfl (by decide) (by decide) (by decide) (by decide) ?_
      exact lc_4 (Cf t_law_4 T_law_4) hS0 hGL hGF hl hx h5 hn kk
    · skip
      refine x_swIn (off := 433) (t := 476) Cs 25 rfl (by decide) (by decide) (by decide) (by decide) ?_
      exact lc_5 (Cf t_law_5 T_law_5) hS0 hGL hGF hl hx h5 hn kk
    · skip
      refine x_swIn (off := 474) (t := 517) Cs 25 rfl (by decide) (by decide) (by decide) (by decide) ?_
      exact lc_6 (Cf t_law_6 T_law_6) hS0 hGL hGF hl hx h5 hn kk
    · skip
      refine x_swIn (off := 502) (t := 545) Cs 25 rfl (by decide) (by decide) (by decide) (by decide) ?_
      exact lc_7 (Cf t_law_7 T_law_7) hS0 hGL hGF hl hx h5 hn kk
    · skip
      refine x_swIn (off := 530) (t := 573) Cs 25 rfl (by decide) (by decide) (by decide) (by decide) ?_
      exact lc_8 (Cf t_law_8 T_law_8) hS0 hGL hGF hl hx h5 hn kk
    · skip
      refine x_swIn (off := 558) (t := 601) Cs 25 rfl (by decide) (by decide) (by decide) (by decide) ?_
      exact lc_9 (Cf t_law_9 T_law_9) hS0 hGL hGF hl hx h5 hn kk
    · skip
      refine x_swIn (off := 586) (t := 629) Cs 25 rfl (by decide) (by decide) (by decide) (by decide) ?_
      exact lc_10 (Cf t_law_10 T_law_10) hS0 hGL hGF hl hx h5 hn kk
    · skip
      refine x_swIn (off := 614) (t := 657) Cs 25 rfl (by decide) (by decide) (by decide) (by decide) ?_
      exact lc_11 (Cf t_law_11 T_law_11) hS0 hGL hGF hl hx h5 hn kk
    · skip
      refine x_swIn (off := 654) (t := 697) Cs 25 rfl (by decide) (by decide) (by decide) (by decide) ?_
      exact lc_12 (Cf t_law_12 T_law_12) hS0 hGL hGF hl hx h5 hn kk
    · skip
      refine x_swIn (off := 706) (t := 749) Cs 25 rfl (by decide) (by decide) (by decide) (by decide) ?_
      exact lc_13 (Cf t_law_13 T_law_13) hS0 hGL hGF hl hx h5 hn kk
    · skip
      refine x_swIn (off := 746) (t := 789) Cs 25 rfl (by decide) (by decide) (by decide) (by decide) ?_
      exact lc_14 (Cf t_law_14 T_law_14) hS0 hGL hGF hl hx h5 hn kk
    · skip
      refine x_swIn (off := 798) (t := 841) Cs 25 rfl (by decide) (by decide) (by decide) (by decide) ?_
      exact lc_15 (Cf t_law_15 T_law_15) hS0 hGL hGF hl hx h5 hn kk
    · skip
      refine x_swIn (off := 838) (t := 881) Cs 25 rfl (by decide) (by decide) (by decide) (by decide) ?_
      exact lc_16 (Cf t_law_16 T_law_16) hS0 hGL hGF hl hx h5 hn kk
    · skip
      refine x_swIn (off := 866) (t := 909) Cs 25 rfl (by decide) (by decide) (by decide) (by decide) ?_
      exact lc_17 (Cf t_law_17 T_law_17) hS0 hGL hGF hl hx h5 hn kk
    · skip
      refine x_swIn (off := 906) (t := 949) Cs 25 rfl (by decide) (by decide) (by decide) (by decide) ?_
      exact lc_18 (Cf t_law_18 T_law_18) hS0 hGL hGF hl hx h5 hn kk
    · skip
      refine x_swIn (off := 962) (t := 1005) Cs 25 rfl (by decide) (by decide) (by decide) (by decide) ?_
      exact lc_19 (Cf t_law_19 T_law_19) hS0 hGL hGF hl hx h5 hn kk
    · skip
      refine x_swIn (off := 1002) (t := 1045) Cs 25 rfl (by decide) (by decide) (by decide) (by decide) ?_
      exact lc_20 (Cf t_law_20 T_law_20) hS0 hGL hGF hl hx h5 hn kk
    · skip
      refine x_swIn (off := 1030) (t := 1073) Cs 25 rfl (by decide) (by decide) (by decide) (by decide) ?_
      exact lc_21 (Cf t_law_21 T_law_21) hS0 hGL hGF hl hx h5 hn kk
    · skip
      refine x_swIn (off := 1082) (t := 1125) Cs 25 rfl (by decide) (by decide) (by decide) (by decide) ?_
      exact lc_22 (Cf t_law_22 T_law_22) hS0 hGL hGF hl hx h5 hn kk
    · skip
      refine x_swIn (off := 1122) (t := 1165) Cs 25 rfl (by decide) (by decide) (by decide) (by decide) ?_
      exact lc_23 (Cf t_law_23 T_law_23) hS0 hGL hGF hl hx h5 hn kk
    · skip
      refine x_swIn (off := 1135) (t := 1178) Cs 25 rfl (by decide) (by decide) (by decide) (by decide) ?_
      exact lc_24 (Cf t_law_24 T_law_24) hS0 hGL hGF hl hx h5 hn kk
    · skip
      refine x_swIn (off := 1148) (t := 1191) Cs 25 rfl (by decide) (by decide) (by decide) (by decide) ?_
      exact lc_25 (Cf t_law_25 T_law_25) hS0 hGL hGF hl hx h5 hn kk
    · skip
      refine x_swIn (off := 1161) (t := 1204) Cs 25 rfl (by decide) (by decide) (by decide) (by decide) ?_
      exact lc_26 (Cf t_law_26 T_law_26) hS0 hGL hGF hl hx h5 hn kk
    · skip
      refine x_swIn (off := 1217) (t := 1260) Cs 25 rfl (by decide) (by decide) (by decide) (by decide) ?_
      exact lc_27 (Cf t_law_27 T_law_27) hS0 hGL hGF hl hx h5 hn kk
    · skip
      refine x_swIn (off := 1258) (t := 1301) Cs 25 rfl (by decide) (by decide) (by decide) (by decide) ?_
      exact lc_28 (Cf t_law_28 T_law_28) hS0 hGL hGF hl hx h5 hn kk
    · skip
      refine x_swIn (off := 1339) (t := 1382) Cs 25 rfl (by decide) (by decide) (by decide) (by decide) ?_
      exact lc_29 (Cf t_law_29 T_law_29) hS0 hGL hGF hl hx h5 hn kk
    · skip
      refine x_swIn (off := 1391) (t := 1434) Cs 25 rfl (by decide) (by decide) (by decide) (by decide) ?_
      exact lc_30 (Cf t_law_30 T_law_30) hS0 hGL hGF hl hx h5 hn kk
    · skip
      refine x_swIn (off := 1443) (t := 1486) Cs 25 rfl (by decide) (by decide) (by decide) (by decide) ?_
      exact lc_31 (Cf t_law_31 T_law_31) hS0 hGL hGF hl hx h5 hn kk
    · skip
      refine x_swIn (off := 1456) (t := 1499) Cs 25 rfl (by decide) (by decide) (by decide) (by decide) ?_
      exact lc_32 (Cf t_law_32 T_law_32) hS0 hGL hGF hl hx h5 hn kk
    · skip
      refine x_swIn (off := 1469) (t := 1512) Cs 25 rfl (by decide) (by decide) (by decide) (by decide) ?_
      exact lc_33 (Cf t_law_33 T_law_33) hS0 hGL hGF hl hx h5 hn kk
    · skip
      refine x_swIn (off := 1482) (t := 1525) Cs 25 rfl (by decide) (by decide) (by decide) (by decide) ?_
      exact lc_34 (Cf t_law_34 T_law_34) hS0 hGL hGF hl hx h5 hn kk
    · skip
      refine x_swIn (off := 1495) (t := 1538) Cs 25 rfl (by decide) (by decide) (by decide) (by decide) ?_
      exact lc_35 (Cf t_law_35 T_law_35) hS0 hGL hGF hl hx h5 hn kk
    · skip
      refine x_swIn (off := 1508) (t := 1551) Cs 25 rfl (by decide) (by decide) (by decide) (by decide) ?_
      exact lc_36 (Cf t_law_36 T_law_36) hS0 hGL hGF hl hx h5 hn kk
    · skip
      refine x_swIn (off := 1521) (t := 1564) Cs 25 rfl (by decide) (by decide) (by decide) (by decide) ?_
      exact lc_37 (Cf t_law_37 T_law_37) hS0 hGL hGF hl hx h5 hn kk
    · skip
      refine x_swIn (off := 1534) (t := 1577) Cs 25 rfl (by decide) (by decide) (by decide) (by decide) ?_
      exact lc_38 (Cf t_law_38 T_law_38) hS0 hGL hGF hl hx h5 hn kk
    · skip
      refine x_swIn (off := 1547) (t := 1590) Cs 25 rfl (by decide) (by decide) (by decide) (by decide) ?_
      exact lc_39 (Cf t_law_39 T_law_39) hS0 hGL hGF hl hx h5 hn kk
    · skip
      refine x_swIn (off := 1575) (t := 1618) Cs 25 rfl (by decide) (by decide) (by decide) (by decide) ?_
      exact lc_40 (Cf t_law_40 T_law_40) hS0 hGL hGF hl hx h5 hn kk
    · skip
      refine x_swIn (off := 1588) (t := 1631) Cs 25 rfl (by decide) (by decide) (by decide) (by decide) ?_
      exact lc_41 (Cf t_law_41 T_law_41) hS0 hGL hGF hl hx h5 hn kk
    · skip
      refine x_swIn (off := 1601) (t := 1644) Cs 25 rfl (by decide) (by decide) (by decide) (by decide) ?_
      exact lc_42 (Cf t_law_42 T_law_42) hS0 hGL hGF hl hx h5 hn kk
    · skip
      refine x_swOut (t := 1657) Cs 25 rfl (by decide) (by decide) ?_
      exact aj_bud (bc' := 60 * m + bc) (bs' := 3600 * m + bs) (by omega) (by omega) (kk _ _ _ _ hl hx)
    · skip
      refine x_swOut (t := 1657) Cs 25 rfl (by decide) (by decide) ?_
      exact aj_bud (bc' := 60 * m + bc) (bs' := 3600 * m + bs) (by omega) (by omega) (kk _ _ _ _ hl hx)
    · skip
      refine x_swOut (t := 1657) Cs 25 rfl (by decide) (by decide) ?_
      exact aj_bud (bc' := 60 * m + bc) (bs' := 3600 * m + bs) (by omega) (by omega) (kk _ _ _ _ hl hx)
    · skip
      refine x_swOut (t := 1657) Cs 25 rfl (by decide) (by decide) ?_
      exact aj_bud (bc' := 60 * m + bc) (bs' := 3600 * m + bs) (by omega) (by omega) (kk _ _ _ _ hl hx)
    · skip
      refine x_swOut (t := 1657) Cs 25 rfl (by decide) (by decide) ?_
      exact aj_bud (bc' := 60 * m + bc) (bs' := 3600 * m + bs) (by omega) (by omega) (kk _ _ _ _ hl hx)
    · skip
      refine x_swOut (t := 1657) Cs 25 rfl (by decide) (by decide) ?_
      exact aj_bud (bc' := 60 * m + bc) (bs' := 3600 * m + bs) (by omega) (by omega) (kk _ _ _ _ hl hx)
    · skip
      refine x_swOut (t := 1657) Cs 25 rfl (by decide) (by decide) ?_
      exact aj_bud (bc' := 60 * m + bc) (bs' := 3600 * m + bs) (by omega) (by omega) (kk _ _ _ _ hl hx)
    · skip
      refine x_swOut (t := 1657) Cs 25 rfl (by decide) (by decide) ?_
      exact aj_bud (bc' := 60 * m + bc) (bs' := 3600 * m + bs) (by omega) (by omega) (kk _ _ _ _ hl hx)
    · skip
      refine x_swOut (t := 1657) Cs 25 rfl (by decide) (by decide) ?_
      exact aj_bud (bc' := 60 * m + bc) (bs' := 3600 * m + bs) (by omega) (by omega) (kk _ _ _ _ hl hx)
    · skip
      refine x_swOut (t := 1657) Cs 25 rfl (by decide) (by decide) ?_
      exact aj_bud (bc' := 60 * m + bc) (bs' := 3600 * m + bs) (by omega) (by omega) (kk _ _ _ _ hl hx)
    · skip
      refine x_swOut (t := 1657) Cs 25 rfl (by decide) (by decide) ?_
      exact aj_bud (bc' := 60 * m + bc) (bs' := 3600 * m + bs) (by omega) (by omega) (kk _ _ _ _ hl hx)
    · skip
      refine x_swOut (t := 1657) Cs 25 rfl (by decide) (by decide) ?_
      exact aj_bud (bc' := 60 * m + bc) (bs' := 3600 * m + bs) (by omega) (by omega) (kk _ _ _ _ hl hx)
    · skip
      refine x_swOut (t := 1657) Cs 25 rfl (by decide) (by decide) ?_
      exact aj_bud (bc' := 60 * m + bc) (bs' := 3600 * m + bs) (by omega) (by omega) (kk _ _ _ _ hl hx)
    · skip
      refine x_swOut (t := 1657) Cs 25 rfl (by decide) (by decide) ?_
      exact aj_bud (bc' := 60 * m + bc) (bs' := 3600 * m + bs) (by omega) (by omega) (kk _ _ _ _ hl hx)
    · skip
      refine x_swOut (t := 1657) Cs 25 rfl (by decide) (by decide) ?_
      exact aj_bud (bc' := 60 * m + bc) (bs' := 3600 * m + bs) (by omega) (by omega) (kk _ _ _ _ hl hx)
    · skip
      refine x_swOut (t := 1657) Cs 25 rfl (by decide) (by decide) ?_
      exact aj_bud (bc' := 60 * m + bc) (bs' := 3600 * m + bs) (by omega) (by omega) (kk _ _ _ _ hl hx)
    · skip
      refine x_swOut (t := 1657) Cs 25 rfl (by decide) (by decide) ?_
      exact aj_bud (bc' := 60 * m + bc) (bs' := 3600 * m + bs) (by omega) (by omega) (kk _ _ _ _ hl hx)
    · skip
      refine x_swOut (t := 1657) Cs 25 rfl (by decide) (by decide) ?_
      exact aj_bud (bc' := 60 * m + bc) (bs' := 3600 * m + bs) (by omega) (by omega) (kk _ _ _ _ hl hx)
    · skip
      refine x_swOut (t := 1657) Cs 25 rfl (by decide) (by decide) ?_
      exact aj_bud (bc' := 60 * m + bc) (bs' := 3600 * m + bs) (by omega) (by omega) (kk _ _ _ _ hl hx)
    · skip
      refine x_swOut (t := 1657) Cs 25 rfl (by decide) (by decide) ?_
      exact aj_bud (bc' := 60 * m + bc) (bs' := 3600 * m + bs) (by omega) (by omega) (kk _ _ _ _ hl hx)
    · skip
      refine x_swOut (t := 1657) Cs 25 rfl (by decide) (by decide) ?_
      exact aj_bud (bc' := 60 * m + bc) (bs' := 3600 * m + bs) (by omega) (by omega) (kk _ _ _ _ hl hx)
set_option maxRecDepth 100000 in
set_option maxHeartbeats 4000000 in
theorem law_start (Cs : aj_C G code t_law_s RL room_1 7) (hGF : gF G = lGF) (kk : ∀ I J V N, lI I V N → lX I V → aj_X G 27 [some (.ref 8), some (.ref 20), some (.ref 22), some (.ref 21), some (.int (nI (5 * 0))), none, none] [] I J V N aj_LL bc bs) :
    aj_X G 0 [some (.ref 8), none, none, none, none, none, none] [] (fun _ _ => 0) (fun _ _ => 0) (fun _ _ => none) (fun _ => 0) [] (bc + 30) (bs + 213) := by
  have hNF : ∀ lv st, (∀ i ∈ ([27, 43, 25, 147, 163, 18, 24, 40, 56, 72, 179, 195, 19, 35, 51, 67, 83, 99, 115, 131] : List Nat), aj_nob i lv st = true) → ∀ i ∈ ([27, 43, 25, 147, 163, 18, 24, 40, 56, 72, 179, 195, 19, 35, 51, 67, 83, 99, 115, 131] : List Nat), aj_no i lv st := fun lv st h i hi => aj_no.of (h i hi)
  have hNG : ∀ lv st, (∀ i ∈ ([88, 104, 120, 41, 136, 152, 168] : List Nat), aj_nob i lv st = true) → ∀ i ∈ ([88, 104, 120, 41, 136, 152, 168] : List Nat), aj_no i lv st := fun lv st h i hi => aj_no.of (h i hi)
  refine x_new (q := 3) (bc' := bc + 29) (bs' := bs + 203) Cs 0 20 rfl rfl nw_RL_8 rfl (by rw [hGF]; decide) (by decide) (fun i hi => nomatch hi) (aj_no.of rfl) (by omega) (by show bs + 213 = bs + 203 + 10; omega) ?_
  refine x_dupr (q := 4) Cs 1 rfl rfl ?_
  refine z_I0 (q := 7) (bc' := bc + 9) (bs' := bs + 72) Cs 2 rfl rfl ml_RL_107 cd_X3_init iv_X3_init rfl (by decide) (Nat.le_of_ble_eq_true rfl) (by omega) (by omega) (by rw [hGF]; decide) (hNF _ _ (by decide)) (s_X3_init rfl (vM.z (fun i j b h => nomatch h)) ?_)
  intro I1 J1 V1 N1 e1 v20 v18 v27 m1 n1 n1o z1 j1 s1
  show aj_X G 7 _ _ _ _ _ _ _ _ _
  refine y_astore1 (q := 8) Cs 3 rfl rfl (Nat.le_of_ble_eq_true rfl) rfl ?_
  refine x_new (q := 11) (bc' := bc + 8) (bs' := bs + 61) Cs 4 22 rfl rfl nw_RL_108 rfl (by rw [hGF]; decide) (by decide) (vM.no m1 (by decide)) (aj_no.of rfl) (by omega) (by show bs + 72 = bs + 61 + 11; omega) ?_
  refine x_dupr (q := 12) Cs 5 rfl rfl ?_
  refine z_I0 (q := 15) (bc' := bc + 1) (bs' := bs + 1) Cs 6 rfl rfl ml_RL_110 cd_X5_init iv_X5_init rfl (by decide) (Nat.le_of_ble_eq_true rfl) (by omega) (by omega) (by rw [hGF]; decide) (hNG _ _ (by decide)) (s_X5_init rfl (vM.z m1) ?_)
  intro I2 J2 V2 N2 e2 j2 v2o v22 m2 n2 n2o z2 j3
  show aj_X G 15 _ _ _ _ _ _ _ _ _
  refine y_astore2 (q := 16) Cs 7 rfl rfl (Nat.le_of_ble_eq_true rfl) rfl ?_
  refine x_new (q := 19) (bc' := bc) (bs' := bs) Cs 8 21 rfl rfl nw_RL_14 rfl (by rw [hGF]; decide) (by decide) (vM.no m2 (by decide)) (aj_no.of rfl) (by omega) (by show bs + 1 = bs + 1; rfl) ?_
  refine x_dupr (q := 20) Cs 9 rfl rfl ?_
  refine z_N0 (q := 23) (bc' := bc) (bs' := bs) Cs 10 rfl rfl ml_RL_111 cd_X4_init iv_X4_init rfl (by decide) (Nat.le_of_ble_eq_true rfl) (by omega) (by omega) aj_f0 aj_f0 (s_X4_init ?_)
  show aj_X G 23 _ _ _ _ _ _ _ _ _
  refine y_astore3 (q := 24) Cs 11 rfl rfl (Nat.le_of_ble_eq_true rfl) rfl ?_
  refine x_iconst (q := 25) Cs 12 (n := (0)) (v := nI 0) rfl rfl rfl ?_
  refine y_istore4 (q := 27) Cs 13 rfl rfl (Nat.le_of_ble_eq_true rfl) rfl ?_
  have h18 : ∀ k, aj_z I2 21 0 18 k = 0 := fun k => by rw [aj_z_o _ _ (by decide), e2 18 (by decide), aj_z_o _ _ (by decide)]; exact z1.1 k
  have h22 : ∀ k, aj_z I2 21 0 22 k = 0 := fun k => by rw [aj_z_o _ _ (by decide), e2 22 (by decide), aj_z_s]
  have h24 : ∀ k, aj_z I2 21 0 24 k = 0 := fun k => by rw [aj_z_o _ _ (by decide), e2 24 (by decide), aj_z_o _ _ (by decide)]; exact z1.2.1 k
  have h40 : ∀ k, aj_z I2 21 0 40 k = 0 := fun k => by rw [aj_z_o _ _ (by decide), e2 40 (by decide), aj_z_o _ _ (by decide)]; exact z1.2.2.1 k
  have h20 : ∀ k, aj_z I2 21 0 20 k = 0 := fun k => by rw [aj_z_o _ _ (by decide), e2 20 (by decide), aj_z_o _ _ (by decide), e1 20 (by decide), aj_z_s]
  have h88 : ∀ k, k < 8 → aj_z I2 21 0 88 k = 1 := fun k hk => by rw [aj_z_o _ _ (by decide)]; exact z2.1 k hk
  have h104 : ∀ k, aj_z I2 21 0 104 k = 0 := fun k => by rw [aj_z_o _ _ (by decide)]; exact z2.2.1 k
  have h136 : ∀ k, aj_z I2 21 0 136 k = 0 := fun k => by rw [aj_z_o _ _ (by decide)]; exact z2.2.2.2.1 k
  have h152 : ∀ k, aj_z I2 21 0 152 k = 0 := fun k => by rw [aj_z_o _ _ (by decide)]; exact z2.2.2.2.2.1 k
  have h168 : ∀ k, aj_z I2 21 0 168 k = 0 := fun k => by rw [aj_z_o _ _ (by decide)]; exact z2.2.2.2.2.2 k
  have w1 : ∀ i, i ≠ 21 → i ≠ 22 → aj_z V2 21 none i = V1 i := fun i a b => by rw [aj_z_o _ _ a, v2o i b, aj_z_o _ _ b]
  have w22 : aj_z V2 21 none 22 = V2 22 := aj_z_o _ _ (by decide)
  have h120 : ∀ k, aj_z I2 21 0 120 k = 0 := fun k => by rw [aj_z_o _ _ (by decide)]; exact z2.2.2.1 k
  have hvc : ∀ j, j < 8 → vc (aj_z V2 21 none) j = 19 + 16 * j := fun j hj => by
    unfold vc
    rw [w1 27 (by decide) (by decide), v27 j hj]; rfl
  have hIc : ∀ c ∈ aj_CS, ∀ k, aj_z I2 21 0 c k = if k = 0 ∨ k = 3 then 1 else 0 := fun c hc k => by
    rw [aj_z_o _ _ (by revert c hc; decide), e2 c (by revert c hc; decide), aj_z_o _ _ (by revert c hc; decide)]
    exact s1 c (by revert c hc; decide) k
  have htc : ∀ c ∈ aj_CS, tc (aj_z I2 21 0) c = (1, 0, 0) := fun c hc => by
    unfold tc
    rw [hIc c hc 0, hIc c hc 1, hIc c hc 2]; rfl
  refine kk _ _ _ _ ⟨⟨0, by decide, h18 2, 0, 0, by decide, by decide, h18 4, h18 6, fun j hj => absurd hj (by omega), fun j hj => absurd hj (by omega), rfl⟩, ⟨fun k hk => by rw [h88 k hk, h104 k]; exact ⟨by decide, by decide⟩, ⟨0, by decide, h22 7⟩, fun k hk => by rw [h136 k, h152 k]; exact ⟨by decide, by decide⟩, by rw [h22 8]; decide, by rw [h22 9]; decide⟩, ⟨by rw [kV_n (n := 0) (by decide) (h22 7), kW_n (n := 0) (by decide) (h18 2)]; exact vOf_e (by rw [h168 3, h20 9]) (by rw [h22 8, h24 12]) (by rw [h22 9, h40 12]) rfl (fun j hj => absurd hj (Nat.not_lt_zero j)) (fun j hj => absurd hj (Nat.not_lt_zero j)), by rw [kW_n (n := 0) (by decide) (h18 2)]; exact vD_of (fun i j _ hj => absurd hj (Nat.not_lt_zero j))⟩, ?_, ?_⟩ ?_
  · unfold bV
    rw [w1 20 (by decide) (by decide), w1 18 (by decide) (by decide), w1 27 (by decide) (by decide), w22, n2o 27 (by decide), n2o 43 (by decide), n2o 25 (by decide), n2o 24 (by decide), n2o 40 (by decide), n2o 56 (by decide), n2o 72 (by decide)]
    exact ⟨lBL, v20, v18, v22, ⟨n1.1, n1.2.1, n1.2.2.1, n2.1, n1.2.2.2.1, n1.2.2.2.2.1, n1.2.2.2.2.2.1, n1.2.2.2.2.2.2, n2.2.1, n2.2.2.1, n2.2.2.2.1, n2.2.2.2.2.1, n2.2.2.2.2.2.1, n2.2.2.2.2.2.2⟩, fun j hj => ⟨19 + 16 * j, v27 j hj, by rcases (show j = 0 ∨ j = 1 ∨ j = 2 ∨ j = 3 ∨ j = 4 ∨ j = 5 ∨ j = 6 ∨ j = 7 by omega) with rfl | rfl | rfl | rfl | rfl | rfl | rfl | rfl <;> decide⟩⟩
  · exact vM.z (vM.mono m2 (by decide))
  · refine ⟨tM_e (fun j hj => ?_), fun c hc => ?_, fun i j hi hj => ?_⟩
    · have hcj : vc (aj_z V2 21 none) j ∈ aj_CS := by
        rw [hvc j hj]
        rcases (show j = 0 ∨ j = 1 ∨ j = 2 ∨ j = 3 ∨ j = 4 ∨ j = 5 ∨ j = 6 ∨ j = 7 by omega) with rfl | rfl | rfl | rfl | rfl | rfl | rfl | rfl <;> decide
      rw [htc _ hcj, h88 j hj, h104 j, h120 j]
    · rw [htc c hc, hIc c hc 3]
      exact ⟨⟨by decide, by decide, Or.inl rfl, fun h => absurd h (by decide), fun h => absurd h (by decide)⟩, by decide⟩
    · rw [hvc i (by omega), hvc j hj]; omega
end LE
-- WHAT HOLDS AT THE LAW'S ENTRY
theorem law_arr {s : State} {args : Array Value} {ty : FieldType} (h : (Cond.arrayClass ty).before args s = true) : ∃ c : ClassId, ArrOfT s c ty ∧ s.vm.findClass ("[" ++ ty.toString) = some c := by
  obtain ⟨c, k, comp, h1, h2, h3⟩ := Cond.arrayClass_spec h
  exact ⟨c, fun N z => ⟨(fun k h => by cases h), k, h2, comp, h3⟩, h1⟩
theorem law_arrS {s : State} {args : Array Value} {C : String} (h : (Cond.arrayOver (.object C)).before args s = true) : ∃ c : ClassId, ArrOfT s c (.object C) ∧ va_RA s c (.object C) := by
  obtain ⟨comp, c, k, h1, -, h2, h3, h4⟩ := Cond.arrayOver_spec h
  exact ⟨c, fun N z => ⟨(fun k h => by cases h), k, h2, comp, h3⟩, k, comp, h2, h3, h1, h4⟩
theorem law_inst : ∀ k, k < 7 → Cond.instantiable (aj_R k) (aj_n k) ∈ aj_TB := by decide +kernel
def lz (f : Nat → Value) (j : Nat) : Int32 := match f j with
  | .int z => z
  | _ => 0
set_option maxRecDepth 100000 in
theorem law_mk : ∀ j, j < 16 → Cond.eq (.elem (.static "Raywalk" "MARKS" "[I") (.int (Int32.ofNat j))) (.int (lz aj_mk j)) ∈ flatC (Jvm.Cond.and given_1 narrow_1) := by decide +kernel
set_option maxRecDepth 100000 in
theorem law_dt0 : ((flatC (Jvm.Cond.and given_1 narrow_1)).drop 115).take 100 = (List.range 100).map (fun j => Cond.eq (.elem (.static "java/lang/Integer" "DigitTens" "[B") (.int (Int32.ofNat j))) (.int (lz (aj_dg true) j))) := by decide +kernel
theorem law_dt : ∀ j, j < 100 → Cond.eq (.elem (.static "java/lang/Integer" "DigitTens" "[B") (.int (Int32.ofNat j))) (.int (lz (aj_dg true) j)) ∈ flatC (Jvm.Cond.and given_1 narrow_1) := fun j hj => List.mem_of_mem_drop (List.mem_of_mem_take (by rw [law_dt0]; exact List.mem_map.mpr ⟨j, List.mem_range.mpr hj, rfl⟩))
set_option maxRecDepth 100000 in
theorem law_do0 : ((flatC (Jvm.Cond.and given_1 narrow_1)).drop 12).take 100 = (List.range 100).map (fun j => Cond.eq (.elem (.static "java/lang/Integer" "DigitOnes" "[B") (.int (Int32.ofNat j))) (.int (lz (aj_dg false) j))) := by decide +kernel
theorem law_do : ∀ j, j < 100 → Cond.eq (.elem (.static "java/lang/Integer" "DigitOnes" "[B") (.int (Int32.ofNat j))) (.int (lz (aj_dg false) j)) ∈ flatC (Jvm.Cond.and given_1 narrow_1) := fun j hj => List.mem_of_mem_drop (List.mem_of_mem_take (by rw [law_do0]; exact List.mem_map.mpr ⟨j, List.mem_range.mpr hj, rfl⟩))
theorem law_nm : ∀ x ∈ aj_NM, Cond.methodLinkNest x.1 x.2.1 x.2.2.1 x.2.2.2 ∈ lw_tbl := by decide +kernel
theorem law_ex : ∀ x ∈ aj_ex, Cond.castable x x ∈ lw_tbl := by decide +kernel
theorem law_dc : ∀ x ∈ aj_DC, Cond.declares x ∈ lw_tbl := by decide +kernel
theorem law_sr : ∀ x ∈ aj_SR, Cond.stringRef x.1 x.2.1 x.2.2 ∈ lw_tbl ∧ Cond.exactly (.string x.1 x.2.1) "java/lang/String" ∈ flatC (Jvm.Cond.and given_1 narrow_1) := by decide +kernel
def lTm (i : Nat) : Term := .string "RaywalkModel" (220 + 2 * i)
def lBy : List (List Int32) := [[], [32]]
theorem law_k : ∀ i, i < 2 → Cond.exactly (lTm i) "java/lang/String" ∈ flatC (Jvm.Cond.and given_1 narrow_1) ∧ Cond.eq (.field (lTm i) "java/lang/String" "coder" "B") (.int 0) ∈ flatC (Jvm.Cond.and given_1 narrow_1) ∧ Cond.arrayOf (.field (lTm i) "java/lang/String" "value" "[B") .byte ∈ flatC (Jvm.Cond.and given_1 narrow_1) ∧ Cond.eq (.length (.field (lTm i) "java/lang/String" "value" "[B")) (.int (Int32.ofNat (([0, 1] : List Nat).getD i 0))) ∈ flatC (Jvm.Cond.and given_1 narrow_1) := by decide +kernel
theorem law_k0 : Cond.eq (.elem (.field (lTm 1) "java/lang/String" "value" "[B") (.int (Int32.ofNat 0))) (.int 32) ∈ flatC (Jvm.Cond.and given_1 narrow_1) ∧ Cond.not (Cond.eq (lTm 0) (lTm 1)) ∈ flatC (Jvm.Cond.and given_1 narrow_1) := by decide +kernel
theorem law_st : Cond.laysStatic Bundle.tN "UNASSIGNED_STACK" Bundle.steD ∈ lw_tbl ∧ Cond.laysStatic Bundle.tN "SUPPRESSED_SENTINEL" Bundle.listD ∈ lw_tbl ∧ Cond.initialized Bundle.tN ∈ lw_tbl ∧ Cond.laysStatic "Raywalk" "MARKS" "[I" ∈ lw_tbl ∧ Cond.initialized "Raywalk" ∈ lw_tbl ∧ Cond.laysStatic "java/lang/String" "COMPACT_STRINGS" "Z" ∈ lw_tbl ∧ Cond.initialized "java/lang/String" ∈ lw_tbl ∧ Cond.laysStatic "java/lang/Integer" "DigitTens" "[B" ∈ lw_tbl ∧ Cond.laysStatic "java/lang/Integer" "DigitOnes" "[B" ∈ lw_tbl ∧ Cond.initialized "java/lang/Integer" ∈ lw_tbl ∧ Cond.stringRef "RaywalkModel" 220 "" ∈ lw_tbl ∧ Cond.stringRef "RaywalkModel" 222 " " ∈ lw_tbl ∧ Cond.castable "[B" "java/lang/Cloneable" ∈ lw_tbl ∧ Cond.arrayOver (.object "Raywalk$Step") ∈ lw_tbl ∧ Cond.fieldLinkNest "RaywalkLaw" 13 "RaywalkLaw$Out" "n" "J" "RaywalkLaw" ∈ lw_tbl := by decide +kernel
theorem law_fl : Cond.isRef (.static Bundle.tN "UNASSIGNED_STACK" Bundle.steD) ∈ flatC (Jvm.Cond.and given_1 narrow_1) ∧ Cond.isRef (.static Bundle.tN "SUPPRESSED_SENTINEL" Bundle.listD) ∈ flatC (Jvm.Cond.and given_1 narrow_1) ∧ Cond.arrayOf (.static "Raywalk" "MARKS" "[I") .int ∈ flatC (Jvm.Cond.and given_1 narrow_1) ∧ Cond.eq (.length (.static "Raywalk" "MARKS" "[I")) (.int (Int32.ofNat 16)) ∈ flatC (Jvm.Cond.and given_1 narrow_1) ∧ Cond.eq (.static "java/lang/String" "COMPACT_STRINGS" "Z") (.int 1) ∈ flatC (Jvm.Cond.and given_1 narrow_1) ∧ Cond.arrayOf (.static "java/lang/Integer" "DigitTens" "[B") .byte ∈ flatC (Jvm.Cond.and given_1 narrow_1) ∧ Cond.eq (.length (.static "java/lang/Integer" "DigitTens" "[B")) (.int (Int32.ofNat 100)) ∈ flatC (Jvm.Cond.and given_1 narrow_1) ∧ Cond.arrayOf (.static "java/lang/Integer" "DigitOnes" "[B") .byte ∈ flatC (Jvm.Cond.and given_1 narrow_1) ∧ Cond.eq (.length (.static "java/lang/Integer" "DigitOnes" "[B")) (.int (Int32.ofNat 100)) ∈ flatC (Jvm.Cond.and given_1 narrow_1) ∧ Cond.not (.castable "java/lang/IllegalArgumentException" "java/lang/IndexOutOfBoundsException") ∈ flatC (Jvm.Cond.and given_1 narrow_1) := by decide +kernel
theorem law_sp : ∀ i ∈ lGF, ¬ aj_sp i := by unfold aj_sp; decide
def lR (b aM aT aO k0 k1 v0 v1 : Nat) : Nat → Nat := fun i => if i = 8 then b else if i = 12 then aM else if i = 13 then aT else if i = 14 then aO else if i = 28 then k0 else if i = 44 then k1 else if i = 60 then v0 else if i = 76 then v1 else 0
set_option maxHeartbeats 4000000 in
theorem law_setup {p : Program} {l : Launch} {e : Env} {s : State} {m : MethodId} {below : List Frame} {meth : Method} {c : Code} {b n : Nat} {xs : Nat → Int32} {Q : State → Prop} (hst : l.stackTraces = false) (hx : p.tables.exec = Jvm.exec) (hc : c.code = code) (hml : c.maxLocals = 7) (hown : s.vm.findClass "RaywalkLaw" = some m.cls) (hts : ∀ w ∈ lw_tbl, w.before #[Value.ref b] s = true) (hX : va_X b n xs s s.heap) (hb : b < s.heap.size) (hlk : meth.locks = false) (hg : (Jvm.Cond.and given_1 narrow_1).before #[Value.ref b] s = true) :
    ∃ (D : va_G) (cs : Nat → ClassId) (r : Nat → Nat), r 8 = b ∧ (∀ tbl : List (Nat × Instr × Nat), (∀ e ∈ tbl, decode code e.1 = .ok e.2) → aj_C (D, cs, p, l, e, room_1, s, m, #[Value.ref b], below, meth, c, (fun q => s.heap.size ≤ q), 7, r, [], lGF, Q) code tbl RL room_1 7) ∧ lS (D, cs, p, l, e, room_1, s, m, #[Value.ref b], below, meth, c, (fun q => s.heap.size ≤ q), 7, r, [], lGF, Q) n xs := by
  have hfl := flat_of_before _ hg
  have hA : ∀ a : Nat, a < s.heap.size → ¬ (fun q => s.heap.size ≤ q) a := fun a h z => Nat.not_le.mpr h z
  have hTB : ∀ w ∈ aj_TB, w.before #[Value.ref b] s = true := by
    intro w hw
    rcases List.mem_append.mp (List.mem_filter.mp hw).1 with h | h
    · exact hts w h
    · obtain ⟨y, hy, rfl⟩ := List.mem_map.mp h
      have h0 : (Cond.selects RJ4 yJ5_isLatin1_aae02 yJ5_isLatin1_aae02).before #[Value.ref b] s = true := (hts _ (List.mem_of_getElem? (i := 371) (by decide +kernel)))
      unfold aj_PM at hy
      simp only [List.mem_cons, List.not_mem_nil, or_false] at hy
      rcases hy with rfl | rfl | rfl | rfl
      · exact aj_selp h0 rfl ⟨by decide, by decide⟩ (hts _ (List.mem_of_getElem? (i := 334) (by decide +kernel))) (hts _ (List.mem_of_getElem? (i := 335) (by decide +kernel)))
      · exact aj_selp h0 rfl ⟨by decide, by decide⟩ (hts _ (List.mem_of_getElem? (i := 338) (by decide +kernel))) (hts _ (List.mem_of_getElem? (i := 339) (by decide +kernel)))
      · exact aj_selp h0 rfl ⟨by decide, by decide⟩ (hts _ (List.mem_of_getElem? (i := 559) (by decide +kernel))) (hts _ (List.mem_of_getElem? (i := 560) (by decide +kernel)))
      · exact aj_selp h0 rfl ⟨by decide, by decide⟩ (hts _ (List.mem_of_getElem? (i := 563) (by decide +kernel))) (hts _ (List.mem_of_getElem? (i := 564) (by decide +kernel)))
  have hKn : ∀ k : Nat, ∃ q : ClassId × (Nat → Nat), k < 7 → u_Kn s (aj_R k) (aj_T k) (aj_n k) q.1 q.2 := fun k => by
    by_cases h : k < 7
    · obtain ⟨c, i, hk⟩ := u_known (C := aj_R k) (T := aj_T k) (N := aj_n k) (n := aj_n k) hTB (aj_cl_in k h) (hTB _ (law_inst k h))
      exact ⟨(c, i), fun _ => hk⟩
    · exact ⟨(m.cls, fun _ => 0), fun z => absurd z h⟩
  obtain ⟨Df, hDf⟩ := Classical.axiomOfChoice hKn
  obtain ⟨c0, ar0, f0⟩ := law_arr (hTB _ ac_int)
  obtain ⟨c1, ar1, f1⟩ := law_arr (hTB _ ac_long)
  obtain ⟨c2, ar2, f2⟩ := law_arr (hTB _ ac_byte)
  obtain ⟨l1, l2, l3, l4, l5, l6, l7, l8, l9, l10, l11, l12, l13, l14, l15⟩ := law_st
  obtain ⟨g1, g2, g3, g4, g5, g6, g7, g8, g9, g10⟩ := law_fl
  obtain ⟨c3, ar3, f3⟩ := law_arrS (hts _ l14)
  obtain ⟨aM, hM1, hM2⟩ := va_Tof (s := s) (args := #[Value.ref b]) (tm := .static "Raywalk" "MARKS" "[I") (ty := .int) (N := 16) (f := aj_mk) (A := fun q => s.heap.size ≤ q) (by decide) (hfl _ g3) (va_eqt (hfl _ g4)) (fun j hj => va_eqt (z := lz aj_mk j) (hfl _ (law_mk j hj))) hA
  obtain ⟨aT, hT1, hT2⟩ := va_Tof (s := s) (args := #[Value.ref b]) (tm := .static "java/lang/Integer" "DigitTens" "[B") (ty := .byte) (N := 100) (f := aj_dg true) (A := fun q => s.heap.size ≤ q) (by decide) (hfl _ g6) (va_eqt (hfl _ g7)) (fun j hj => va_eqt (z := lz (aj_dg true) j) (hfl _ (law_dt j hj))) hA
  obtain ⟨aO, hO1, hO2⟩ := va_Tof (s := s) (args := #[Value.ref b]) (tm := .static "java/lang/Integer" "DigitOnes" "[B") (ty := .byte) (N := 100) (f := aj_dg false) (A := fun q => s.heap.size ≤ q) (by decide) (hfl _ g8) (va_eqt (hfl _ g9)) (fun j hj => va_eqt (z := lz (aj_dg false) j) (hfl _ (law_do j hj))) hA
  obtain ⟨adK, adV, hS1, hS2⟩ := vk_Sof (s := s) (args := #[Value.ref b]) (N := 2) (tm := lTm) (len := [0, 1]) (byt := [[], [32]]) (A := fun q => s.heap.size ≤ q) (by decide) (fun i hi => hfl _ (law_k i hi).1) (fun i hi => hfl _ (law_k i hi).2.1) (fun i hi => hfl _ (law_k i hi).2.2.1) (fun i hi => hfl _ (law_k i hi).2.2.2)
    (fun i hi j hj => by
      rcases i with _ | _ | i
      · exact absurd hj (by simp)
      · rcases j with _ | j
        · exact hfl _ law_k0.1
        · exact absurd hj (by simp)
      · omega)
    (fun i j hi hj hne => by
      rcases i with _ | _ | i
      · rcases j with _ | _ | j
        · exact absurd rfl hne
        · exact Or.inl (hfl _ law_k0.2)
        · omega
      · rcases j with _ | _ | j
        · exact Or.inr (hfl _ law_k0.2)
        · exact absurd rfl hne
        · omega
      · omega) hA
  refine ⟨(fun k => (Df k).1, fun k => (Df k).2), fun k => match k with | 0 => c0 | 1 => c1 | 2 => c2 | _ => c3, lR b aM aT aO (adK 0) (adK 1) (adV 0) (adV 1), rfl, fun tbl htbl => ?_, ?_⟩
  · refine ⟨hx, hc, hml, hown, hTB, ⟨fun k q hq => ?_, fun k q hq => ?_⟩, fun q hq => hq, htbl, rfl, rfl, hst, law_sp, ⟨⟨vx_Zqof (hts _ l1) (hts _ l3) (hfl _ g1) hA, vx_Zqof (hts _ l2) (hts _ l3) (hfl _ g2) hA, va_Zof (hts _ l4) (hts _ l5) hM1 hA, hM2, ⟨⟨⟨va_Zof (hts _ l6) (hts _ l7) (va_eqt (hfl _ g5)) hA, va_Zof (hts _ l8) (hts _ l10) hT1 hA, va_Zof (hts _ l9) (hts _ l10) hO1 hA⟩, hT2, hO2, ?_⟩, vk_R.of (hts _ l11) (hS2 0 (by decide)), vk_R.of (hts _ l12) (hS2 1 (by decide)), va_Nw.of rfl (hts _ l13)⟩⟩, va_AO.of (hts _ l14), fun x hx => va_Nw.of rfl (hts _ (law_nm x hx)), va_Nw.of rfl (hts _ l15), fun x hx => va_Nw.of rfl (hts _ (law_ex x hx)), fun x hx => va_Nw.of rfl (hts _ (law_dc x hx)), fun x hx => ?_, va_Nc.of (hfl _ g10)⟩, hlk⟩
    · have h7 : k < 7 := (List.getElem?_eq_some_iff.mp hq).1
      cases Option.some.inj (hq.symm.trans (aj_cl k h7))
      exact hDf k h7
    · rcases k with _ | _ | _ | _ | k
      · cases hq; exact ⟨ar0, f0⟩
      · cases hq; exact ⟨ar1, f1⟩
      · cases hq; exact ⟨ar2, f2⟩
      · cases hq; exact ⟨ar3, f3⟩
      · cases hq
    · refine ⟨fun i hi => ?_, fun i j hi hj he => ?_⟩
      · rcases i with _ | _ | i
        · exact hS1.1 0 (by decide)
        · exact hS1.1 1 (by decide)
        · omega
      · rcases i with _ | _ | i
        · rcases j with _ | _ | j
          · rfl
          · exact absurd (hS1.2 0 1 (by decide) (by decide) he) (by decide)
          · omega
        · rcases j with _ | _ | j
          · exact absurd (hS1.2 1 0 (by decide) (by decide) he) (by decide)
          · rfl
          · omega
        · omega
    · obtain ⟨h1, h2⟩ := law_sr x hx
      obtain ⟨a, _, _, _, q1, -⟩ := Cond.exactly_spec (args := #[Value.ref b]) (first := s) (o := none) (s := s) (idx := []) (hfl _ h2)
      exact ⟨a, vk_R.of (hts _ h1) q1⟩
  · exact ⟨hX, hb, fun z => Nat.not_le.mpr hb z, (show (8 : Nat) ∉ lGF by decide)⟩

