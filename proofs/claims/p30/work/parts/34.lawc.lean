set_option maxRecDepth 100000 in
set_option maxHeartbeats 2000000 in
theorem lc_0 {G : aj_G} {I : Nat → Nat → Int32} {J : Nat → Nat → Int64} {V : Nat → Nat → Option Nat} {N : Nat → Nat} {n t bc bs : Nat} {xs : Nat → Int32} (C : aj_C G code t_law_0 RL room_1 7) (hS0 : lS G n xs) (hGL : gL G = []) (hGF : gF G = lGF) (hl : lI I V N) (hx : lX I V) (ht : 5 * t + 5 ≤ n) (hn : n ≤ 320)
    (kk : ∀ I1 J1 V1 N1, lI I1 V1 N1 → lX I1 V1 → aj_X G 1657 [some (.ref 8), some (.ref 20), some (.ref 22), some (.ref 21), some (.int (nI (5 * t))), none, none] [] I1 J1 V1 N1 aj_LL bc bs) : aj_X G 228 [some (.ref 8), some (.ref 20), some (.ref 22), some (.ref 21), some (.int (nI (5 * t))), none, none] [] I J V N aj_LL (bc + 60) (bs + 3600) := by
  have hl0 := hl
  obtain ⟨⟨nn, hC⟩, hM, hkn, hB, hV⟩ := hl0
  have hv1 : vp_in (nI (5 * t) + 1) n := by rw [show nI (5 * t) + 1 = nI (5 * t + 1) from nI_add _ 1]; exact nI_in (by omega) (by omega)
  have hv2 : vp_in (nI (5 * t) + 2) n := by rw [show nI (5 * t) + 2 = nI (5 * t + 2) from nI_add _ 2]; exact nI_in (by omega) (by omega)
  have hv3 : vp_in (nI (5 * t) + 3) n := by rw [show nI (5 * t) + 3 = nI (5 * t + 3) from nI_add _ 3]; exact nI_in (by omega) (by omega)
  have hv4 : vp_in (nI (5 * t) + 4) n := by rw [show nI (5 * t) + 4 = nI (5 * t + 4) from nI_add _ 4]; exact nI_in (by omega) (by omega)
  refine y_aload1 (q := 229) C 0 rfl rfl ?_
  refine y_aload0 (q := 230) C 1 rfl rfl ?_
  refine y_iload4 (q := 232) C 2 rfl rfl ?_
  refine x_iconst (q := 233) C 3 (n := (1)) (v := (1)) rfl rfl rfl ?_
  refine x_iadd (q := 234) C 4 rfl rfl ?_
  refine x_sld (q := 235) C hS0 5 rfl rfl hv1 ?_
  refine y_aload0 (q := 236) C 6 rfl rfl ?_
  refine y_iload4 (q := 238) C 7 rfl rfl ?_
  refine x_iconst (q := 239) C 8 (n := (2)) (v := (2)) rfl rfl rfl ?_
  refine x_iadd (q := 240) C 9 rfl rfl ?_
  refine x_sld (q := 241) C hS0 10 rfl rfl hv2 ?_
  refine y_aload0 (q := 242) C 11 rfl rfl ?_
  refine y_iload4 (q := 244) C 12 rfl rfl ?_
  refine x_iconst (q := 245) C 13 (n := (3)) (v := (3)) rfl rfl rfl ?_
  refine x_iadd (q := 246) C 14 rfl rfl ?_
  refine x_sld (q := 247) C hS0 15 rfl rfl hv3 ?_
  refine y_aload0 (q := 248) C 16 rfl rfl ?_
  refine y_iload4 (q := 250) C 17 rfl rfl ?_
  refine x_iconst (q := 251) C 18 (n := (4)) (v := (4)) rfl rfl rfl ?_
  refine x_iadd (q := 252) C 19 rfl rfl ?_
  refine x_sld (q := 253) C hS0 20 rfl rfl hv4 ?_
  refine y_aload3 (q := 254) C 21 rfl rfl ?_
  refine z_T6 (q := 257) (bc' := bc + 56) (bs' := bs + 3576) C 22 rfl rfl ml_RL_112 cd_L_put (by decide) (Nat.le_of_ble_eq_true rfl) (by omega) (by omega) (by rw [hGF]; decide) (by intro i h; cases List.mem_singleton.mp h; exact aj_no.of rfl) (s_L_put hC hB (by decide) (hl.noL (by decide)) hx.2.1 hx.2.2 ?_)
  intro k1 I1 J1 hR1 hc1 ha1
  subst hc1
  show aj_X G 257 _ _ _ _ _ _ _ _ _
  have hv := hl.vC hR1
  have hu := hx.cv hR1
  show aj_X G 257 _ _ _ _ _ _ _ _ _
  refine y_istore5 (q := 259) C 23 rfl rfl (Nat.le_of_ble_eq_true rfl) rfl ?_
  refine y_aload2 (q := 260) C 24 rfl rfl ?_
  refine y_aload0 (q := 261) C 25 rfl rfl ?_
  refine y_iload4 (q := 263) C 26 rfl rfl ?_
  refine x_iconst (q := 264) C 27 (n := (1)) (v := (1)) rfl rfl rfl ?_
  refine x_iadd (q := 265) C 28 rfl rfl ?_
  refine x_sld (q := 266) C hS0 29 rfl rfl hv1 ?_
  refine y_aload0 (q := 267) C 30 rfl rfl ?_
  refine y_iload4 (q := 269) C 31 rfl rfl ?_
  refine x_iconst (q := 270) C 32 (n := (2)) (v := (2)) rfl rfl rfl ?_
  refine x_iadd (q := 271) C 33 rfl rfl ?_
  refine x_sld (q := 272) C hS0 34 rfl rfl hv2 ?_
  refine y_aload0 (q := 273) C 35 rfl rfl ?_
  refine y_iload4 (q := 275) C 36 rfl rfl ?_
  refine x_iconst (q := 276) C 37 (n := (3)) (v := (3)) rfl rfl rfl ?_
  refine x_iadd (q := 277) C 38 rfl rfl ?_
  refine x_sld (q := 278) C hS0 39 rfl rfl hv3 ?_
  refine y_aload0 (q := 279) C 40 rfl rfl ?_
  refine y_iload4 (q := 281) C 41 rfl rfl ?_
  refine x_iconst (q := 282) C 42 (n := (4)) (v := (4)) rfl rfl rfl ?_
  refine x_iadd (q := 283) C 43 rfl rfl ?_
  refine x_sld (q := 284) C hS0 44 rfl rfl hv4 ?_
  refine z_V4 (q := 287) (bc' := bc + 56) (bs' := bs + 3576) C 45 rfl rfl ml_RL_117 cd_X5_put cv_X5_put ⟨by decide, rfl⟩ (by decide) (by decide) (Nat.le_of_ble_eq_true rfl) (by omega) (by omega) aj_f0 aj_f0 (s_X5_put (hl.MC hR1) hB ?_)
  intro k2 I2 J2 hR2 hc2 ha2
  show aj_X G 287 _ _ _ _ _ _ _ _ _
  try rw [hv] at hR2
  try rw [hu] at hR2
  try rw [hv] at hc2
  try rw [hu] at hc2
  try rw [hv] at ha2
  try rw [hu] at ha2
  have hl2 := hl.bc hR1 hR2
  have hx2 := hx.bc hB hR1 hR2
  show aj_X G 287 _ _ _ _ _ _ _ _ _
  refine y_istore6 (q := 289) C 46 rfl rfl (Nat.le_of_ble_eq_true rfl) rfl ?_
  refine x_goto (t := 1657) C 47 rfl (by decide) ?_
  refine aj_bud (bc' := bc) (bs' := bs) (by omega) (by omega) (aj_fg (kk _ _ _ _ hl2 hx2))
set_option maxRecDepth 100000 in
set_option maxHeartbeats 2000000 in
theorem lc_1 {G : aj_G} {I : Nat → Nat → Int32} {J : Nat → Nat → Int64} {V : Nat → Nat → Option Nat} {N : Nat → Nat} {n t bc bs : Nat} {xs : Nat → Int32} (C : aj_C G code t_law_1 RL room_1 7) (hS0 : lS G n xs) (hGL : gL G = []) (hGF : gF G = lGF) (hl : lI I V N) (hx : lX I V) (ht : 5 * t + 5 ≤ n) (hn : n ≤ 320)
    (kk : ∀ I1 J1 V1 N1, lI I1 V1 N1 → lX I1 V1 → aj_X G 1657 [some (.ref 8), some (.ref 20), some (.ref 22), some (.ref 21), some (.int (nI (5 * t))), none, none] [] I1 J1 V1 N1 aj_LL bc bs) : aj_X G 292 [some (.ref 8), some (.ref 20), some (.ref 22), some (.ref 21), some (.int (nI (5 * t))), none, none] [] I J V N aj_LL (bc + 60) (bs + 3600) := by
  have hl0 := hl
  obtain ⟨⟨nn, hC⟩, hM, hkn, hB, hV⟩ := hl0
  have hv1 : vp_in (nI (5 * t) + 1) n := by rw [show nI (5 * t) + 1 = nI (5 * t + 1) from nI_add _ 1]; exact nI_in (by omega) (by omega)
  have hv2 : vp_in (nI (5 * t) + 2) n := by rw [show nI (5 * t) + 2 = nI (5 * t + 2) from nI_add _ 2]; exact nI_in (by omega) (by omega)
  have hv3 : vp_in (nI (5 * t) + 3) n := by rw [show nI (5 * t) + 3 = nI (5 * t + 3) from nI_add _ 3]; exact nI_in (by omega) (by omega)
  have hv4 : vp_in (nI (5 * t) + 4) n := by rw [show nI (5 * t) + 4 = nI (5 * t + 4) from nI_add _ 4]; exact nI_in (by omega) (by omega)
  refine y_aload1 (q := 293) C 0 rfl rfl ?_
  refine y_aload0 (q := 294) C 1 rfl rfl ?_
  refine y_iload4 (q := 296) C 2 rfl rfl ?_
  refine x_iconst (q := 297) C 3 (n := (1)) (v := (1)) rfl rfl rfl ?_
  refine x_iadd (q := 298) C 4 rfl rfl ?_
  refine x_sld (q := 299) C hS0 5 rfl rfl hv1 ?_
  refine y_aload0 (q := 300) C 6 rfl rfl ?_
  refine y_iload4 (q := 302) C 7 rfl rfl ?_
  refine x_iconst (q := 303) C 8 (n := (2)) (v := (2)) rfl rfl rfl ?_
  refine x_iadd (q := 304) C 9 rfl rfl ?_
  refine x_sld (q := 305) C hS0 10 rfl rfl hv2 ?_
  refine y_aload3 (q := 306) C 11 rfl rfl ?_
  refine z_T4 (q := 309) (bc' := bc + 58) (bs' := bs + 3588) C 12 rfl rfl ml_RL_118 cd_L_make (by decide) (Nat.le_of_ble_eq_true rfl) (by omega) (by omega) (by rw [hGF]; decide) (by intro i h; cases List.mem_singleton.mp h; exact aj_no.of rfl) (s_L_make hC hB (by decide) (hl.noL (by decide)) hx.2.1 hx.2.2 ?_)
  intro k1 I1 J1 hR1 hc1 ha1
  subst hc1
  show aj_X G 309 _ _ _ _ _ _ _ _ _
  have hv := hl.vC hR1
  have hu := hx.cv hR1
  show aj_X G 309 _ _ _ _ _ _ _ _ _
  refine y_istore5 (q := 311) C 13 rfl rfl (Nat.le_of_ble_eq_true rfl) rfl ?_
  refine y_aload2 (q := 312) C 14 rfl rfl ?_
  refine y_aload0 (q := 313) C 15 rfl rfl ?_
  refine y_iload4 (q := 315) C 16 rfl rfl ?_
  refine x_iconst (q := 316) C 17 (n := (1)) (v := (1)) rfl rfl rfl ?_
  refine x_iadd (q := 317) C 18 rfl rfl ?_
  refine x_sld (q := 318) C hS0 19 rfl rfl hv1 ?_
  refine y_aload0 (q := 319) C 20 rfl rfl ?_
  refine y_iload4 (q := 321) C 21 rfl rfl ?_
  refine x_iconst (q := 322) C 22 (n := (2)) (v := (2)) rfl rfl rfl ?_
  refine x_iadd (q := 323) C 23 rfl rfl ?_
  refine x_sld (q := 324) C hS0 24 rfl rfl hv2 ?_
  refine z_V2 (q := 327) (bc' := bc + 58) (bs' := bs + 3588) C 25 rfl rfl ml_RL_121 cd_X5_make cv_X5_make ⟨by decide, rfl⟩ (by decide) (by decide) (Nat.le_of_ble_eq_true rfl) (by omega) (by omega) aj_f0 aj_f0 (s_X5_make (hl.MC hR1) (by rw [hu]; exact hx.ok hB) hB ?_)
  intro k2 I2 J2 hR2 hc2 ha2
  show aj_X G 327 _ _ _ _ _ _ _ _ _
  try rw [hv] at hR2
  try rw [hu] at hR2
  try rw [hv] at hc2
  try rw [hu] at hc2
  try rw [hv] at ha2
  try rw [hu] at ha2
  have hl2 := hl.bc hR1 hR2
  have hx2 := hx.bc hB hR1 hR2
  show aj_X G 327 _ _ _ _ _ _ _ _ _
  refine y_istore6 (q := 329) C 26 rfl rfl (Nat.le_of_ble_eq_true rfl) rfl ?_
  refine x_goto (t := 1657) C 27 rfl (by decide) ?_
  refine aj_bud (bc' := bc) (bs' := bs) (by omega) (by omega) (aj_fg (kk _ _ _ _ hl2 hx2))
set_option maxRecDepth 100000 in
set_option maxHeartbeats 2000000 in
theorem lc_2 {G : aj_G} {I : Nat → Nat → Int32} {J : Nat → Nat → Int64} {V : Nat → Nat → Option Nat} {N : Nat → Nat} {n t bc bs : Nat} {xs : Nat → Int32} (C : aj_C G code t_law_2 RL room_1 7) (hS0 : lS G n xs) (hGL : gL G = []) (hGF : gF G = lGF) (hl : lI I V N) (hx : lX I V) (ht : 5 * t + 5 ≤ n) (hn : n ≤ 320)
    (kk : ∀ I1 J1 V1 N1, lI I1 V1 N1 → lX I1 V1 → aj_X G 1657 [some (.ref 8), some (.ref 20), some (.ref 22), some (.ref 21), some (.int (nI (5 * t))), none, none] [] I1 J1 V1 N1 aj_LL bc bs) : aj_X G 332 [some (.ref 8), some (.ref 20), some (.ref 22), some (.ref 21), some (.int (nI (5 * t))), none, none] [] I J V N aj_LL (bc + 60) (bs + 3600) := by
  have hl0 := hl
  obtain ⟨⟨nn, hC⟩, hM, hkn, hB, hV⟩ := hl0
  have hv1 : vp_in (nI (5 * t) + 1) n := by rw [show nI (5 * t) + 1 = nI (5 * t + 1) from nI_add _ 1]; exact nI_in (by omega) (by omega)
  have hv2 : vp_in (nI (5 * t) + 2) n := by rw [show nI (5 * t) + 2 = nI (5 * t + 2) from nI_add _ 2]; exact nI_in (by omega) (by omega)
  have hv3 : vp_in (nI (5 * t) + 3) n := by rw [show nI (5 * t) + 3 = nI (5 * t + 3) from nI_add _ 3]; exact nI_in (by omega) (by omega)
  have hv4 : vp_in (nI (5 * t) + 4) n := by rw [show nI (5 * t) + 4 = nI (5 * t + 4) from nI_add _ 4]; exact nI_in (by omega) (by omega)
  refine y_aload1 (q := 333) C 0 rfl rfl ?_
  refine y_aload0 (q := 334) C 1 rfl rfl ?_
  refine y_iload4 (q := 336) C 2 rfl rfl ?_
  refine x_iconst (q := 337) C 3 (n := (1)) (v := (1)) rfl rfl rfl ?_
  refine x_iadd (q := 338) C 4 rfl rfl ?_
  refine x_sld (q := 339) C hS0 5 rfl rfl hv1 ?_
  refine y_aload0 (q := 340) C 6 rfl rfl ?_
  refine y_iload4 (q := 342) C 7 rfl rfl ?_
  refine x_iconst (q := 343) C 8 (n := (2)) (v := (2)) rfl rfl rfl ?_
  refine x_iadd (q := 344) C 9 rfl rfl ?_
  refine x_sld (q := 345) C hS0 10 rfl rfl hv2 ?_
  refine y_aload3 (q := 346) C 11 rfl rfl ?_
  refine z_T4 (q := 349) (bc' := bc + 58) (bs' := bs + 3588) C 12 rfl rfl ml_RL_122 cd_L_stretch (by decide) (Nat.le_of_ble_eq_true rfl) (by omega) (by omega) (by rw [hGF]; decide) (by intro i h; cases List.mem_singleton.mp h; exact aj_no.of rfl) (s_L_stretch hC hB (by decide) (hl.noL (by decide)) hx.2.1 hx.2.2 ?_)
  intro k1 I1 J1 hR1 hc1 ha1
  subst hc1
  show aj_X G 349 _ _ _ _ _ _ _ _ _
  have hv := hl.vC hR1
  have hu := hx.cv hR1
  show aj_X G 349 _ _ _ _ _ _ _ _ _
  refine y_istore5 (q := 351) C 13 rfl rfl (Nat.le_of_ble_eq_true rfl) rfl ?_
  refine y_aload2 (q := 352) C 14 rfl rfl ?_
  refine y_aload0 (q := 353) C 15 rfl rfl ?_
  refine y_iload4 (q := 355) C 16 rfl rfl ?_
  refine x_iconst (q := 356) C 17 (n := (1)) (v := (1)) rfl rfl rfl ?_
  refine x_iadd (q := 357) C 18 rfl rfl ?_
  refine x_sld (q := 358) C hS0 19 rfl rfl hv1 ?_
  refine y_aload0 (q := 359) C 20 rfl rfl ?_
  refine y_iload4 (q := 361) C 21 rfl rfl ?_
  refine x_iconst (q := 362) C 22 (n := (2)) (v := (2)) rfl rfl rfl ?_
  refine x_iadd (q := 363) C 23 rfl rfl ?_
  refine x_sld (q := 364) C hS0 24 rfl rfl hv2 ?_
  refine z_V2 (q := 367) (bc' := bc + 58) (bs' := bs + 3588) C 25 rfl rfl ml_RL_124 cd_X5_stretch cv_X5_stretch ⟨by decide, rfl⟩ (by decide) (by decide) (Nat.le_of_ble_eq_true rfl) (by omega) (by omega) aj_f0 aj_f0 (s_X5_stretch (hl.MC hR1) (by rw [hu]; exact hx.ok hB) hB ?_)
  intro k2 I2 J2 hR2 hc2 ha2
  show aj_X G 367 _ _ _ _ _ _ _ _ _
  try rw [hv] at hR2
  try rw [hu] at hR2
  try rw [hv] at hc2
  try rw [hu] at hc2
  try rw [hv] at ha2
  try rw [hu] at ha2
  have hl2 := hl.bc hR1 hR2
  have hx2 := hx.bc hB hR1 hR2
  show aj_X G 367 _ _ _ _ _ _ _ _ _
  refine y_istore6 (q := 369) C 26 rfl rfl (Nat.le_of_ble_eq_true rfl) rfl ?_
  refine x_goto (t := 1657) C 27 rfl (by decide) ?_
  refine aj_bud (bc' := bc) (bs' := bs) (by omega) (by omega) (aj_fg (kk _ _ _ _ hl2 hx2))
set_option maxRecDepth 100000 in
set_option maxHeartbeats 2000000 in
theorem lc_3 {G : aj_G} {I : Nat → Nat → Int32} {J : Nat → Nat → Int64} {V : Nat → Nat → Option Nat} {N : Nat → Nat} {n t bc bs : Nat} {xs : Nat → Int32} (C : aj_C G code t_law_3 RL room_1 7) (hS0 : lS G n xs) (hGL : gL G = []) (hGF : gF G = lGF) (hl : lI I V N) (hx : lX I V) (ht : 5 * t + 5 ≤ n) (hn : n ≤ 320)
    (kk : ∀ I1 J1 V1 N1, lI I1 V1 N1 → lX I1 V1 → aj_X G 1657 [some (.ref 8), some (.ref 20), some (.ref 22), some (.ref 21), some (.int (nI (5 * t))), none, none] [] I1 J1 V1 N1 aj_LL bc bs) : aj_X G 372 [some (.ref 8), some (.ref 20), some (.ref 22), some (.ref 21), some (.int (nI (5 * t))), none, none] [] I J V N aj_LL (bc + 60) (bs + 3600) := by
  have hl0 := hl
  obtain ⟨⟨nn, hC⟩, hM, hkn, hB, hV⟩ := hl0
  have hv1 : vp_in (nI (5 * t) + 1) n := by rw [show nI (5 * t) + 1 = nI (5 * t + 1) from nI_add _ 1]; exact nI_in (by omega) (by omega)
  have hv2 : vp_in (nI (5 * t) + 2) n := by rw [show nI (5 * t) + 2 = nI (5 * t + 2) from nI_add _ 2]; exact nI_in (by omega) (by omega)
  have hv3 : vp_in (nI (5 * t) + 3) n := by rw [show nI (5 * t) + 3 = nI (5 * t + 3) from nI_add _ 3]; exact nI_in (by omega) (by omega)
  have hv4 : vp_in (nI (5 * t) + 4) n := by rw [show nI (5 * t) + 4 = nI (5 * t + 4) from nI_add _ 4]; exact nI_in (by omega) (by omega)
  refine y_aload1 (q := 373) C 0 rfl rfl ?_
  refine y_aload0 (q := 374) C 1 rfl rfl ?_
  refine y_iload4 (q := 376) C 2 rfl rfl ?_
  refine x_iconst (q := 377) C 3 (n := (1)) (v := (1)) rfl rfl rfl ?_
  refine x_iadd (q := 378) C 4 rfl rfl ?_
  refine x_sld (q := 379) C hS0 5 rfl rfl hv1 ?_
  refine y_aload0 (q := 380) C 6 rfl rfl ?_
  refine y_iload4 (q := 382) C 7 rfl rfl ?_
  refine x_iconst (q := 383) C 8 (n := (2)) (v := (2)) rfl rfl rfl ?_
  refine x_iadd (q := 384) C 9 rfl rfl ?_
  refine x_sld (q := 385) C hS0 10 rfl rfl hv2 ?_
  refine y_aload0 (q := 386) C 11 rfl rfl ?_
  refine y_iload4 (q := 388) C 12 rfl rfl ?_
  refine x_iconst (q := 389) C 13 (n := (3)) (v := (3)) rfl rfl rfl ?_
  refine x_iadd (q := 390) C 14 rfl rfl ?_
  refine x_sld (q := 391) C hS0 15 rfl rfl hv3 ?_
  refine y_aload3 (q := 392) C 16 rfl rfl ?_
  refine z_T5 (q := 395) (bc' := bc + 57) (bs' := bs + 3582) C 17 rfl rfl ml_RL_125 cd_L_addSteps (by decide) (Nat.le_of_ble_eq_true rfl) (by omega) (by omega) (by rw [hGF]; decide) (by intro i h; cases List.mem_singleton.mp h; exact aj_no.of rfl) (s_L_addSteps hC hB (by decide) (hl.noL (by decide)) hx.2.1 hx.2.2 ?_)
  intro k1 I1 J1 hR1 hc1 ha1
  subst hc1
  show aj_X G 395 _ _ _ _ _ _ _ _ _
  have hv := hl.vC hR1
  have hu := hx.cv hR1
  show aj_X G 395 _ _ _ _ _ _ _ _ _
  refine y_istore5 (q := 397) C 18 rfl rfl (Nat.le_of_ble_eq_true rfl) rfl ?_
  refine y_aload2 (q := 398) C 19 rfl rfl ?_
  refine y_aload0 (q := 399) C 20 rfl rfl ?_
  refine y_iload4 (q := 401) C 21 rfl rfl ?_
  refine x_iconst (q := 402) C 22 (n := (1)) (v := (1)) rfl rfl rfl ?_
  refine x_iadd (q := 403) C 23 rfl rfl ?_
  refine x_sld (q := 404) C hS0 24 rfl rfl hv1 ?_
  refine y_aload0 (q := 405) C 25 rfl rfl ?_
  refine y_iload4 (q := 407) C 26 rfl rfl ?_
  refine x_iconst (q := 408) C 27 (n := (2)) (v := (2)) rfl rfl rfl ?_
  refine x_iadd (q := 409) C 28 rfl rfl ?_
  refine x_sld (q := 410) C hS0 29 rfl rfl hv2 ?_
  refine y_aload0 (q := 411) C 30 rfl rfl ?_
  refine y_iload4 (q := 413) C 31 rfl rfl ?_
  refine x_iconst (q := 414) C 32 (n := (3)) (v := (3)) rfl rfl rfl ?_
  refine x_iadd (q := 415) C 33 rfl rfl ?_
  refine x_sld (q := 416) C hS0 34 rfl rfl hv3 ?_
  refine z_V3 (q := 419) (bc' := bc + 57) (bs' := bs + 3582) C 35 rfl rfl ml_RL_128 cd_X5_addSteps cv_X5_addSteps ⟨by decide, rfl⟩ (by decide) (by decide) (Nat.le_of_ble_eq_true rfl) (by omega) (by omega) aj_f0 aj_f0 (s_X5_addSteps (hl.MC hR1) (by rw [hu]; exact hx.ok hB) hB ?_)
  intro k2 I2 J2 hR2 hc2 ha2
  show aj_X G 419 _ _ _ _ _ _ _ _ _
  try rw [hv] at hR2
  try rw [hu] at hR2
  try rw [hv] at hc2
  try rw [hu] at hc2
  try rw [hv] at ha2
  try rw [hu] at ha2
  have hl2 := hl.bc hR1 hR2
  have hx2 := hx.bc hB hR1 hR2
  show aj_X G 419 _ _ _ _ _ _ _ _ _
  refine y_istore6 (q := 421) C 36 rfl rfl (Nat.le_of_ble_eq_true rfl) rfl ?_
  refine x_goto (t := 1657) C 37 rfl (by decide) ?_
  refine aj_bud (bc' := bc) (bs' := bs) (by omega) (by omega) (aj_fg (kk _ _ _ _ hl2 hx2))
set_option maxRecDepth 100000 in
set_option maxHeartbeats 2000000 in
theorem lc_4 {G : aj_G} {I : Nat → Nat → Int32} {J : Nat → Nat → Int64} {V : Nat → Nat → Option Nat} {N : Nat → Nat} {n t bc bs : Nat} {xs : Nat → Int32} (C : aj_C G code t_law_4 RL room_1 7) (hS0 : lS G n xs) (hGL : gL G = []) (hGF : gF G = lGF) (hl : lI I V N) (hx : lX I V) (ht : 5 * t + 5 ≤ n) (hn : n ≤ 320)
    (kk : ∀ I1 J1 V1 N1, lI I1 V1 N1 → lX I1 V1 → aj_X G 1657 [some (.ref 8), some (.ref 20), some (.ref 22), some (.ref 21), some (.int (nI (5 * t))), none, none] [] I1 J1 V1 N1 aj_LL bc bs) : aj_X G 424 [some (.ref 8), some (.ref 20), some (.ref 22), some (.ref 21), some (.int (nI (5 * t))), none, none] [] I J V N aj_LL (bc + 60) (bs + 3600) := by
  have hl0 := hl
  obtain ⟨⟨nn, hC⟩, hM, hkn, hB, hV⟩ := hl0
  have hv1 : vp_in (nI (5 * t) + 1) n := by rw [show nI (5 * t) + 1 = nI (5 * t + 1) from nI_add _ 1]; exact nI_in (by omega) (by omega)
  have hv2 : vp_in (nI (5 * t) + 2) n := by rw [show nI (5 * t) + 2 = nI (5 * t + 2) from nI_add _ 2]; exact nI_in (by omega) (by omega)
  have hv3 : vp_in (nI (5 * t) + 3) n := by rw [show nI (5 * t) + 3 = nI (5 * t + 3) from nI_add _ 3]; exact nI_in (by omega) (by omega)
  have hv4 : vp_in (nI (5 * t) + 4) n := by rw [show nI (5 * t) + 4 = nI (5 * t + 4) from nI_add _ 4]; exact nI_in (by omega) (by omega)
  refine y_aload1 (q := 425) C 0 rfl rfl ?_
  refine y_aload0 (q := 426) C 1 rfl rfl ?_
  refine y_iload4 (q := 428) C 2 rfl rfl ?_
  refine x_iconst (q := 429) C 3 (n := (1)) (v := (1)) rfl rfl rfl ?_
  refine x_iadd (q := 430) C 4 rfl rfl ?_
  refine x_sld (q := 431) C hS0 5 rfl rfl hv1 ?_
  refine y_aload0 (q := 432) C 6 rfl rfl ?_
  refine y_iload4 (q := 434) C 7 rfl rfl ?_
  refine x_iconst (q := 435) C 8 (n := (2)) (v := (2)) rfl rfl rfl ?_
  refine x_iadd (q := 436) C 9 rfl rfl ?_
  refine x_sld (q := 437) C hS0 10 rfl rfl hv2 ?_
  refine y_aload0 (q := 438) C 11 rfl rfl ?_
  refine y_iload4 (q := 440) C 12 rfl rfl ?_
  refine x_iconst (q := 441) C 13 (n := (3)) (v := (3)) rfl rfl rfl ?_
  refine x_iadd (q := 442) C 14 rfl rfl ?_
  refine x_sld (q := 443) C hS0 15 rfl rfl hv3 ?_
  refine y_aload3 (q := 444) C 16 rfl rfl ?_
  refine z_T5 (q := 447) (bc' := bc + 57) (bs' := bs + 3582) C 17 rfl rfl ml_RL_129 cd_L_takeStep (by decide) (Nat.le_of_ble_eq_true rfl) (by omega) (by omega) (by rw [hGF]; decide) (by intro i h; cases List.mem_singleton.mp h; exact aj_no.of rfl) (s_L_takeStep hC hB (by decide) (hl.noL (by decide)) hx.2.1 hx.2.2 (vR.of hl) ?_)
  intro k1 I1 J1 hR1 hc1 ha1
  subst hc1
  show aj_X G 447 _ _ _ _ _ _ _ _ _
  have hv := hl.vC hR1
  have hu := hx.cv hR1
  show aj_X G 447 _ _ _ _ _ _ _ _ _
  refine y_istore5 (q := 449) C 18 rfl rfl (Nat.le_of_ble_eq_true rfl) rfl ?_
  refine y_aload2 (q := 450) C 19 rfl rfl ?_
  refine y_aload0 (q := 451) C 20 rfl rfl ?_
  refine y_iload4 (q := 453) C 21 rfl rfl ?_
  refine x_iconst (q := 454) C 22 (n := (1)) (v := (1)) rfl rfl rfl ?_
  refine x_iadd (q := 455) C 23 rfl rfl ?_
  refine x_sld (q := 456) C hS0 24 rfl rfl hv1 ?_
  refine y_aload0 (q := 457) C 25 rfl rfl ?_
  refine y_iload4 (q := 459) C 26 rfl rfl ?_
  refine x_iconst (q := 460) C 27 (n := (2)) (v := (2)) rfl rfl rfl ?_
  refine x_iadd (q := 461) C 28 rfl rfl ?_
  refine x_sld (q := 462) C hS0 29 rfl rfl hv2 ?_
  refine y_aload0 (q := 463) C 30 rfl rfl ?_
  refine y_iload4 (q := 465) C 31 rfl rfl ?_
  refine x_iconst (q := 466) C 32 (n := (3)) (v := (3)) rfl rfl rfl ?_
  refine x_iadd (q := 467) C 33 rfl rfl ?_
  refine x_sld (q := 468) C hS0 34 rfl rfl hv3 ?_
  refine z_V3 (q := 471) (bc' := bc + 57) (bs' := bs + 3582) C 35 rfl rfl ml_RL_131 cd_X5_takeStep cv_X5_takeStep ⟨by decide, rfl⟩ (by decide) (by decide) (Nat.le_of_ble_eq_true rfl) (by omega) (by omega) aj_f0 aj_f0 (s_X5_takeStep (hl.MC hR1) hB ?_)
  intro k2 I2 J2 hR2 hc2 ha2
  show aj_X G 471 _ _ _ _ _ _ _ _ _
  try rw [hv] at hR2
  try rw [hu] at hR2
  try rw [hv] at hc2
  try rw [hu] at hc2
  try rw [hv] at ha2
  try rw [hu] at ha2
  have hl2 := hl.bc hR1 hR2
  have hx2 := hx.bc hB hR1 hR2
  show aj_X G 471 _ _ _ _ _ _ _ _ _
  refine y_istore6 (q := 473) C 36 rfl rfl (Nat.le_of_ble_eq_true rfl) rfl ?_
  refine x_goto (t := 1657) C 37 rfl (by decide) ?_
  refine aj_bud (bc' := bc) (bs' := bs) (by omega) (by omega) (aj_fg (kk _ _ _ _ hl2 hx2))
set_option maxRecDepth 100000 in
set_option maxHeartbeats 2000000 in
theorem lc_5 {G : aj_G} {I : Nat → Nat → Int32} {J : Nat → Nat → Int64} {V : Nat → Nat → Option Nat} {N : Nat → Nat} {n t bc bs : Nat} {xs : Nat → Int32} (C : aj_C G code t_law_5 RL room_1 7) (hS0 : lS G n xs) (hGL : gL G = []) (hGF : gF G = lGF) (hl : lI I V N) (hx : lX I V) (ht : 5 * t + 5 ≤ n) (hn : n ≤ 320)
    (kk : ∀ I1 J1 V1 N1, lI I1 V1 N1 → lX I1 V1 → aj_X G 1657 [some (.ref 8), some (.ref 20), some (.ref 22), some (.ref 21), some (.int (nI (5 * t))), none, none] [] I1 J1 V1 N1 aj_LL bc bs) : aj_X G 476 [some (.ref 8), some (.ref 20), some (.ref 22), some (.ref 21), some (.int (nI (5 * t))), none, none] [] I J V N aj_LL (bc + 60) (bs + 3600) := by
  have hl0 := hl
  obtain ⟨⟨nn, hC⟩, hM, hkn, hB, hV⟩ := hl0
  have hv1 : vp_in (nI (5 * t) + 1) n := by rw [show nI (5 * t) + 1 = nI (5 * t + 1) from nI_add _ 1]; exact nI_in (by omega) (by omega)
  have hv2 : vp_in (nI (5 * t) + 2) n := by rw [show nI (5 * t) + 2 = nI (5 * t + 2) from nI_add _ 2]; exact nI_in (by omega) (by omega)
  have hv3 : vp_in (nI (5 * t) + 3) n := by rw [show nI (5 * t) + 3 = nI (5 * t + 3) from nI_add _ 3]; exact nI_in (by omega) (by omega)
  have hv4 : vp_in (nI (5 * t) + 4) n := by rw [show nI (5 * t) + 4 = nI (5 * t + 4) from nI_add _ 4]; exact nI_in (by omega) (by omega)
  refine y_aload1 (q := 477) C 0 rfl rfl ?_
  refine y_aload0 (q := 478) C 1 rfl rfl ?_
  refine y_iload4 (q := 480) C 2 rfl rfl ?_
  refine x_iconst (q := 481) C 3 (n := (1)) (v := (1)) rfl rfl rfl ?_
  refine x_iadd (q := 482) C 4 rfl rfl ?_
  refine x_sld (q := 483) C hS0 5 rfl rfl hv1 ?_
  refine x_if_eq (q := 486) (t := 490) C 6 rfl (by decide) rfl (fun c1 => ?_) (fun c1 => ?_)
  · skip
    refine x_iconst (q := 491) C 9 (n := (0)) (v := (0)) rfl rfl rfl ?_
    refine z_V1 (q := 494) (bc' := bc + 60) (bs' := bs + 3600) C 10 rfl rfl ml_RL_132 cd_X3_sortSteps cv_X3_sortSteps ⟨by decide, rfl⟩ (by decide) (by decide) (Nat.le_of_ble_eq_true rfl) (by omega) (by omega) aj_f0 aj_f0 (s_X3_sortSteps (b := false) hx.2.1 hB ?_)
    intro V1 k1 b1 b2 b3 hsr hr1
    show aj_X G 494 _ _ _ _ _ _ _ _ _
    have hl1 := (hl.c (cR.u20 hC (k := 6) (x := I 20 6 + 1) (by decide))).so b1 b2 (fun j hj => ⟨_, (b3 j hj).trans (vcV hB hj), vcM hB hj⟩)
    refine lNorm hl1.n8 ?_
    show aj_X G 494 _ _ _ _ _ _ _ _ _
    refine x_pop (q := 495) C 11 rfl rfl rfl ?_
    refine y_aload2 (q := 496) C 12 rfl rfl ?_
    refine y_aload0 (q := 497) C 13 rfl rfl ?_
    refine y_iload4 (q := 499) C 14 rfl rfl ?_
    refine x_iconst (q := 500) C 15 (n := (1)) (v := (1)) rfl rfl rfl ?_
    refine x_iadd (q := 501) C 16 rfl rfl ?_
    refine x_sld (q := 502) C hS0 17 rfl rfl hv1 ?_
    refine x_if_eq (q := 505) (t := 509) C 18 rfl (by decide) rfl (fun c2 => ?_) (fun c2 => ?_)
    · skip
      refine x_iconst (q := 510) C 21 (n := (0)) (v := (0)) rfl rfl rfl ?_
      refine z_V1 (q := 513) (bc' := bc + 55) (bs' := bs + 3560) C 22 rfl rfl ml_RL_136 cd_X5_sortSteps cv_X5_sortSteps ⟨by decide, rfl⟩ (by decide) (by decide) (Nat.le_of_ble_eq_true rfl) (by omega) (by omega) (by rw [hGF]; decide) (by intro i h; simp only [List.mem_cons, List.not_mem_nil, or_false] at h; rcases h with rfl | rfl | rfl | rfl | rfl <;> exact aj_no.of rfl) (s_X5_sortSteps (b := false) hl1.2.1 (by rw [show cV (aj_u I 20 6 (I 20 6 + 1)) = cW I V from (cV_rw (aj_u_o _ _ (by decide)) (aj_u_o _ _ (by decide)) (aj_u_o _ _ (by decide))).trans hx.1]; exact hx.ok hB) (by decide) (fun i j x hx => hl1.no (by revert x hx; decide) i j) hl1.2.2.2.1 ?_)
      intro k2 I2 J2 hR2 hJ2 hr2 hs2
      show aj_X G 513 _ _ _ _ _ _ _ _ _
      have hl2 := hl1.s hR2
      have hx2 := hx.bs hB hsr (fun i hi => aj_u_o _ _ (by revert i hi; decide)) hR2.1 hr2
      refine aj_dropX (X := [232]) hGL ?_
      refine aj_dropX (X := [57]) hGL ?_
      refine aj_dropX (X := [216]) hGL ?_
      refine aj_dropX (X := [200]) hGL ?_
      refine aj_dropX (X := [184]) hGL ?_
      show aj_X G 513 _ _ _ _ _ _ _ _ _
      refine x_pop (q := 514) C 23 rfl rfl rfl ?_
      refine x_goto (t := 1657) C 24 rfl (by decide) ?_
      refine aj_bud (bc' := bc) (bs' := bs) (by omega) (by omega) (aj_fg (kk _ _ _ _ hl2 hx2))
    · skip
      exact absurd (by assumption) c2
  · skip
    refine x_iconst (q := 487) C 7 (n := (1)) (v := (1)) rfl rfl rfl ?_
    refine x_goto (t := 491) C 8 rfl (by decide) ?_
    refine z_V1 (q := 494) (bc' := bc + 60) (bs' := bs + 3600) C 10 rfl rfl ml_RL_132 cd_X3_sortSteps cv_X3_sortSteps ⟨by decide, rfl⟩ (by decide) (by decide) (Nat.le_of_ble_eq_true rfl) (by omega) (by omega) aj_f0 aj_f0 (s_X3_sortSteps (b := true) hx.2.1 hB ?_)
    intro V1 k1 b1 b2 b3 hsr hr1
    show aj_X G 494 _ _ _ _ _ _ _ _ _
    have hl1 := (hl.c (cR.u20 hC (k := 6) (x := I 20 6 + 1) (by decide))).so b1 b2 (fun j hj => ⟨_, (b3 j hj).trans (vcV hB hj), vcM hB hj⟩)
    refine lNorm hl1.n8 ?_
    show aj_X G 494 _ _ _ _ _ _ _ _ _
    refine x_pop (q := 495) C 11 rfl rfl rfl ?_
    refine y_aload2 (q := 496) C 12 rfl rfl ?_
    refine y_aload0 (q := 497) C 13 rfl rfl ?_
    refine y_iload4 (q := 499) C 14 rfl rfl ?_
    refine x_iconst (q := 500) C 15 (n := (1)) (v := (1)) rfl rfl rfl ?_
    refine x_iadd (q := 501) C 16 rfl rfl ?_
    refine x_sld (q := 502) C hS0 17 rfl rfl hv1 ?_
    refine x_if_eq (q := 505) (t := 509) C 18 rfl (by decide) rfl (fun c3 => ?_) (fun c3 => ?_)
    · skip
      exact absurd c3 (by assumption)
    · skip
      refine x_iconst (q := 506) C 19 (n := (1)) (v := (1)) rfl rfl rfl ?_
      refine x_goto (t := 510) C 20 rfl (by decide) ?_
      refine z_V1 (q := 513) (bc' := bc + 55) (bs' := bs + 3560) C 22 rfl rfl ml_RL_136 cd_X5_sortSteps cv_X5_sortSteps ⟨by decide, rfl⟩ (by decide) (by decide) (Nat.le_of_ble_eq_true rfl) (by omega) (by omega) (by rw [hGF]; decide) (by intro i h; simp only [List.mem_cons, List.not_mem_nil, or_false] at h; rcases h with rfl | rfl | rfl | rfl | rfl <;> exact aj_no.of rfl) (s_X5_sortSteps (b := true) hl1.2.1 (by rw [show cV (aj_u I 20 6 (I 20 6 + 1)) = cW I V from (cV_rw (aj_u_o _ _ (by decide)) (aj_u_o _ _ (by decide)) (aj_u_o _ _ (by decide))).trans hx.1]; exact hx.ok hB) (by decide) (fun i j x hx => hl1.no (by revert x hx; decide) i j) hl1.2.2.2.1 ?_)
      intro k2 I2 J2 hR2 hJ2 hr2 hs2
      show aj_X G 513 _ _ _ _ _ _ _ _ _
      have hl2 := hl1.s hR2
      have hx2 := hx.bs hB hsr (fun i hi => aj_u_o _ _ (by revert i hi; decide)) hR2.1 hr2
      refine aj_dropX (X := [232]) hGL ?_
      refine aj_dropX (X := [57]) hGL ?_
      refine aj_dropX (X := [216]) hGL ?_
      refine aj_dropX (X := [200]) hGL ?_
      refine aj_dropX (X := [184]) hGL ?_
      show aj_X G 513 _ _ _ _ _ _ _ _ _
      refine x_pop (q := 514) C 23 rfl rfl rfl ?_
      refine x_goto (t := 1657) C 24 rfl (by decide) ?_
      refine aj_bud (bc' := bc) (bs' := bs) (by omega) (by omega) (aj_fg (kk _ _ _ _ hl2 hx2))
set_option maxRecDepth 100000 in
set_option maxHeartbeats 2000000 in
theorem lc_6 {G : aj_G} {I : Nat → Nat → Int32} {J : Nat → Nat → Int64} {V : Nat → Nat → Option Nat} {N : Nat → Nat} {n t bc bs : Nat} {xs : Nat → Int32} (C : aj_C G code t_law_6 RL room_1 7) (hS0 : lS G n xs) (hGL : gL G = []) (hGF : gF G = lGF) (hl : lI I V N) (hx : lX I V) (ht : 5 * t + 5 ≤ n) (hn : n ≤ 320)
    (kk : ∀ I1 J1 V1 N1, lI I1 V1 N1 → lX I1 V1 → aj_X G 1657 [some (.ref 8), some (.ref 20), some (.ref 22), some (.ref 21), some (.int (nI (5 * t))), none, none] [] I1 J1 V1 N1 aj_LL bc bs) : aj_X G 517 [some (.ref 8), some (.ref 20), some (.ref 22), some (.ref 21), some (.int (nI (5 * t))), none, none] [] I J V N aj_LL (bc + 60) (bs + 3600) := by
  have hl0 := hl
  obtain ⟨⟨nn, hC⟩, hM, hkn, hB, hV⟩ := hl0
  have hv1 : vp_in (nI (5 * t) + 1) n := by rw [show nI (5 * t) + 1 = nI (5 * t + 1) from nI_add _ 1]; exact nI_in (by omega) (by omega)
  have hv2 : vp_in (nI (5 * t) + 2) n := by rw [show nI (5 * t) + 2 = nI (5 * t + 2) from nI_add _ 2]; exact nI_in (by omega) (by omega)
  have hv3 : vp_in (nI (5 * t) + 3) n := by rw [show nI (5 * t) + 3 = nI (5 * t + 3) from nI_add _ 3]; exact nI_in (by omega) (by omega)
  have hv4 : vp_in (nI (5 * t) + 4) n := by rw [show nI (5 * t) + 4 = nI (5 * t + 4) from nI_add _ 4]; exact nI_in (by omega) (by omega)
  refine y_aload1 (q := 518) C 0 rfl rfl ?_
  refine y_aload0 (q := 519) C 1 rfl rfl ?_
  refine y_iload4 (q := 521) C 2 rfl rfl ?_
  refine x_iconst (q := 522) C 3 (n := (1)) (v := (1)) rfl rfl rfl ?_
  refine x_iadd (q := 523) C 4 rfl rfl ?_
  refine x_sld (q := 524) C hS0 5 rfl rfl hv1 ?_
  refine y_aload3 (q := 525) C 6 rfl rfl ?_
  refine z_T3 (q := 528) (bc' := bc + 59) (bs' := bs + 3594) C 7 rfl rfl ml_RL_137 cd_L_across (by decide) (Nat.le_of_ble_eq_true rfl) (by omega) (by omega) (by rw [hGF]; decide) (by intro i h; cases List.mem_singleton.mp h; exact aj_no.of rfl) (s_L_across hC hB (by decide) (hl.noL (by decide)) hx.2.1 ?_)
  intro k1 I1 J1 hR1 hc1 ha1
  subst hc1
  show aj_X G 528 _ _ _ _ _ _ _ _ _
  have hv := hl.vc hR1
  have hu := hx.rv hR1
  have hl1 := hl.c hR1
  have hx1 := hx.e hB hR1.1 (by decide)
  show aj_X G 528 _ _ _ _ _ _ _ _ _
  refine y_istore5 (q := 530) C 8 rfl rfl (Nat.le_of_ble_eq_true rfl) rfl ?_
  refine y_aload2 (q := 531) C 9 rfl rfl ?_
  refine y_aload0 (q := 532) C 10 rfl rfl ?_
  refine y_iload4 (q := 534) C 11 rfl rfl ?_
  refine x_iconst (q := 535) C 12 (n := (1)) (v := (1)) rfl rfl rfl ?_
  refine x_iadd (q := 536) C 13 rfl rfl ?_
  refine x_sld (q := 537) C hS0 14 rfl rfl hv1 ?_
  refine z_V1 (q := 540) (bc' := bc + 59) (bs' := bs + 3594) C 15 rfl rfl ml_RL_140 cd_X5_across cv_X5_across ⟨by decide, rfl⟩ (by decide) (by decide) (Nat.le_of_ble_eq_true rfl) (by omega) (by omega) aj_f0 aj_f0 (s_X5_across hl1.2.1 hl1.2.2.2.1 ?_)
  intro k2 I2 J2 hR2 hc2 ha2
  show aj_X G 540 _ _ _ _ _ _ _ _ _
  try rw [hv] at hc2
  try rw [hu] at hc2
  try rw [hv] at ha2
  try rw [hu] at ha2
  have hl2 := hl1.m hR2
  have hx2 := hx1.e hB hR2.1 (by decide)
  show aj_X G 540 _ _ _ _ _ _ _ _ _
  refine y_istore6 (q := 542) C 16 rfl rfl (Nat.le_of_ble_eq_true rfl) rfl ?_
  refine x_goto (t := 1657) C 17 rfl (by decide) ?_
  refine aj_bud (bc' := bc) (bs' := bs) (by omega) (by omega) (aj_fg (kk _ _ _ _ hl2 hx2))
set_option maxRecDepth 100000 in
set_option maxHeartbeats 2000000 in
theorem lc_7 {G : aj_G} {I : Nat → Nat → Int32} {J : Nat → Nat → Int64} {V : Nat → Nat → Option Nat} {N : Nat → Nat} {n t bc bs : Nat} {xs : Nat → Int32} (C : aj_C G code t_law_7 RL room_1 7) (hS0 : lS G n xs) (hGL : gL G = []) (hGF : gF G = lGF) (hl : lI I V N) (hx : lX I V) (ht : 5 * t + 5 ≤ n) (hn : n ≤ 320)
    (kk : ∀ I1 J1 V1 N1, lI I1 V1 N1 → lX I1 V1 → aj_X G 1657 [some (.ref 8), some (.ref 20), some (.ref 22), some (.ref 21), some (.int (nI (5 * t))), none, none] [] I1 J1 V1 N1 aj_LL bc bs) : aj_X G 545 [some (.ref 8), some (.ref 20), some (.ref 22), some (.ref 21), some (.int (nI (5 * t))), none, none] [] I J V N aj_LL (bc + 60) (bs + 3600) := by
  have hl0 := hl
  obtain ⟨⟨nn, hC⟩, hM, hkn, hB, hV⟩ := hl0
  have hv1 : vp_in (nI (5 * t) + 1) n := by rw [show nI (5 * t) + 1 = nI (5 * t + 1) from nI_add _ 1]; exact nI_in (by omega) (by omega)
  have hv2 : vp_in (nI (5 * t) + 2) n := by rw [show nI (5 * t) + 2 = nI (5 * t + 2) from nI_add _ 2]; exact nI_in (by omega) (by omega)
  have hv3 : vp_in (nI (5 * t) + 3) n := by rw [show nI (5 * t) + 3 = nI (5 * t + 3) from nI_add _ 3]; exact nI_in (by omega) (by omega)
  have hv4 : vp_in (nI (5 * t) + 4) n := by rw [show nI (5 * t) + 4 = nI (5 * t + 4) from nI_add _ 4]; exact nI_in (by omega) (by omega)
  refine y_aload1 (q := 546) C 0 rfl rfl ?_
  refine y_aload0 (q := 547) C 1 rfl rfl ?_
  refine y_iload4 (q := 549) C 2 rfl rfl ?_
  refine x_iconst (q := 550) C 3 (n := (1)) (v := (1)) rfl rfl rfl ?_
  refine x_iadd (q := 551) C 4 rfl rfl ?_
  refine x_sld (q := 552) C hS0 5 rfl rfl hv1 ?_
  refine y_aload3 (q := 553) C 6 rfl rfl ?_
  refine z_T3 (q := 556) (bc' := bc + 59) (bs' := bs + 3594) C 7 rfl rfl ml_RL_141 cd_L_up (by decide) (Nat.le_of_ble_eq_true rfl) (by omega) (by omega) (by rw [hGF]; decide) (by intro i h; cases List.mem_singleton.mp h; exact aj_no.of rfl) (s_L_up hC hB (by decide) (hl.noL (by decide)) hx.2.1 ?_)
  intro k1 I1 J1 hR1 hc1 ha1
  subst hc1
  show aj_X G 556 _ _ _ _ _ _ _ _ _
  have hv := hl.vc hR1
  have hu := hx.rv hR1
  have hl1 := hl.c hR1
  have hx1 := hx.e hB hR1.1 (by decide)
  show aj_X G 556 _ _ _ _ _ _ _ _ _
  refine y_istore5 (q := 558) C 8 rfl rfl (Nat.le_of_ble_eq_true rfl) rfl ?_
  refine y_aload2 (q := 559) C 9 rfl rfl ?_
  refine y_aload0 (q := 560) C 10 rfl rfl ?_
  refine y_iload4 (q := 562) C 11 rfl rfl ?_
  refine x_iconst (q := 563) C 12 (n := (1)) (v := (1)) rfl rfl rfl ?_
  refine x_iadd (q := 564) C 13 rfl rfl ?_
  refine x_sld (q := 565) C hS0 14 rfl rfl hv1 ?_
  refine z_V1 (q := 568) (bc' := bc + 59) (bs' := bs + 3594) C 15 rfl rfl ml_RL_143 cd_X5_up cv_X5_up ⟨by decide, rfl⟩ (by decide) (by decide) (Nat.le_of_ble_eq_true rfl) (by omega) (by omega) aj_f0 aj_f0 (s_X5_up hl1.2.1 hl1.2.2.2.1 ?_)
  intro k2 I2 J2 hR2 hc2 ha2
  show aj_X G 568 _ _ _ _ _ _ _ _ _
  try rw [hv] at hc2
  try rw [hu] at hc2
  try rw [hv] at ha2
  try rw [hu] at ha2
  have hl2 := hl1.m hR2
  have hx2 := hx1.e hB hR2.1 (by decide)
  show aj_X G 568 _ _ _ _ _ _ _ _ _
  refine y_istore6 (q := 570) C 16 rfl rfl (Nat.le_of_ble_eq_true rfl) rfl ?_
  refine x_goto (t := 1657) C 17 rfl (by decide) ?_
  refine aj_bud (bc' := bc) (bs' := bs) (by omega) (by omega) (aj_fg (kk _ _ _ _ hl2 hx2))
set_option maxRecDepth 100000 in
set_option maxHeartbeats 2000000 in
theorem lc_8 {G : aj_G} {I : Nat → Nat → Int32} {J : Nat → Nat → Int64} {V : Nat → Nat → Option Nat} {N : Nat → Nat} {n t bc bs : Nat} {xs : Nat → Int32} (C : aj_C G code t_law_8 RL room_1 7) (hS0 : lS G n xs) (hGL : gL G = []) (hGF : gF G = lGF) (hl : lI I V N) (hx : lX I V) (ht : 5 * t + 5 ≤ n) (hn : n ≤ 320)
    (kk : ∀ I1 J1 V1 N1, lI I1 V1 N1 → lX I1 V1 → aj_X G 1657 [some (.ref 8), some (.ref 20), some (.ref 22), some (.ref 21), some (.int (nI (5 * t))), none, none] [] I1 J1 V1 N1 aj_LL bc bs) : aj_X G 573 [some (.ref 8), some (.ref 20), some (.ref 22), some (.ref 21), some (.int (nI (5 * t))), none, none] [] I J V N aj_LL (bc + 60) (bs + 3600) := by
  have hl0 := hl
  obtain ⟨⟨nn, hC⟩, hM, hkn, hB, hV⟩ := hl0
  have hv1 : vp_in (nI (5 * t) + 1) n := by rw [show nI (5 * t) + 1 = nI (5 * t + 1) from nI_add _ 1]; exact nI_in (by omega) (by omega)
  have hv2 : vp_in (nI (5 * t) + 2) n := by rw [show nI (5 * t) + 2 = nI (5 * t + 2) from nI_add _ 2]; exact nI_in (by omega) (by omega)
  have hv3 : vp_in (nI (5 * t) + 3) n := by rw [show nI (5 * t) + 3 = nI (5 * t + 3) from nI_add _ 3]; exact nI_in (by omega) (by omega)
  have hv4 : vp_in (nI (5 * t) + 4) n := by rw [show nI (5 * t) + 4 = nI (5 * t + 4) from nI_add _ 4]; exact nI_in (by omega) (by omega)
  refine y_aload1 (q := 574) C 0 rfl rfl ?_
  refine y_aload0 (q := 575) C 1 rfl rfl ?_
  refine y_iload4 (q := 577) C 2 rfl rfl ?_
  refine x_iconst (q := 578) C 3 (n := (1)) (v := (1)) rfl rfl rfl ?_
  refine x_iadd (q := 579) C 4 rfl rfl ?_
  refine x_sld (q := 580) C hS0 5 rfl rfl hv1 ?_
  refine y_aload3 (q := 581) C 6 rfl rfl ?_
  refine z_T3 (q := 584) (bc' := bc + 59) (bs' := bs + 3594) C 7 rfl rfl ml_RL_144 cd_L_signs (by decide) (Nat.le_of_ble_eq_true rfl) (by omega) (by omega) (by rw [hGF]; decide) (by intro i h; cases List.mem_singleton.mp h; exact aj_no.of rfl) (s_L_signs hC hB (by decide) (hl.noL (by decide)) hx.2.1 ?_)
  intro k1 I1 J1 hR1 hc1 ha1
  subst hc1
  show aj_X G 584 _ _ _ _ _ _ _ _ _
  have hv := hl.vc hR1
  have hu := hx.rv hR1
  have hl1 := hl.c hR1
  have hx1 := hx.e hB hR1.1 (by decide)
  show aj_X G 584 _ _ _ _ _ _ _ _ _
  refine y_istore5 (q := 586) C 8 rfl rfl (Nat.le_of_ble_eq_true rfl) rfl ?_
  refine y_aload2 (q := 587) C 9 rfl rfl ?_
  refine y_aload0 (q := 588) C 10 rfl rfl ?_
  refine y_iload4 (q := 590) C 11 rfl rfl ?_
  refine x_iconst (q := 591) C 12 (n := (1)) (v := (1)) rfl rfl rfl ?_
  refine x_iadd (q := 592) C 13 rfl rfl ?_
  refine x_sld (q := 593) C hS0 14 rfl rfl hv1 ?_
  refine z_V1 (q := 596) (bc' := bc + 59) (bs' := bs + 3594) C 15 rfl rfl ml_RL_146 cd_X5_signs cv_X5_signs ⟨by decide, rfl⟩ (by decide) (by decide) (Nat.le_of_ble_eq_true rfl) (by omega) (by omega) aj_f0 aj_f0 (s_X5_signs hl1.2.1 hl1.2.2.2.1 ?_)
  intro k2 I2 J2 hR2 hc2 ha2
  show aj_X G 596 _ _ _ _ _ _ _ _ _
  try rw [hv] at hc2
  try rw [hu] at hc2
  try rw [hv] at ha2
  try rw [hu] at ha2
  have hl2 := hl1.m hR2
  have hx2 := hx1.e hB hR2.1 (by decide)
  show aj_X G 596 _ _ _ _ _ _ _ _ _
  refine y_istore6 (q := 598) C 16 rfl rfl (Nat.le_of_ble_eq_true rfl) rfl ?_
  refine x_goto (t := 1657) C 17 rfl (by decide) ?_
  refine aj_bud (bc' := bc) (bs' := bs) (by omega) (by omega) (aj_fg (kk _ _ _ _ hl2 hx2))
set_option maxRecDepth 100000 in
set_option maxHeartbeats 2000000 in
theorem lc_9 {G : aj_G} {I : Nat → Nat → Int32} {J : Nat → Nat → Int64} {V : Nat → Nat → Option Nat} {N : Nat → Nat} {n t bc bs : Nat} {xs : Nat → Int32} (C : aj_C G code t_law_9 RL room_1 7) (hS0 : lS G n xs) (hGL : gL G = []) (hGF : gF G = lGF) (hl : lI I V N) (hx : lX I V) (ht : 5 * t + 5 ≤ n) (hn : n ≤ 320)
    (kk : ∀ I1 J1 V1 N1, lI I1 V1 N1 → lX I1 V1 → aj_X G 1657 [some (.ref 8), some (.ref 20), some (.ref 22), some (.ref 21), some (.int (nI (5 * t))), none, none] [] I1 J1 V1 N1 aj_LL bc bs) : aj_X G 601 [some (.ref 8), some (.ref 20), some (.ref 22), some (.ref 21), some (.int (nI (5 * t))), none, none] [] I J V N aj_LL (bc + 60) (bs + 3600) := by
  have hl0 := hl
  obtain ⟨⟨nn, hC⟩, hM, hkn, hB, hV⟩ := hl0
  have hv1 : vp_in (nI (5 * t) + 1) n := by rw [show nI (5 * t) + 1 = nI (5 * t + 1) from nI_add _ 1]; exact nI_in (by omega) (by omega)
  have hv2 : vp_in (nI (5 * t) + 2) n := by rw [show nI (5 * t) + 2 = nI (5 * t + 2) from nI_add _ 2]; exact nI_in (by omega) (by omega)
  have hv3 : vp_in (nI (5 * t) + 3) n := by rw [show nI (5 * t) + 3 = nI (5 * t + 3) from nI_add _ 3]; exact nI_in (by omega) (by omega)
  have hv4 : vp_in (nI (5 * t) + 4) n := by rw [show nI (5 * t) + 4 = nI (5 * t + 4) from nI_add _ 4]; exact nI_in (by omega) (by omega)
  refine y_aload1 (q := 602) C 0 rfl rfl ?_
  refine y_aload0 (q := 603) C 1 rfl rfl ?_
  refine y_iload4 (q := 605) C 2 rfl rfl ?_
  refine x_iconst (q := 606) C 3 (n := (1)) (v := (1)) rfl rfl rfl ?_
  refine x_iadd (q := 607) C 4 rfl rfl ?_
  refine x_sld (q := 608) C hS0 5 rfl rfl hv1 ?_
  refine y_aload3 (q := 609) C 6 rfl rfl ?_
  refine z_T3 (q := 612) (bc' := bc + 59) (bs' := bs + 3594) C 7 rfl rfl ml_RL_147 cd_L_upper (by decide) (Nat.le_of_ble_eq_true rfl) (by omega) (by omega) (by rw [hGF]; decide) (by intro i h; cases List.mem_singleton.mp h; exact aj_no.of rfl) (s_L_upper hC hB (by decide) (hl.noL (by decide)) ?_)
  intro k1 I1 J1 hR1
  show aj_X G 612 _ _ _ _ _ _ _ _ _
  have hl1 := hl.c hR1
  have hx1 := hx.e hB hR1.1 (by decide)
  show aj_X G 612 _ _ _ _ _ _ _ _ _
  refine y_istore5 (q := 614) C 8 rfl rfl (Nat.le_of_ble_eq_true rfl) rfl ?_
  refine y_aload2 (q := 615) C 9 rfl rfl ?_
  refine y_aload0 (q := 616) C 10 rfl rfl ?_
  refine y_iload4 (q := 618) C 11 rfl rfl ?_
  refine x_iconst (q := 619) C 12 (n := (1)) (v := (1)) rfl rfl rfl ?_
  refine x_iadd (q := 620) C 13 rfl rfl ?_
  refine x_sld (q := 621) C hS0 14 rfl rfl hv1 ?_
  refine z_V1 (q := 624) (bc' := bc + 59) (bs' := bs + 3594) C 15 rfl rfl ml_RL_149 cd_X5_upper cv_X5_upper ⟨by decide, rfl⟩ (by decide) (by decide) (Nat.le_of_ble_eq_true rfl) (by omega) (by omega) aj_f0 aj_f0 (s_X5_upper hl1.2.1 hl1.2.2.2.1 ?_)
  intro k2 I2 J2 hR2
  show aj_X G 624 _ _ _ _ _ _ _ _ _
  have hl2 := hl1.m hR2
  have hx2 := hx1.e hB hR2.1 (by decide)
  show aj_X G 624 _ _ _ _ _ _ _ _ _
  refine y_istore6 (q := 626) C 16 rfl rfl (Nat.le_of_ble_eq_true rfl) rfl ?_
  refine x_goto (t := 1657) C 17 rfl (by decide) ?_
  refine aj_bud (bc' := bc) (bs' := bs) (by omega) (by omega) (aj_fg (kk _ _ _ _ hl2 hx2))
set_option maxRecDepth 100000 in
set_option maxHeartbeats 2000000 in
theorem lc_10 {G : aj_G} {I : Nat → Nat → Int32} {J : Nat → Nat → Int64} {V : Nat → Nat → Option Nat} {N : Nat → Nat} {n t bc bs : Nat} {xs : Nat → Int32} (C : aj_C G code t_law_10 RL room_1 7) (hS0 : lS G n xs) (hGL : gL G = []) (hGF : gF G = lGF) (hl : lI I V N) (hx : lX I V) (ht : 5 * t + 5 ≤ n) (hn : n ≤ 320)
    (kk : ∀ I1 J1 V1 N1, lI I1 V1 N1 → lX I1 V1 → aj_X G 1657 [some (.ref 8), some (.ref 20), some (.ref 22), some (.ref 21), some (.int (nI (5 * t))), none, none] [] I1 J1 V1 N1 aj_LL bc bs) : aj_X G 629 [some (.ref 8), some (.ref 20), some (.ref 22), some (.ref 21), some (.int (nI (5 * t))), none, none] [] I J V N aj_LL (bc + 60) (bs + 3600) := by
  have hl0 := hl
  obtain ⟨⟨nn, hC⟩, hM, hkn, hB, hV⟩ := hl0
  have hv1 : vp_in (nI (5 * t) + 1) n := by rw [show nI (5 * t) + 1 = nI (5 * t + 1) from nI_add _ 1]; exact nI_in (by omega) (by omega)
  have hv2 : vp_in (nI (5 * t) + 2) n := by rw [show nI (5 * t) + 2 = nI (5 * t + 2) from nI_add _ 2]; exact nI_in (by omega) (by omega)
  have hv3 : vp_in (nI (5 * t) + 3) n := by rw [show nI (5 * t) + 3 = nI (5 * t + 3) from nI_add _ 3]; exact nI_in (by omega) (by omega)
  have hv4 : vp_in (nI (5 * t) + 4) n := by rw [show nI (5 * t) + 4 = nI (5 * t + 4) from nI_add _ 4]; exact nI_in (by omega) (by omega)
  refine y_aload1 (q := 630) C 0 rfl rfl ?_
  refine y_aload0 (q := 631) C 1 rfl rfl ?_
  refine y_iload4 (q := 633) C 2 rfl rfl ?_
  refine x_iconst (q := 634) C 3 (n := (1)) (v := (1)) rfl rfl rfl ?_
  refine x_iadd (q := 635) C 4 rfl rfl ?_
  refine x_sld (q := 636) C hS0 5 rfl rfl hv1 ?_
  refine y_aload3 (q := 637) C 6 rfl rfl ?_
  refine z_T3 (q := 640) (bc' := bc + 59) (bs' := bs + 3594) C 7 rfl rfl ml_RL_150 cd_L_lower (by decide) (Nat.le_of_ble_eq_true rfl) (by omega) (by omega) (by rw [hGF]; decide) (by intro i h; cases List.mem_singleton.mp h; exact aj_no.of rfl) (s_L_lower hC hB (by decide) (hl.noL (by decide)) hx.2.1 ?_)
  intro k1 I1 J1 hR1 hc1 ha1
  subst hc1
  show aj_X G 640 _ _ _ _ _ _ _ _ _
  have hv := hl.vc hR1
  have hu := hx.rv hR1
  have hl1 := hl.c hR1
  have hx1 := hx.e hB hR1.1 (by decide)
  show aj_X G 640 _ _ _ _ _ _ _ _ _
  refine y_istore5 (q := 642) C 8 rfl rfl (Nat.le_of_ble_eq_true rfl) rfl ?_
  refine y_aload2 (q := 643) C 9 rfl rfl ?_
  refine y_aload0 (q := 644) C 10 rfl rfl ?_
  refine y_iload4 (q := 646) C 11 rfl rfl ?_
  refine x_iconst (q := 647) C 12 (n := (1)) (v := (1)) rfl rfl rfl ?_
  refine x_iadd (q := 648) C 13 rfl rfl ?_
  refine x_sld (q := 649) C hS0 14 rfl rfl hv1 ?_
  refine z_V1 (q := 652) (bc' := bc + 59) (bs' := bs + 3594) C 15 rfl rfl ml_RL_152 cd_X5_lower cv_X5_lower ⟨by decide, rfl⟩ (by decide) (by decide) (Nat.le_of_ble_eq_true rfl) (by omega) (by omega) aj_f0 aj_f0 (s_X5_lower hl1.2.1 hl1.2.2.2.1 ?_)
  intro k2 I2 J2 hR2 hc2 ha2
  show aj_X G 652 _ _ _ _ _ _ _ _ _
  try rw [hv] at hc2
  try rw [hu] at hc2
  try rw [hv] at ha2
  try rw [hu] at ha2
  have hl2 := hl1.m hR2
  have hx2 := hx1.e hB hR2.1 (by decide)
  show aj_X G 652 _ _ _ _ _ _ _ _ _
  refine y_istore6 (q := 654) C 16 rfl rfl (Nat.le_of_ble_eq_true rfl) rfl ?_
  refine x_goto (t := 1657) C 17 rfl (by decide) ?_
  refine aj_bud (bc' := bc) (bs' := bs) (by omega) (by omega) (aj_fg (kk _ _ _ _ hl2 hx2))
set_option maxRecDepth 100000 in
set_option maxHeartbeats 2000000 in
theorem lc_11 {G : aj_G} {I : Nat → Nat → Int32} {J : Nat → Nat → Int64} {V : Nat → Nat → Option Nat} {N : Nat → Nat} {n t bc bs : Nat} {xs : Nat → Int32} (C : aj_C G code t_law_11 RL room_1 7) (hS0 : lS G n xs) (hGL : gL G = []) (hGF : gF G = lGF) (hl : lI I V N) (hx : lX I V) (ht : 5 * t + 5 ≤ n) (hn : n ≤ 320)
    (kk : ∀ I1 J1 V1 N1, lI I1 V1 N1 → lX I1 V1 → aj_X G 1657 [some (.ref 8), some (.ref 20), some (.ref 22), some (.ref 21), some (.int (nI (5 * t))), none, none] [] I1 J1 V1 N1 aj_LL bc bs) : aj_X G 657 [some (.ref 8), some (.ref 20), some (.ref 22), some (.ref 21), some (.int (nI (5 * t))), none, none] [] I J V N aj_LL (bc + 60) (bs + 3600) := by
  have hl0 := hl
  obtain ⟨⟨nn, hC⟩, hM, hkn, hB, hV⟩ := hl0
  have hv1 : vp_in (nI (5 * t) + 1) n := by rw [show nI (5 * t) + 1 = nI (5 * t + 1) from nI_add _ 1]; exact nI_in (by omega) (by omega)
  have hv2 : vp_in (nI (5 * t) + 2) n := by rw [show nI (5 * t) + 2 = nI (5 * t + 2) from nI_add _ 2]; exact nI_in (by omega) (by omega)
  have hv3 : vp_in (nI (5 * t) + 3) n := by rw [show nI (5 * t) + 3 = nI (5 * t + 3) from nI_add _ 3]; exact nI_in (by omega) (by omega)
  have hv4 : vp_in (nI (5 * t) + 4) n := by rw [show nI (5 * t) + 4 = nI (5 * t + 4) from nI_add _ 4]; exact nI_in (by omega) (by omega)
  refine y_aload1 (q := 658) C 0 rfl rfl ?_
  refine y_aload0 (q := 659) C 1 rfl rfl ?_
  refine y_iload4 (q := 661) C 2 rfl rfl ?_
  refine x_iconst (q := 662) C 3 (n := (1)) (v := (1)) rfl rfl rfl ?_
  refine x_iadd (q := 663) C 4 rfl rfl ?_
  refine x_sld (q := 664) C hS0 5 rfl rfl hv1 ?_
  refine y_aload0 (q := 665) C 6 rfl rfl ?_
  refine y_iload4 (q := 667) C 7 rfl rfl ?_
  refine x_iconst (q := 668) C 8 (n := (2)) (v := (2)) rfl rfl rfl ?_
  refine x_iadd (q := 669) C 9 rfl rfl ?_
  refine x_sld (q := 670) C hS0 10 rfl rfl hv2 ?_
  refine y_aload3 (q := 671) C 11 rfl rfl ?_
  refine z_T4 (q := 674) (bc' := bc + 58) (bs' := bs + 3588) C 12 rfl rfl ml_RL_153 cd_L_grade (by decide) (Nat.le_of_ble_eq_true rfl) (by omega) (by omega) (by rw [hGF]; decide) (by intro i h; cases List.mem_singleton.mp h; exact aj_no.of rfl) (s_L_grade hC hB (by decide) (hl.noL (by decide)) ?_)
  intro k1 I1 J1 hR1
  show aj_X G 674 _ _ _ _ _ _ _ _ _
  have hl1 := hl.c hR1
  have hx1 := hx.e hB hR1.1 (by decide)
  show aj_X G 674 _ _ _ _ _ _ _ _ _
  refine y_istore5 (q := 676) C 13 rfl rfl (Nat.le_of_ble_eq_true rfl) rfl ?_
  refine y_aload2 (q := 677) C 14 rfl rfl ?_
  refine y_aload0 (q := 678) C 15 rfl rfl ?_
  refine y_iload4 (q := 680) C 16 rfl rfl ?_
  refine x_iconst (q := 681) C 17 (n := (1)) (v := (1)) rfl rfl rfl ?_
  refine x_iadd (q := 682) C 18 rfl rfl ?_
  refine x_sld (q := 683) C hS0 19 rfl rfl hv1 ?_
  refine y_aload0 (q := 684) C 20 rfl rfl ?_
  refine y_iload4 (q := 686) C 21 rfl rfl ?_
  refine x_iconst (q := 687) C 22 (n := (2)) (v := (2)) rfl rfl rfl ?_
  refine x_iadd (q := 688) C 23 rfl rfl ?_
  refine x_sld (q := 689) C hS0 24 rfl rfl hv2 ?_
  refine z_V2 (q := 692) (bc' := bc + 58) (bs' := bs + 3588) C 25 rfl rfl ml_RL_155 cd_X5_grade cv_X5_grade ⟨by decide, rfl⟩ (by decide) (by decide) (Nat.le_of_ble_eq_true rfl) (by omega) (by omega) aj_f0 aj_f0 (s_X5_grade hl1.2.1 hl1.2.2.2.1 ?_)
  intro k2 I2 J2 hR2
  show aj_X G 692 _ _ _ _ _ _ _ _ _
  have hl2 := hl1.m hR2
  have hx2 := hx1.e hB hR2.1 (by decide)
  show aj_X G 692 _ _ _ _ _ _ _ _ _
  refine y_istore6 (q := 694) C 26 rfl rfl (Nat.le_of_ble_eq_true rfl) rfl ?_
  refine x_goto (t := 1657) C 27 rfl (by decide) ?_
  refine aj_bud (bc' := bc) (bs' := bs) (by omega) (by omega) (aj_fg (kk _ _ _ _ hl2 hx2))
set_option maxRecDepth 100000 in
set_option maxHeartbeats 2000000 in
theorem lc_12 {G : aj_G} {I : Nat → Nat → Int32} {J : Nat → Nat → Int64} {V : Nat → Nat → Option Nat} {N : Nat → Nat} {n t bc bs : Nat} {xs : Nat → Int32} (C : aj_C G code t_law_12 RL room_1 7) (hS0 : lS G n xs) (hGL : gL G = []) (hGF : gF G = lGF) (hl : lI I V N) (hx : lX I V) (ht : 5 * t + 5 ≤ n) (hn : n ≤ 320)
    (kk : ∀ I1 J1 V1 N1, lI I1 V1 N1 → lX I1 V1 → aj_X G 1657 [some (.ref 8), some (.ref 20), some (.ref 22), some (.ref 21), some (.int (nI (5 * t))), none, none] [] I1 J1 V1 N1 aj_LL bc bs) : aj_X G 697 [some (.ref 8), some (.ref 20), some (.ref 22), some (.ref 21), some (.int (nI (5 * t))), none, none] [] I J V N aj_LL (bc + 60) (bs + 3600) := by
  have hl0 := hl
  obtain ⟨⟨nn, hC⟩, hM, hkn, hB, hV⟩ := hl0
  have hv1 : vp_in (nI (5 * t) + 1) n := by rw [show nI (5 * t) + 1 = nI (5 * t + 1) from nI_add _ 1]; exact nI_in (by omega) (by omega)
  have hv2 : vp_in (nI (5 * t) + 2) n := by rw [show nI (5 * t) + 2 = nI (5 * t + 2) from nI_add _ 2]; exact nI_in (by omega) (by omega)
  have hv3 : vp_in (nI (5 * t) + 3) n := by rw [show nI (5 * t) + 3 = nI (5 * t + 3) from nI_add _ 3]; exact nI_in (by omega) (by omega)
  have hv4 : vp_in (nI (5 * t) + 4) n := by rw [show nI (5 * t) + 4 = nI (5 * t + 4) from nI_add _ 4]; exact nI_in (by omega) (by omega)
  refine y_aload1 (q := 698) C 0 rfl rfl ?_
  refine y_aload0 (q := 699) C 1 rfl rfl ?_
  refine y_iload4 (q := 701) C 2 rfl rfl ?_
  refine x_iconst (q := 702) C 3 (n := (1)) (v := (1)) rfl rfl rfl ?_
  refine x_iadd (q := 703) C 4 rfl rfl ?_
  refine x_sld (q := 704) C hS0 5 rfl rfl hv1 ?_
  refine y_aload0 (q := 705) C 6 rfl rfl ?_
  refine y_iload4 (q := 707) C 7 rfl rfl ?_
  refine x_iconst (q := 708) C 8 (n := (2)) (v := (2)) rfl rfl rfl ?_
  refine x_iadd (q := 709) C 9 rfl rfl ?_
  refine x_sld (q := 710) C hS0 10 rfl rfl hv2 ?_
  refine y_aload0 (q := 711) C 11 rfl rfl ?_
  refine y_iload4 (q := 713) C 12 rfl rfl ?_
  refine x_iconst (q := 714) C 13 (n := (3)) (v := (3)) rfl rfl rfl ?_
  refine x_iadd (q := 715) C 14 rfl rfl ?_
  refine x_sld (q := 716) C hS0 15 rfl rfl hv3 ?_
  refine y_aload3 (q := 717) C 16 rfl rfl ?_
  refine z_T5 (q := 720) (bc' := bc + 57) (bs' := bs + 3582) C 17 rfl rfl ml_RL_156 cd_L_order (by decide) (Nat.le_of_ble_eq_true rfl) (by omega) (by omega) (by rw [hGF]; decide) (by intro i h; cases List.mem_singleton.mp h; exact aj_no.of rfl) (s_L_order hC hB (by decide) (hl.noL (by decide)) hx.2.1 ?_)
  intro k1 I1 J1 hR1 hc1 ha1
  subst hc1
  show aj_X G 720 _ _ _ _ _ _ _ _ _
  have hv := hl.vc hR1
  have hu := hx.rv hR1
  have hl1 := hl.c hR1
  have hx1 := hx.e hB hR1.1 (by decide)
  show aj_X G 720 _ _ _ _ _ _ _ _ _
  refine y_istore5 (q := 722) C 18 rfl rfl (Nat.le_of_ble_eq_true rfl) rfl ?_
  refine y_aload2 (q := 723) C 19 rfl rfl ?_
  refine y_aload0 (q := 724) C 20 rfl rfl ?_
  refine y_iload4 (q := 726) C 21 rfl rfl ?_
  refine x_iconst (q := 727) C 22 (n := (1)) (v := (1)) rfl rfl rfl ?_
  refine x_iadd (q := 728) C 23 rfl rfl ?_
  refine x_sld (q := 729) C hS0 24 rfl rfl hv1 ?_
  refine y_aload0 (q := 730) C 25 rfl rfl ?_
  refine y_iload4 (q := 732) C 26 rfl rfl ?_
  refine x_iconst (q := 733) C 27 (n := (2)) (v := (2)) rfl rfl rfl ?_
  refine x_iadd (q := 734) C 28 rfl rfl ?_
  refine x_sld (q := 735) C hS0 29 rfl rfl hv2 ?_
  refine y_aload0 (q := 736) C 30 rfl rfl ?_
  refine y_iload4 (q := 738) C 31 rfl rfl ?_
  refine x_iconst (q := 739) C 32 (n := (3)) (v := (3)) rfl rfl rfl ?_
  refine x_iadd (q := 740) C 33 rfl rfl ?_
  refine x_sld (q := 741) C hS0 34 rfl rfl hv3 ?_
  refine z_V3 (q := 744) (bc' := bc + 57) (bs' := bs + 3582) C 35 rfl rfl ml_RL_158 cd_X5_order cv_X5_order ⟨by decide, rfl⟩ (by decide) (by decide) (Nat.le_of_ble_eq_true rfl) (by omega) (by omega) aj_f0 aj_f0 (s_X5_order hl1.2.1 hl1.2.2.2.1 ?_)
  intro k2 I2 J2 hR2 hc2 ha2
  show aj_X G 744 _ _ _ _ _ _ _ _ _
  try rw [hv] at hc2
  try rw [hu] at hc2
  try rw [hv] at ha2
  try rw [hu] at ha2
  have hl2 := hl1.m hR2
  have hx2 := hx1.e hB hR2.1 (by decide)
  show aj_X G 744 _ _ _ _ _ _ _ _ _
  refine y_istore6 (q := 746) C 36 rfl rfl (Nat.le_of_ble_eq_true rfl) rfl ?_
  refine x_goto (t := 1657) C 37 rfl (by decide) ?_
  refine aj_bud (bc' := bc) (bs' := bs) (by omega) (by omega) (aj_fg (kk _ _ _ _ hl2 hx2))
set_option maxRecDepth 100000 in
set_option maxHeartbeats 2000000 in
theorem lc_13 {G : aj_G} {I : Nat → Nat → Int32} {J : Nat → Nat → Int64} {V : Nat → Nat → Option Nat} {N : Nat → Nat} {n t bc bs : Nat} {xs : Nat → Int32} (C : aj_C G code t_law_13 RL room_1 7) (hS0 : lS G n xs) (hGL : gL G = []) (hGF : gF G = lGF) (hl : lI I V N) (hx : lX I V) (ht : 5 * t + 5 ≤ n) (hn : n ≤ 320)
    (kk : ∀ I1 J1 V1 N1, lI I1 V1 N1 → lX I1 V1 → aj_X G 1657 [some (.ref 8), some (.ref 20), some (.ref 22), some (.ref 21), some (.int (nI (5 * t))), none, none] [] I1 J1 V1 N1 aj_LL bc bs) : aj_X G 749 [some (.ref 8), some (.ref 20), some (.ref 22), some (.ref 21), some (.int (nI (5 * t))), none, none] [] I J V N aj_LL (bc + 60) (bs + 3600) := by
  have hl0 := hl
  obtain ⟨⟨nn, hC⟩, hM, hkn, hB, hV⟩ := hl0
  have hv1 : vp_in (nI (5 * t) + 1) n := by rw [show nI (5 * t) + 1 = nI (5 * t + 1) from nI_add _ 1]; exact nI_in (by omega) (by omega)
  have hv2 : vp_in (nI (5 * t) + 2) n := by rw [show nI (5 * t) + 2 = nI (5 * t + 2) from nI_add _ 2]; exact nI_in (by omega) (by omega)
  have hv3 : vp_in (nI (5 * t) + 3) n := by rw [show nI (5 * t) + 3 = nI (5 * t + 3) from nI_add _ 3]; exact nI_in (by omega) (by omega)
  have hv4 : vp_in (nI (5 * t) + 4) n := by rw [show nI (5 * t) + 4 = nI (5 * t + 4) from nI_add _ 4]; exact nI_in (by omega) (by omega)
  refine y_aload1 (q := 750) C 0 rfl rfl ?_
  refine y_aload0 (q := 751) C 1 rfl rfl ?_
  refine y_iload4 (q := 753) C 2 rfl rfl ?_
  refine x_iconst (q := 754) C 3 (n := (1)) (v := (1)) rfl rfl rfl ?_
  refine x_iadd (q := 755) C 4 rfl rfl ?_
  refine x_sld (q := 756) C hS0 5 rfl rfl hv1 ?_
  refine y_aload0 (q := 757) C 6 rfl rfl ?_
  refine y_iload4 (q := 759) C 7 rfl rfl ?_
  refine x_iconst (q := 760) C 8 (n := (2)) (v := (2)) rfl rfl rfl ?_
  refine x_iadd (q := 761) C 9 rfl rfl ?_
  refine x_sld (q := 762) C hS0 10 rfl rfl hv2 ?_
  refine y_aload3 (q := 763) C 11 rfl rfl ?_
  refine z_T4 (q := 766) (bc' := bc + 58) (bs' := bs + 3588) C 12 rfl rfl ml_RL_159 cd_L_like (by decide) (Nat.le_of_ble_eq_true rfl) (by omega) (by omega) (by rw [hGF]; decide) (by intro i h; cases List.mem_singleton.mp h; exact aj_no.of rfl) (s_L_like hC hB (by decide) (hl.noL (by decide)) hx.2.1 ?_)
  intro k1 I1 J1 hR1 hc1 ha1
  subst hc1
  show aj_X G 766 _ _ _ _ _ _ _ _ _
  have hv := hl.vc hR1
  have hu := hx.rv hR1
  have hl1 := hl.c hR1
  have hx1 := hx.e hB hR1.1 (by decide)
  show aj_X G 766 _ _ _ _ _ _ _ _ _
  refine y_istore5 (q := 768) C 13 rfl rfl (Nat.le_of_ble_eq_true rfl) rfl ?_
  refine y_aload2 (q := 769) C 14 rfl rfl ?_
  refine y_aload0 (q := 770) C 15 rfl rfl ?_
  refine y_iload4 (q := 772) C 16 rfl rfl ?_
  refine x_iconst (q := 773) C 17 (n := (1)) (v := (1)) rfl rfl rfl ?_
  refine x_iadd (q := 774) C 18 rfl rfl ?_
  refine x_sld (q := 775) C hS0 19 rfl rfl hv1 ?_
  refine y_aload0 (q := 776) C 20 rfl rfl ?_
  refine y_iload4 (q := 778) C 21 rfl rfl ?_
  refine x_iconst (q := 779) C 22 (n := (2)) (v := (2)) rfl rfl rfl ?_
  refine x_iadd (q := 780) C 23 rfl rfl ?_
  refine x_sld (q := 781) C hS0 24 rfl rfl hv2 ?_
  refine z_V2 (q := 784) (bc' := bc + 58) (bs' := bs + 3588) C 25 rfl rfl ml_RL_161 cd_X5_like cv_X5_like ⟨by decide, rfl⟩ (by decide) (by decide) (Nat.le_of_ble_eq_true rfl) (by omega) (by omega) aj_f0 aj_f0 (s_X5_like hl1.2.1 hl1.2.2.2.1 ?_)
  intro k2 I2 J2 hR2 hc2 ha2
  show aj_X G 784 _ _ _ _ _ _ _ _ _
  try rw [hv] at hc2
  try rw [hu] at hc2
  try rw [hv] at ha2
  try rw [hu] at ha2
  have hl2 := hl1.m hR2
  have hx2 := hx1.e hB hR2.1 (by decide)
  show aj_X G 784 _ _ _ _ _ _ _ _ _
  refine y_istore6 (q := 786) C 26 rfl rfl (Nat.le_of_ble_eq_true rfl) rfl ?_
  refine x_goto (t := 1657) C 27 rfl (by decide) ?_
  refine aj_bud (bc' := bc) (bs' := bs) (by omega) (by omega) (aj_fg (kk _ _ _ _ hl2 hx2))
set_option maxRecDepth 100000 in
set_option maxHeartbeats 2000000 in
theorem lc_14 {G : aj_G} {I : Nat → Nat → Int32} {J : Nat → Nat → Int64} {V : Nat → Nat → Option Nat} {N : Nat → Nat} {n t bc bs : Nat} {xs : Nat → Int32} (C : aj_C G code t_law_14 RL room_1 7) (hS0 : lS G n xs) (hGL : gL G = []) (hGF : gF G = lGF) (hl : lI I V N) (hx : lX I V) (ht : 5 * t + 5 ≤ n) (hn : n ≤ 320)
    (kk : ∀ I1 J1 V1 N1, lI I1 V1 N1 → lX I1 V1 → aj_X G 1657 [some (.ref 8), some (.ref 20), some (.ref 22), some (.ref 21), some (.int (nI (5 * t))), none, none] [] I1 J1 V1 N1 aj_LL bc bs) : aj_X G 789 [some (.ref 8), some (.ref 20), some (.ref 22), some (.ref 21), some (.int (nI (5 * t))), none, none] [] I J V N aj_LL (bc + 60) (bs + 3600) := by
  have hl0 := hl
  obtain ⟨⟨nn, hC⟩, hM, hkn, hB, hV⟩ := hl0
  have hv1 : vp_in (nI (5 * t) + 1) n := by rw [show nI (5 * t) + 1 = nI (5 * t + 1) from nI_add _ 1]; exact nI_in (by omega) (by omega)
  have hv2 : vp_in (nI (5 * t) + 2) n := by rw [show nI (5 * t) + 2 = nI (5 * t + 2) from nI_add _ 2]; exact nI_in (by omega) (by omega)
  have hv3 : vp_in (nI (5 * t) + 3) n := by rw [show nI (5 * t) + 3 = nI (5 * t + 3) from nI_add _ 3]; exact nI_in (by omega) (by omega)
  have hv4 : vp_in (nI (5 * t) + 4) n := by rw [show nI (5 * t) + 4 = nI (5 * t + 4) from nI_add _ 4]; exact nI_in (by omega) (by omega)
  refine y_aload1 (q := 790) C 0 rfl rfl ?_
  refine y_aload0 (q := 791) C 1 rfl rfl ?_
  refine y_iload4 (q := 793) C 2 rfl rfl ?_
  refine x_iconst (q := 794) C 3 (n := (1)) (v := (1)) rfl rfl rfl ?_
  refine x_iadd (q := 795) C 4 rfl rfl ?_
  refine x_sld (q := 796) C hS0 5 rfl rfl hv1 ?_
  refine y_aload0 (q := 797) C 6 rfl rfl ?_
  refine y_iload4 (q := 799) C 7 rfl rfl ?_
  refine x_iconst (q := 800) C 8 (n := (2)) (v := (2)) rfl rfl rfl ?_
  refine x_iadd (q := 801) C 9 rfl rfl ?_
  refine x_sld (q := 802) C hS0 10 rfl rfl hv2 ?_
  refine y_aload0 (q := 803) C 11 rfl rfl ?_
  refine y_iload4 (q := 805) C 12 rfl rfl ?_
  refine x_iconst (q := 806) C 13 (n := (3)) (v := (3)) rfl rfl rfl ?_
  refine x_iadd (q := 807) C 14 rfl rfl ?_
  refine x_sld (q := 808) C hS0 15 rfl rfl hv3 ?_
  refine y_aload3 (q := 809) C 16 rfl rfl ?_
  refine z_T5 (q := 812) (bc' := bc + 57) (bs' := bs + 3582) C 17 rfl rfl ml_RL_162 cd_L_same (by decide) (Nat.le_of_ble_eq_true rfl) (by omega) (by omega) (by rw [hGF]; decide) (by intro i h; cases List.mem_singleton.mp h; exact aj_no.of rfl) (s_L_same hC hB (by decide) (hl.noL (by decide)) hx.2.1 ?_)
  intro k1 I1 J1 hR1 hc1 ha1
  subst hc1
  show aj_X G 812 _ _ _ _ _ _ _ _ _
  have hv := hl.vc hR1
  have hu := hx.rv hR1
  have hl1 := hl.c hR1
  have hx1 := hx.e hB hR1.1 (by decide)
  show aj_X G 812 _ _ _ _ _ _ _ _ _
  refine y_istore5 (q := 814) C 18 rfl rfl (Nat.le_of_ble_eq_true rfl) rfl ?_
  refine y_aload2 (q := 815) C 19 rfl rfl ?_
  refine y_aload0 (q := 816) C 20 rfl rfl ?_
  refine y_iload4 (q := 818) C 21 rfl rfl ?_
  refine x_iconst (q := 819) C 22 (n := (1)) (v := (1)) rfl rfl rfl ?_
  refine x_iadd (q := 820) C 23 rfl rfl ?_
  refine x_sld (q := 821) C hS0 24 rfl rfl hv1 ?_
  refine y_aload0 (q := 822) C 25 rfl rfl ?_
  refine y_iload4 (q := 824) C 26 rfl rfl ?_
  refine x_iconst (q := 825) C 27 (n := (2)) (v := (2)) rfl rfl rfl ?_
  refine x_iadd (q := 826) C 28 rfl rfl ?_
  refine x_sld (q := 827) C hS0 29 rfl rfl hv2 ?_
  refine y_aload0 (q := 828) C 30 rfl rfl ?_
  refine y_iload4 (q := 830) C 31 rfl rfl ?_
  refine x_iconst (q := 831) C 32 (n := (3)) (v := (3)) rfl rfl rfl ?_
  refine x_iadd (q := 832) C 33 rfl rfl ?_
  refine x_sld (q := 833) C hS0 34 rfl rfl hv3 ?_
  refine z_V3 (q := 836) (bc' := bc + 57) (bs' := bs + 3582) C 35 rfl rfl ml_RL_164 cd_X5_same cv_X5_same ⟨by decide, rfl⟩ (by decide) (by decide) (Nat.le_of_ble_eq_true rfl) (by omega) (by omega) aj_f0 aj_f0 (s_X5_same hl1.2.1 hl1.2.2.2.1 ?_)
  intro k2 I2 J2 hR2 hc2 ha2
  show aj_X G 836 _ _ _ _ _ _ _ _ _
  try rw [hv] at hc2
  try rw [hu] at hc2
  try rw [hv] at ha2
  try rw [hu] at ha2
  have hl2 := hl1.m hR2
  have hx2 := hx1.e hB hR2.1 (by decide)
  show aj_X G 836 _ _ _ _ _ _ _ _ _
  refine y_istore6 (q := 838) C 36 rfl rfl (Nat.le_of_ble_eq_true rfl) rfl ?_
  refine x_goto (t := 1657) C 37 rfl (by decide) ?_
  refine aj_bud (bc' := bc) (bs' := bs) (by omega) (by omega) (aj_fg (kk _ _ _ _ hl2 hx2))
set_option maxRecDepth 100000 in
set_option maxHeartbeats 2000000 in
theorem lc_15 {G : aj_G} {I : Nat → Nat → Int32} {J : Nat → Nat → Int64} {V : Nat → Nat → Option Nat} {N : Nat → Nat} {n t bc bs : Nat} {xs : Nat → Int32} (C : aj_C G code t_law_15 RL room_1 7) (hS0 : lS G n xs) (hGL : gL G = []) (hGF : gF G = lGF) (hl : lI I V N) (hx : lX I V) (ht : 5 * t + 5 ≤ n) (hn : n ≤ 320)
    (kk : ∀ I1 J1 V1 N1, lI I1 V1 N1 → lX I1 V1 → aj_X G 1657 [some (.ref 8), some (.ref 20), some (.ref 22), some (.ref 21), some (.int (nI (5 * t))), none, none] [] I1 J1 V1 N1 aj_LL bc bs) : aj_X G 841 [some (.ref 8), some (.ref 20), some (.ref 22), some (.ref 21), some (.int (nI (5 * t))), none, none] [] I J V N aj_LL (bc + 60) (bs + 3600) := by
  have hl0 := hl
  obtain ⟨⟨nn, hC⟩, hM, hkn, hB, hV⟩ := hl0
  have hv1 : vp_in (nI (5 * t) + 1) n := by rw [show nI (5 * t) + 1 = nI (5 * t + 1) from nI_add _ 1]; exact nI_in (by omega) (by omega)
  have hv2 : vp_in (nI (5 * t) + 2) n := by rw [show nI (5 * t) + 2 = nI (5 * t + 2) from nI_add _ 2]; exact nI_in (by omega) (by omega)
  have hv3 : vp_in (nI (5 * t) + 3) n := by rw [show nI (5 * t) + 3 = nI (5 * t + 3) from nI_add _ 3]; exact nI_in (by omega) (by omega)
  have hv4 : vp_in (nI (5 * t) + 4) n := by rw [show nI (5 * t) + 4 = nI (5 * t + 4) from nI_add _ 4]; exact nI_in (by omega) (by omega)
  refine y_aload1 (q := 842) C 0 rfl rfl ?_
  refine y_aload0 (q := 843) C 1 rfl rfl ?_
  refine y_iload4 (q := 845) C 2 rfl rfl ?_
  refine x_iconst (q := 846) C 3 (n := (1)) (v := (1)) rfl rfl rfl ?_
  refine x_iadd (q := 847) C 4 rfl rfl ?_
  refine x_sld (q := 848) C hS0 5 rfl rfl hv1 ?_
  refine y_aload0 (q := 849) C 6 rfl rfl ?_
  refine y_iload4 (q := 851) C 7 rfl rfl ?_
  refine x_iconst (q := 852) C 8 (n := (2)) (v := (2)) rfl rfl rfl ?_
  refine x_iadd (q := 853) C 9 rfl rfl ?_
  refine x_sld (q := 854) C hS0 10 rfl rfl hv2 ?_
  refine y_aload3 (q := 855) C 11 rfl rfl ?_
  refine z_T4 (q := 858) (bc' := bc + 58) (bs' := bs + 3588) C 12 rfl rfl ml_RL_165 cd_L_side (by decide) (Nat.le_of_ble_eq_true rfl) (by omega) (by omega) (by rw [hGF]; decide) (by intro i h; cases List.mem_singleton.mp h; exact aj_no.of rfl) (s_L_side hC hB (by decide) (hl.noL (by decide)) hx.2.1 ?_)
  intro k1 I1 J1 hR1 hc1 ha1
  subst hc1
  show aj_X G 858 _ _ _ _ _ _ _ _ _
  have hv := hl.vc hR1
  have hu := hx.rv hR1
  have hl1 := hl.c hR1
  have hx1 := hx.e hB hR1.1 (by decide)
  show aj_X G 858 _ _ _ _ _ _ _ _ _
  refine y_istore5 (q := 860) C 13 rfl rfl (Nat.le_of_ble_eq_true rfl) rfl ?_
  refine y_aload2 (q := 861) C 14 rfl rfl ?_
  refine y_aload0 (q := 862) C 15 rfl rfl ?_
  refine y_iload4 (q := 864) C 16 rfl rfl ?_
  refine x_iconst (q := 865) C 17 (n := (1)) (v := (1)) rfl rfl rfl ?_
  refine x_iadd (q := 866) C 18 rfl rfl ?_
  refine x_sld (q := 867) C hS0 19 rfl rfl hv1 ?_
  refine y_aload0 (q := 868) C 20 rfl rfl ?_
  refine y_iload4 (q := 870) C 21 rfl rfl ?_
  refine x_iconst (q := 871) C 22 (n := (2)) (v := (2)) rfl rfl rfl ?_
  refine x_iadd (q := 872) C 23 rfl rfl ?_
  refine x_sld (q := 873) C hS0 24 rfl rfl hv2 ?_
  refine z_V2 (q := 876) (bc' := bc + 58) (bs' := bs + 3588) C 25 rfl rfl ml_RL_167 cd_X5_side cv_X5_side ⟨by decide, rfl⟩ (by decide) (by decide) (Nat.le_of_ble_eq_true rfl) (by omega) (by omega) aj_f0 aj_f0 (s_X5_side hl1.2.1 hl1.2.2.2.1 ?_)
  intro k2 I2 J2 hR2 hc2 ha2
  show aj_X G 876 _ _ _ _ _ _ _ _ _
  try rw [hv] at hc2
  try rw [hu] at hc2
  try rw [hv] at ha2
  try rw [hu] at ha2
  have hl2 := hl1.m hR2
  have hx2 := hx1.e hB hR2.1 (by decide)
  show aj_X G 876 _ _ _ _ _ _ _ _ _
  refine y_istore6 (q := 878) C 26 rfl rfl (Nat.le_of_ble_eq_true rfl) rfl ?_
  refine x_goto (t := 1657) C 27 rfl (by decide) ?_
  refine aj_bud (bc' := bc) (bs' := bs) (by omega) (by omega) (aj_fg (kk _ _ _ _ hl2 hx2))
set_option maxRecDepth 100000 in
set_option maxHeartbeats 2000000 in
theorem lc_16 {G : aj_G} {I : Nat → Nat → Int32} {J : Nat → Nat → Int64} {V : Nat → Nat → Option Nat} {N : Nat → Nat} {n t bc bs : Nat} {xs : Nat → Int32} (C : aj_C G code t_law_16 RL room_1 7) (hS0 : lS G n xs) (hGL : gL G = []) (hGF : gF G = lGF) (hl : lI I V N) (hx : lX I V) (ht : 5 * t + 5 ≤ n) (hn : n ≤ 320)
    (kk : ∀ I1 J1 V1 N1, lI I1 V1 N1 → lX I1 V1 → aj_X G 1657 [some (.ref 8), some (.ref 20), some (.ref 22), some (.ref 21), some (.int (nI (5 * t))), none, none] [] I1 J1 V1 N1 aj_LL bc bs) : aj_X G 881 [some (.ref 8), some (.ref 20), some (.ref 22), some (.ref 21), some (.int (nI (5 * t))), none, none] [] I J V N aj_LL (bc + 60) (bs + 3600) := by
  have hl0 := hl
  obtain ⟨⟨nn, hC⟩, hM, hkn, hB, hV⟩ := hl0
  have hv1 : vp_in (nI (5 * t) + 1) n := by rw [show nI (5 * t) + 1 = nI (5 * t + 1) from nI_add _ 1]; exact nI_in (by omega) (by omega)
  have hv2 : vp_in (nI (5 * t) + 2) n := by rw [show nI (5 * t) + 2 = nI (5 * t + 2) from nI_add _ 2]; exact nI_in (by omega) (by omega)
  have hv3 : vp_in (nI (5 * t) + 3) n := by rw [show nI (5 * t) + 3 = nI (5 * t + 3) from nI_add _ 3]; exact nI_in (by omega) (by omega)
  have hv4 : vp_in (nI (5 * t) + 4) n := by rw [show nI (5 * t) + 4 = nI (5 * t + 4) from nI_add _ 4]; exact nI_in (by omega) (by omega)
  refine y_aload1 (q := 882) C 0 rfl rfl ?_
  refine y_aload0 (q := 883) C 1 rfl rfl ?_
  refine y_iload4 (q := 885) C 2 rfl rfl ?_
  refine x_iconst (q := 886) C 3 (n := (1)) (v := (1)) rfl rfl rfl ?_
  refine x_iadd (q := 887) C 4 rfl rfl ?_
  refine x_sld (q := 888) C hS0 5 rfl rfl hv1 ?_
  refine y_aload3 (q := 889) C 6 rfl rfl ?_
  refine z_T3 (q := 892) (bc' := bc + 59) (bs' := bs + 3594) C 7 rfl rfl ml_RL_168 cd_L_eighth (by decide) (Nat.le_of_ble_eq_true rfl) (by omega) (by omega) (by rw [hGF]; decide) (by intro i h; cases List.mem_singleton.mp h; exact aj_no.of rfl) (s_L_eighth hC hB (by decide) (hl.noL (by decide)) hx.2.1 ?_)
  intro k1 I1 J1 hR1 hc1 ha1
  subst hc1
  show aj_X G 892 _ _ _ _ _ _ _ _ _
  have hv := hl.vc hR1
  have hu := hx.rv hR1
  have hl1 := hl.c hR1
  have hx1 := hx.e hB hR1.1 (by decide)
  show aj_X G 892 _ _ _ _ _ _ _ _ _
  refine y_istore5 (q := 894) C 8 rfl rfl (Nat.le_of_ble_eq_true rfl) rfl ?_
  refine y_aload2 (q := 895) C 9 rfl rfl ?_
  refine y_aload0 (q := 896) C 10 rfl rfl ?_
  refine y_iload4 (q := 898) C 11 rfl rfl ?_
  refine x_iconst (q := 899) C 12 (n := (1)) (v := (1)) rfl rfl rfl ?_
  refine x_iadd (q := 900) C 13 rfl rfl ?_
  refine x_sld (q := 901) C hS0 14 rfl rfl hv1 ?_
  refine z_V1 (q := 904) (bc' := bc + 59) (bs' := bs + 3594) C 15 rfl rfl ml_RL_170 cd_X5_eighth cv_X5_eighth ⟨by decide, rfl⟩ (by decide) (by decide) (Nat.le_of_ble_eq_true rfl) (by omega) (by omega) aj_f0 aj_f0 (s_X5_eighth hl1.2.1 hl1.2.2.2.1 ?_)
  intro k2 I2 J2 hR2 hc2 ha2
  show aj_X G 904 _ _ _ _ _ _ _ _ _
  try rw [hv] at hc2
  try rw [hu] at hc2
  try rw [hv] at ha2
  try rw [hu] at ha2
  have hl2 := hl1.m hR2
  have hx2 := hx1.e hB hR2.1 (by decide)
  show aj_X G 904 _ _ _ _ _ _ _ _ _
  refine y_istore6 (q := 906) C 16 rfl rfl (Nat.le_of_ble_eq_true rfl) rfl ?_
  refine x_goto (t := 1657) C 17 rfl (by decide) ?_
  refine aj_bud (bc' := bc) (bs' := bs) (by omega) (by omega) (aj_fg (kk _ _ _ _ hl2 hx2))
set_option maxRecDepth 100000 in
set_option maxHeartbeats 2000000 in
theorem lc_17 {G : aj_G} {I : Nat → Nat → Int32} {J : Nat → Nat → Int64} {V : Nat → Nat → Option Nat} {N : Nat → Nat} {n t bc bs : Nat} {xs : Nat → Int32} (C : aj_C G code t_law_17 RL room_1 7) (hS0 : lS G n xs) (hGL : gL G = []) (hGF : gF G = lGF) (hl : lI I V N) (hx : lX I V) (ht : 5 * t + 5 ≤ n) (hn : n ≤ 320)
    (kk : ∀ I1 J1 V1 N1, lI I1 V1 N1 → lX I1 V1 → aj_X G 1657 [some (.ref 8), some (.ref 20), some (.ref 22), some (.ref 21), some (.int (nI (5 * t))), none, none] [] I1 J1 V1 N1 aj_LL bc bs) : aj_X G 909 [some (.ref 8), some (.ref 20), some (.ref 22), some (.ref 21), some (.int (nI (5 * t))), none, none] [] I J V N aj_LL (bc + 60) (bs + 3600) := by
  have hl0 := hl
  obtain ⟨⟨nn, hC⟩, hM, hkn, hB, hV⟩ := hl0
  have hv1 : vp_in (nI (5 * t) + 1) n := by rw [show nI (5 * t) + 1 = nI (5 * t + 1) from nI_add _ 1]; exact nI_in (by omega) (by omega)
  have hv2 : vp_in (nI (5 * t) + 2) n := by rw [show nI (5 * t) + 2 = nI (5 * t + 2) from nI_add _ 2]; exact nI_in (by omega) (by omega)
  have hv3 : vp_in (nI (5 * t) + 3) n := by rw [show nI (5 * t) + 3 = nI (5 * t + 3) from nI_add _ 3]; exact nI_in (by omega) (by omega)
  have hv4 : vp_in (nI (5 * t) + 4) n := by rw [show nI (5 * t) + 4 = nI (5 * t + 4) from nI_add _ 4]; exact nI_in (by omega) (by omega)
  refine y_aload1 (q := 910) C 0 rfl rfl ?_
  refine y_aload0 (q := 911) C 1 rfl rfl ?_
  refine y_iload4 (q := 913) C 2 rfl rfl ?_
  refine x_iconst (q := 914) C 3 (n := (1)) (v := (1)) rfl rfl rfl ?_
  refine x_iadd (q := 915) C 4 rfl rfl ?_
  refine x_sld (q := 916) C hS0 5 rfl rfl hv1 ?_
  refine y_aload0 (q := 917) C 6 rfl rfl ?_
  refine y_iload4 (q := 919) C 7 rfl rfl ?_
  refine x_iconst (q := 920) C 8 (n := (2)) (v := (2)) rfl rfl rfl ?_
  refine x_iadd (q := 921) C 9 rfl rfl ?_
  refine x_sld (q := 922) C hS0 10 rfl rfl hv2 ?_
  refine y_aload3 (q := 923) C 11 rfl rfl ?_
  refine z_T4 (q := 926) (bc' := bc + 58) (bs' := bs + 3588) C 12 rfl rfl ml_RL_171 cd_L_rule (by decide) (Nat.le_of_ble_eq_true rfl) (by omega) (by omega) (by rw [hGF]; decide) (by intro i h; cases List.mem_singleton.mp h; exact aj_no.of rfl) (s_L_rule hC hB (by decide) (hl.noL (by decide)) hx.2.1 ?_)
  intro k1 I1 J1 hR1 hc1 ha1
  subst hc1
  show aj_X G 926 _ _ _ _ _ _ _ _ _
  have hv := hl.vc hR1
  have hu := hx.rv hR1
  have hl1 := hl.c hR1
  have hx1 := hx.e hB hR1.1 (by decide)
  show aj_X G 926 _ _ _ _ _ _ _ _ _
  refine y_istore5 (q := 928) C 13 rfl rfl (Nat.le_of_ble_eq_true rfl) rfl ?_
  refine y_aload2 (q := 929) C 14 rfl rfl ?_
  refine y_aload0 (q := 930) C 15 rfl rfl ?_
  refine y_iload4 (q := 932) C 16 rfl rfl ?_
  refine x_iconst (q := 933) C 17 (n := (1)) (v := (1)) rfl rfl rfl ?_
  refine x_iadd (q := 934) C 18 rfl rfl ?_
  refine x_sld (q := 935) C hS0 19 rfl rfl hv1 ?_
  refine y_aload0 (q := 936) C 20 rfl rfl ?_
  refine y_iload4 (q := 938) C 21 rfl rfl ?_
  refine x_iconst (q := 939) C 22 (n := (2)) (v := (2)) rfl rfl rfl ?_
  refine x_iadd (q := 940) C 23 rfl rfl ?_
  refine x_sld (q := 941) C hS0 24 rfl rfl hv2 ?_
  refine z_V2 (q := 944) (bc' := bc + 58) (bs' := bs + 3588) C 25 rfl rfl ml_RL_173 cd_X5_rule cv_X5_rule ⟨by decide, rfl⟩ (by decide) (by decide) (Nat.le_of_ble_eq_true rfl) (by omega) (by omega) aj_f0 aj_f0 (s_X5_rule hl1.2.1 hl1.2.2.2.1 ?_)
  intro k2 I2 J2 hR2 hc2 ha2
  show aj_X G 944 _ _ _ _ _ _ _ _ _
  try rw [hv] at hc2
  try rw [hu] at hc2
  try rw [hv] at ha2
  try rw [hu] at ha2
  have hl2 := hl1.m hR2
  have hx2 := hx1.e hB hR2.1 (by decide)
  show aj_X G 944 _ _ _ _ _ _ _ _ _
  refine y_istore6 (q := 946) C 26 rfl rfl (Nat.le_of_ble_eq_true rfl) rfl ?_
  refine x_goto (t := 1657) C 27 rfl (by decide) ?_
  refine aj_bud (bc' := bc) (bs' := bs) (by omega) (by omega) (aj_fg (kk _ _ _ _ hl2 hx2))
set_option maxRecDepth 100000 in
set_option maxHeartbeats 2000000 in
theorem lc_18 {G : aj_G} {I : Nat → Nat → Int32} {J : Nat → Nat → Int64} {V : Nat → Nat → Option Nat} {N : Nat → Nat} {n t bc bs : Nat} {xs : Nat → Int32} (C : aj_C G code t_law_18 RL room_1 7) (hS0 : lS G n xs) (hGL : gL G = []) (hGF : gF G = lGF) (hl : lI I V N) (hx : lX I V) (ht : 5 * t + 5 ≤ n) (hn : n ≤ 320)
    (kk : ∀ I1 J1 V1 N1, lI I1 V1 N1 → lX I1 V1 → aj_X G 1657 [some (.ref 8), some (.ref 20), some (.ref 22), some (.ref 21), some (.int (nI (5 * t))), none, none] [] I1 J1 V1 N1 aj_LL bc bs) : aj_X G 949 [some (.ref 8), some (.ref 20), some (.ref 22), some (.ref 21), some (.int (nI (5 * t))), none, none] [] I J V N aj_LL (bc + 60) (bs + 3600) := by
  have hl0 := hl
  obtain ⟨⟨nn, hC⟩, hM, hkn, hB, hV⟩ := hl0
  have hv1 : vp_in (nI (5 * t) + 1) n := by rw [show nI (5 * t) + 1 = nI (5 * t + 1) from nI_add _ 1]; exact nI_in (by omega) (by omega)
  have hv2 : vp_in (nI (5 * t) + 2) n := by rw [show nI (5 * t) + 2 = nI (5 * t + 2) from nI_add _ 2]; exact nI_in (by omega) (by omega)
  have hv3 : vp_in (nI (5 * t) + 3) n := by rw [show nI (5 * t) + 3 = nI (5 * t + 3) from nI_add _ 3]; exact nI_in (by omega) (by omega)
  have hv4 : vp_in (nI (5 * t) + 4) n := by rw [show nI (5 * t) + 4 = nI (5 * t + 4) from nI_add _ 4]; exact nI_in (by omega) (by omega)
  refine y_aload1 (q := 950) C 0 rfl rfl ?_
  refine y_aload0 (q := 951) C 1 rfl rfl ?_
  refine y_iload4 (q := 953) C 2 rfl rfl ?_
  refine x_iconst (q := 954) C 3 (n := (1)) (v := (1)) rfl rfl rfl ?_
  refine x_iadd (q := 955) C 4 rfl rfl ?_
  refine x_sld (q := 956) C hS0 5 rfl rfl hv1 ?_
  refine y_aload0 (q := 957) C 6 rfl rfl ?_
  refine y_iload4 (q := 959) C 7 rfl rfl ?_
  refine x_iconst (q := 960) C 8 (n := (2)) (v := (2)) rfl rfl rfl ?_
  refine x_iadd (q := 961) C 9 rfl rfl ?_
  refine x_sld (q := 962) C hS0 10 rfl rfl hv2 ?_
  refine x_if_eq (q := 965) (t := 969) C 11 rfl (by decide) rfl (fun c1 => ?_) (fun c1 => ?_)
  · skip
    refine x_iconst (q := 970) C 14 (n := (0)) (v := (0)) rfl rfl rfl ?_
    refine y_aload3 (q := 971) C 15 rfl rfl ?_
    refine z_T4 (q := 974) (bc' := bc + 59) (bs' := bs + 3594) C 16 rfl rfl ml_RL_174 cd_L_find (by decide) (Nat.le_of_ble_eq_true rfl) (by omega) (by omega) (by rw [hGF]; decide) (by intro i h; cases List.mem_singleton.mp h; exact aj_no.of rfl) (s_L_find (b := false) hC hB (by decide) (hl.noL (by decide)) hx.2.1 ?_)
    intro k1 I1 J1 hR1 hc1 ha1
    subst hc1
    show aj_X G 974 _ _ _ _ _ _ _ _ _
    have hv := hl.vc hR1
    have hu := hx.rv hR1
    have hl1 := hl.c hR1
    have hx1 := hx.e hB hR1.1 (by decide)
    show aj_X G 974 _ _ _ _ _ _ _ _ _
    refine y_istore5 (q := 976) C 17 rfl rfl (Nat.le_of_ble_eq_true rfl) rfl ?_
    refine y_aload2 (q := 977) C 18 rfl rfl ?_
    refine y_aload0 (q := 978) C 19 rfl rfl ?_
    refine y_iload4 (q := 980) C 20 rfl rfl ?_
    refine x_iconst (q := 981) C 21 (n := (1)) (v := (1)) rfl rfl rfl ?_
    refine x_iadd (q := 982) C 22 rfl rfl ?_
    refine x_sld (q := 983) C hS0 23 rfl rfl hv1 ?_
    refine y_aload0 (q := 984) C 24 rfl rfl ?_
    refine y_iload4 (q := 986) C 25 rfl rfl ?_
    refine x_iconst (q := 987) C 26 (n := (2)) (v := (2)) rfl rfl rfl ?_
    refine x_iadd (q := 988) C 27 rfl rfl ?_
    refine x_sld (q := 989) C hS0 28 rfl rfl hv2 ?_
    refine x_if_eq (q := 992) (t := 996) C 29 rfl (by decide) rfl (fun c2 => ?_) (fun c2 => ?_)
    · skip
      refine x_iconst (q := 997) C 32 (n := (0)) (v := (0)) rfl rfl rfl ?_
      refine z_V2 (q := 1000) (bc' := bc + 59) (bs' := bs + 3594) C 33 rfl rfl ml_RL_177 cd_X5_find cv_X5_find ⟨by decide, rfl⟩ (by decide) (by decide) (Nat.le_of_ble_eq_true rfl) (by omega) (by omega) aj_f0 aj_f0 (s_X5_find (b := false) hl1.2.1 hl1.2.2.2.1 ?_)
      intro k2 I2 J2 hR2 hc2 ha2
      show aj_X G 1000 _ _ _ _ _ _ _ _ _
      try rw [hv] at hc2
      try rw [hu] at hc2
      try rw [hv] at ha2
      try rw [hu] at ha2
      have hl2 := hl1.m hR2
      have hx2 := hx1.e hB hR2.1 (by decide)
      show aj_X G 1000 _ _ _ _ _ _ _ _ _
      refine y_istore6 (q := 1002) C 34 rfl rfl (Nat.le_of_ble_eq_true rfl) rfl ?_
      refine x_goto (t := 1657) C 35 rfl (by decide) ?_
      refine aj_bud (bc' := bc) (bs' := bs) (by omega) (by omega) (aj_fg (kk _ _ _ _ hl2 hx2))
    · skip
      exact absurd (by assumption) c2
  · skip
    refine x_iconst (q := 966) C 12 (n := (1)) (v := (1)) rfl rfl rfl ?_
    refine x_goto (t := 970) C 13 rfl (by decide) ?_
    refine y_aload3 (q := 971) C 15 rfl rfl ?_
    refine z_T4 (q := 974) (bc' := bc + 59) (bs' := bs + 3594) C 16 rfl rfl ml_RL_174 cd_L_find (by decide) (Nat.le_of_ble_eq_true rfl) (by omega) (by omega) (by rw [hGF]; decide) (by intro i h; cases List.mem_singleton.mp h; exact aj_no.of rfl) (s_L_find (b := true) hC hB (by decide) (hl.noL (by decide)) hx.2.1 ?_)
    intro k1 I1 J1 hR1 hc1 ha1
    subst hc1
    show aj_X G 974 _ _ _ _ _ _ _ _ _
    have hv := hl.vc hR1
    have hu := hx.rv hR1
    have hl1 := hl.c hR1
    have hx1 := hx.e hB hR1.1 (by decide)
    show aj_X G 974 _ _ _ _ _ _ _ _ _
    refine y_istore5 (q := 976) C 17 rfl rfl (Nat.le_of_ble_eq_true rfl) rfl ?_
    refine y_aload2 (q := 977) C 18 rfl rfl ?_
    refine y_aload0 (q := 978) C 19 rfl rfl ?_
    refine y_iload4 (q := 980) C 20 rfl rfl ?_
    refine x_iconst (q := 981) C 21 (n := (1)) (v := (1)) rfl rfl rfl ?_
    refine x_iadd (q := 982) C 22 rfl rfl ?_
    refine x_sld (q := 983) C hS0 23 rfl rfl hv1 ?_
    refine y_aload0 (q := 984) C 24 rfl rfl ?_
    refine y_iload4 (q := 986) C 25 rfl rfl ?_
    refine x_iconst (q := 987) C 26 (n := (2)) (v := (2)) rfl rfl rfl ?_
    refine x_iadd (q := 988) C 27 rfl rfl ?_
    refine x_sld (q := 989) C hS0 28 rfl rfl hv2 ?_
    refine x_if_eq (q := 992) (t := 996) C 29 rfl (by decide) rfl (fun c3 => ?_) (fun c3 => ?_)
    · skip
      exact absurd c3 (by assumption)
    · skip
      refine x_iconst (q := 993) C 30 (n := (1)) (v := (1)) rfl rfl rfl ?_
      refine x_goto (t := 997) C 31 rfl (by decide) ?_
      refine z_V2 (q := 1000) (bc' := bc + 59) (bs' := bs + 3594) C 33 rfl rfl ml_RL_177 cd_X5_find cv_X5_find ⟨by decide, rfl⟩ (by decide) (by decide) (Nat.le_of_ble_eq_true rfl) (by omega) (by omega) aj_f0 aj_f0 (s_X5_find (b := true) hl1.2.1 hl1.2.2.2.1 ?_)
      intro k2 I2 J2 hR2 hc2 ha2
      show aj_X G 1000 _ _ _ _ _ _ _ _ _
      try rw [hv] at hc2
      try rw [hu] at hc2
      try rw [hv] at ha2
      try rw [hu] at ha2
      have hl2 := hl1.m hR2
      have hx2 := hx1.e hB hR2.1 (by decide)
      show aj_X G 1000 _ _ _ _ _ _ _ _ _
      refine y_istore6 (q := 1002) C 34 rfl rfl (Nat.le_of_ble_eq_true rfl) rfl ?_
      refine x_goto (t := 1657) C 35 rfl (by decide) ?_
      refine aj_bud (bc' := bc) (bs' := bs) (by omega) (by omega) (aj_fg (kk _ _ _ _ hl2 hx2))
set_option maxRecDepth 100000 in
set_option maxHeartbeats 2000000 in
theorem lc_19 {G : aj_G} {I : Nat → Nat → Int32} {J : Nat → Nat → Int64} {V : Nat → Nat → Option Nat} {N : Nat → Nat} {n t bc bs : Nat} {xs : Nat → Int32} (C : aj_C G code t_law_19 RL room_1 7) (hS0 : lS G n xs) (hGL : gL G = []) (hGF : gF G = lGF) (hl : lI I V N) (hx : lX I V) (ht : 5 * t + 5 ≤ n) (hn : n ≤ 320)
    (kk : ∀ I1 J1 V1 N1, lI I1 V1 N1 → lX I1 V1 → aj_X G 1657 [some (.ref 8), some (.ref 20), some (.ref 22), some (.ref 21), some (.int (nI (5 * t))), none, none] [] I1 J1 V1 N1 aj_LL bc bs) : aj_X G 1005 [some (.ref 8), some (.ref 20), some (.ref 22), some (.ref 21), some (.int (nI (5 * t))), none, none] [] I J V N aj_LL (bc + 60) (bs + 3600) := by
  have hl0 := hl
  obtain ⟨⟨nn, hC⟩, hM, hkn, hB, hV⟩ := hl0
  have hv1 : vp_in (nI (5 * t) + 1) n := by rw [show nI (5 * t) + 1 = nI (5 * t + 1) from nI_add _ 1]; exact nI_in (by omega) (by omega)
  have hv2 : vp_in (nI (5 * t) + 2) n := by rw [show nI (5 * t) + 2 = nI (5 * t + 2) from nI_add _ 2]; exact nI_in (by omega) (by omega)
  have hv3 : vp_in (nI (5 * t) + 3) n := by rw [show nI (5 * t) + 3 = nI (5 * t + 3) from nI_add _ 3]; exact nI_in (by omega) (by omega)
  have hv4 : vp_in (nI (5 * t) + 4) n := by rw [show nI (5 * t) + 4 = nI (5 * t + 4) from nI_add _ 4]; exact nI_in (by omega) (by omega)
  refine y_aload1 (q := 1006) C 0 rfl rfl ?_
  refine y_aload0 (q := 1007) C 1 rfl rfl ?_
  refine y_iload4 (q := 1009) C 2 rfl rfl ?_
  refine x_iconst (q := 1010) C 3 (n := (1)) (v := (1)) rfl rfl rfl ?_
  refine x_iadd (q := 1011) C 4 rfl rfl ?_
  refine x_sld (q := 1012) C hS0 5 rfl rfl hv1 ?_
  refine y_aload0 (q := 1013) C 6 rfl rfl ?_
  refine y_iload4 (q := 1015) C 7 rfl rfl ?_
  refine x_iconst (q := 1016) C 8 (n := (2)) (v := (2)) rfl rfl rfl ?_
  refine x_iadd (q := 1017) C 9 rfl rfl ?_
  refine x_sld (q := 1018) C hS0 10 rfl rfl hv2 ?_
  refine y_aload3 (q := 1019) C 11 rfl rfl ?_
  refine z_T4 (q := 1022) (bc' := bc + 58) (bs' := bs + 3588) C 12 rfl rfl ml_RL_178 cd_L_addPlace (by decide) (Nat.le_of_ble_eq_true rfl) (by omega) (by omega) (by rw [hGF]; decide) (by intro i h; cases List.mem_singleton.mp h; exact aj_no.of rfl) (s_L_addPlace hC hB (by decide) (hl.noL (by decide)) ?_)
  intro k1 I1 J1 hR1 hc1 ha1
  subst hc1
  show aj_X G 1022 _ _ _ _ _ _ _ _ _
  have hv := hl.v hR1
  have hx1 := hx.e hB hR1.1 (by decide)
  show aj_X G 1022 _ _ _ _ _ _ _ _ _
  refine y_istore5 (q := 1024) C 13 rfl rfl (Nat.le_of_ble_eq_true rfl) rfl ?_
  refine y_aload2 (q := 1025) C 14 rfl rfl ?_
  refine y_aload0 (q := 1026) C 15 rfl rfl ?_
  refine y_iload4 (q := 1028) C 16 rfl rfl ?_
  refine x_iconst (q := 1029) C 17 (n := (1)) (v := (1)) rfl rfl rfl ?_
  refine x_iadd (q := 1030) C 18 rfl rfl ?_
  refine x_sld (q := 1031) C hS0 19 rfl rfl hv1 ?_
  refine y_aload0 (q := 1032) C 20 rfl rfl ?_
  refine y_iload4 (q := 1034) C 21 rfl rfl ?_
  refine x_iconst (q := 1035) C 22 (n := (2)) (v := (2)) rfl rfl rfl ?_
  refine x_iadd (q := 1036) C 23 rfl rfl ?_
  refine x_sld (q := 1037) C hS0 24 rfl rfl hv2 ?_
  refine z_V2 (q := 1040) (bc' := bc + 58) (bs' := bs + 3588) C 25 rfl rfl ml_RL_180 cd_X5_addPlace cv_X5_addPlace ⟨by decide, rfl⟩ (by decide) (by decide) (Nat.le_of_ble_eq_true rfl) (by omega) (by omega) aj_f0 aj_f0 (s_X5_addPlace (hl.M hR1) hB ?_)
  intro k2 I2 J2 hR2 hc2 ha2
  show aj_X G 1040 _ _ _ _ _ _ _ _ _
  try rw [hv] at hR2
  try rw [hv] at hc2
  try rw [hv] at ha2
  have hl2 := hl.b hR1 (vD.ad hl.2.2.1.2) hR2
  have hx2 := hx1.e hB hR2.1 (by decide)
  show aj_X G 1040 _ _ _ _ _ _ _ _ _
  refine y_istore6 (q := 1042) C 26 rfl rfl (Nat.le_of_ble_eq_true rfl) rfl ?_
  refine x_goto (t := 1657) C 27 rfl (by decide) ?_
  refine aj_bud (bc' := bc) (bs' := bs) (by omega) (by omega) (aj_fg (kk _ _ _ _ hl2 hx2))
set_option maxRecDepth 100000 in
set_option maxHeartbeats 2000000 in
theorem lc_20 {G : aj_G} {I : Nat → Nat → Int32} {J : Nat → Nat → Int64} {V : Nat → Nat → Option Nat} {N : Nat → Nat} {n t bc bs : Nat} {xs : Nat → Int32} (C : aj_C G code t_law_20 RL room_1 7) (hS0 : lS G n xs) (hGL : gL G = []) (hGF : gF G = lGF) (hl : lI I V N) (hx : lX I V) (ht : 5 * t + 5 ≤ n) (hn : n ≤ 320)
    (kk : ∀ I1 J1 V1 N1, lI I1 V1 N1 → lX I1 V1 → aj_X G 1657 [some (.ref 8), some (.ref 20), some (.ref 22), some (.ref 21), some (.int (nI (5 * t))), none, none] [] I1 J1 V1 N1 aj_LL bc bs) : aj_X G 1045 [some (.ref 8), some (.ref 20), some (.ref 22), some (.ref 21), some (.int (nI (5 * t))), none, none] [] I J V N aj_LL (bc + 60) (bs + 3600) := by
  have hl0 := hl
  obtain ⟨⟨nn, hC⟩, hM, hkn, hB, hV⟩ := hl0
  have hv1 : vp_in (nI (5 * t) + 1) n := by rw [show nI (5 * t) + 1 = nI (5 * t + 1) from nI_add _ 1]; exact nI_in (by omega) (by omega)
  have hv2 : vp_in (nI (5 * t) + 2) n := by rw [show nI (5 * t) + 2 = nI (5 * t + 2) from nI_add _ 2]; exact nI_in (by omega) (by omega)
  have hv3 : vp_in (nI (5 * t) + 3) n := by rw [show nI (5 * t) + 3 = nI (5 * t + 3) from nI_add _ 3]; exact nI_in (by omega) (by omega)
  have hv4 : vp_in (nI (5 * t) + 4) n := by rw [show nI (5 * t) + 4 = nI (5 * t + 4) from nI_add _ 4]; exact nI_in (by omega) (by omega)
  refine y_aload1 (q := 1046) C 0 rfl rfl ?_
  refine y_aload0 (q := 1047) C 1 rfl rfl ?_
  refine y_iload4 (q := 1049) C 2 rfl rfl ?_
  refine x_iconst (q := 1050) C 3 (n := (1)) (v := (1)) rfl rfl rfl ?_
  refine x_iadd (q := 1051) C 4 rfl rfl ?_
  refine x_sld (q := 1052) C hS0 5 rfl rfl hv1 ?_
  refine y_aload3 (q := 1053) C 6 rfl rfl ?_
  refine z_T3 (q := 1056) (bc' := bc + 59) (bs' := bs + 3594) C 7 rfl rfl ml_RL_181 cd_L_removePlace (by decide) (Nat.le_of_ble_eq_true rfl) (by omega) (by omega) (by rw [hGF]; decide) (by intro i h; cases List.mem_singleton.mp h; exact aj_no.of rfl) (s_L_removePlace hC hB (by decide) (hl.noL (by decide)) ?_)
  intro k1 I1 J1 hR1 hc1 ha1
  subst hc1
  show aj_X G 1056 _ _ _ _ _ _ _ _ _
  have hv := hl.v hR1
  have hx1 := hx.e hB hR1.1 (by decide)
  show aj_X G 1056 _ _ _ _ _ _ _ _ _
  refine y_istore5 (q := 1058) C 8 rfl rfl (Nat.le_of_ble_eq_true rfl) rfl ?_
  refine y_aload2 (q := 1059) C 9 rfl rfl ?_
  refine y_aload0 (q := 1060) C 10 rfl rfl ?_
  refine y_iload4 (q := 1062) C 11 rfl rfl ?_
  refine x_iconst (q := 1063) C 12 (n := (1)) (v := (1)) rfl rfl rfl ?_
  refine x_iadd (q := 1064) C 13 rfl rfl ?_
  refine x_sld (q := 1065) C hS0 14 rfl rfl hv1 ?_
  refine z_V1 (q := 1068) (bc' := bc + 59) (bs' := bs + 3594) C 15 rfl rfl ml_RL_183 cd_X5_removePlace cv_X5_removePlace ⟨by decide, rfl⟩ (by decide) (by decide) (Nat.le_of_ble_eq_true rfl) (by omega) (by omega) aj_f0 aj_f0 (s_X5_removePlace (hl.M hR1) hB ?_)
  intro k2 I2 J2 hR2 hc2 ha2
  show aj_X G 1068 _ _ _ _ _ _ _ _ _
  try rw [hv] at hR2
  try rw [hv] at hc2
  try rw [hv] at ha2
  have hl2 := hl.b hR1 (vD.rm hl.2.2.1.2) hR2
  have hx2 := hx1.e hB hR2.1 (by decide)
  show aj_X G 1068 _ _ _ _ _ _ _ _ _
  refine y_istore6 (q := 1070) C 16 rfl rfl (Nat.le_of_ble_eq_true rfl) rfl ?_
  refine x_goto (t := 1657) C 17 rfl (by decide) ?_
  refine aj_bud (bc' := bc) (bs' := bs) (by omega) (by omega) (aj_fg (kk _ _ _ _ hl2 hx2))
set_option maxRecDepth 100000 in
set_option maxHeartbeats 2000000 in
theorem lc_21 {G : aj_G} {I : Nat → Nat → Int32} {J : Nat → Nat → Int64} {V : Nat → Nat → Option Nat} {N : Nat → Nat} {n t bc bs : Nat} {xs : Nat → Int32} (C : aj_C G code t_law_21 RL room_1 7) (hS0 : lS G n xs) (hGL : gL G = []) (hGF : gF G = lGF) (hl : lI I V N) (hx : lX I V) (ht : 5 * t + 5 ≤ n) (hn : n ≤ 320)
    (kk : ∀ I1 J1 V1 N1, lI I1 V1 N1 → lX I1 V1 → aj_X G 1657 [some (.ref 8), some (.ref 20), some (.ref 22), some (.ref 21), some (.int (nI (5 * t))), none, none] [] I1 J1 V1 N1 aj_LL bc bs) : aj_X G 1073 [some (.ref 8), some (.ref 20), some (.ref 22), some (.ref 21), some (.int (nI (5 * t))), none, none] [] I J V N aj_LL (bc + 60) (bs + 3600) := by
  have hl0 := hl
  obtain ⟨⟨nn, hC⟩, hM, hkn, hB, hV⟩ := hl0
  have hv1 : vp_in (nI (5 * t) + 1) n := by rw [show nI (5 * t) + 1 = nI (5 * t + 1) from nI_add _ 1]; exact nI_in (by omega) (by omega)
  have hv2 : vp_in (nI (5 * t) + 2) n := by rw [show nI (5 * t) + 2 = nI (5 * t + 2) from nI_add _ 2]; exact nI_in (by omega) (by omega)
  have hv3 : vp_in (nI (5 * t) + 3) n := by rw [show nI (5 * t) + 3 = nI (5 * t + 3) from nI_add _ 3]; exact nI_in (by omega) (by omega)
  have hv4 : vp_in (nI (5 * t) + 4) n := by rw [show nI (5 * t) + 4 = nI (5 * t + 4) from nI_add _ 4]; exact nI_in (by omega) (by omega)
  refine y_aload1 (q := 1074) C 0 rfl rfl ?_
  refine y_aload0 (q := 1075) C 1 rfl rfl ?_
  refine y_iload4 (q := 1077) C 2 rfl rfl ?_
  refine x_iconst (q := 1078) C 3 (n := (1)) (v := (1)) rfl rfl rfl ?_
  refine x_iadd (q := 1079) C 4 rfl rfl ?_
  refine x_sld (q := 1080) C hS0 5 rfl rfl hv1 ?_
  refine y_aload0 (q := 1081) C 6 rfl rfl ?_
  refine y_iload4 (q := 1083) C 7 rfl rfl ?_
  refine x_iconst (q := 1084) C 8 (n := (2)) (v := (2)) rfl rfl rfl ?_
  refine x_iadd (q := 1085) C 9 rfl rfl ?_
  refine x_sld (q := 1086) C hS0 10 rfl rfl hv2 ?_
  refine y_aload0 (q := 1087) C 11 rfl rfl ?_
  refine y_iload4 (q := 1089) C 12 rfl rfl ?_
  refine x_iconst (q := 1090) C 13 (n := (3)) (v := (3)) rfl rfl rfl ?_
  refine x_iadd (q := 1091) C 14 rfl rfl ?_
  refine x_sld (q := 1092) C hS0 15 rfl rfl hv3 ?_
  refine y_aload3 (q := 1093) C 16 rfl rfl ?_
  refine z_T5 (q := 1096) (bc' := bc + 57) (bs' := bs + 3582) C 17 rfl rfl ml_RL_184 cd_L_movePlace (by decide) (Nat.le_of_ble_eq_true rfl) (by omega) (by omega) (by rw [hGF]; decide) (by intro i h; cases List.mem_singleton.mp h; exact aj_no.of rfl) (s_L_movePlace hC hB (by decide) (hl.noL (by decide)) ?_)
  intro k1 I1 J1 hR1 hc1 ha1
  subst hc1
  show aj_X G 1096 _ _ _ _ _ _ _ _ _
  have hv := hl.v hR1
  have hx1 := hx.e hB hR1.1 (by decide)
  show aj_X G 1096 _ _ _ _ _ _ _ _ _
  refine y_istore5 (q := 1098) C 18 rfl rfl (Nat.le_of_ble_eq_true rfl) rfl ?_
  refine y_aload2 (q := 1099) C 19 rfl rfl ?_
  refine y_aload0 (q := 1100) C 20 rfl rfl ?_
  refine y_iload4 (q := 1102) C 21 rfl rfl ?_
  refine x_iconst (q := 1103) C 22 (n := (1)) (v := (1)) rfl rfl rfl ?_
  refine x_iadd (q := 1104) C 23 rfl rfl ?_
  refine x_sld (q := 1105) C hS0 24 rfl rfl hv1 ?_
  refine y_aload0 (q := 1106) C 25 rfl rfl ?_
  refine y_iload4 (q := 1108) C 26 rfl rfl ?_
  refine x_iconst (q := 1109) C 27 (n := (2)) (v := (2)) rfl rfl rfl ?_
  refine x_iadd (q := 1110) C 28 rfl rfl ?_
  refine x_sld (q := 1111) C hS0 29 rfl rfl hv2 ?_
  refine y_aload0 (q := 1112) C 30 rfl rfl ?_
  refine y_iload4 (q := 1114) C 31 rfl rfl ?_
  refine x_iconst (q := 1115) C 32 (n := (3)) (v := (3)) rfl rfl rfl ?_
  refine x_iadd (q := 1116) C 33 rfl rfl ?_
  refine x_sld (q := 1117) C hS0 34 rfl rfl hv3 ?_
  refine z_V3 (q := 1120) (bc' := bc + 57) (bs' := bs + 3582) C 35 rfl rfl ml_RL_186 cd_X5_movePlace cv_X5_movePlace ⟨by decide, rfl⟩ (by decide) (by decide) (Nat.le_of_ble_eq_true rfl) (by omega) (by omega) aj_f0 aj_f0 (s_X5_movePlace (hl.M hR1) hB ?_)
  intro k2 I2 J2 hR2 hc2 ha2
  show aj_X G 1120 _ _ _ _ _ _ _ _ _
  try rw [hv] at hR2
  try rw [hv] at hc2
  try rw [hv] at ha2
  have hl2 := hl.b hR1 (vD.mo hl.2.2.1.2) hR2
  have hx2 := hx1.e hB hR2.1 (by decide)
  show aj_X G 1120 _ _ _ _ _ _ _ _ _
  refine y_istore6 (q := 1122) C 36 rfl rfl (Nat.le_of_ble_eq_true rfl) rfl ?_
  refine x_goto (t := 1657) C 37 rfl (by decide) ?_
  refine aj_bud (bc' := bc) (bs' := bs) (by omega) (by omega) (aj_fg (kk _ _ _ _ hl2 hx2))
set_option maxRecDepth 100000 in
set_option maxHeartbeats 2000000 in
theorem lc_22 {G : aj_G} {I : Nat → Nat → Int32} {J : Nat → Nat → Int64} {V : Nat → Nat → Option Nat} {N : Nat → Nat} {n t bc bs : Nat} {xs : Nat → Int32} (C : aj_C G code t_law_22 RL room_1 7) (hS0 : lS G n xs) (hGL : gL G = []) (hGF : gF G = lGF) (hl : lI I V N) (hx : lX I V) (ht : 5 * t + 5 ≤ n) (hn : n ≤ 320)
    (kk : ∀ I1 J1 V1 N1, lI I1 V1 N1 → lX I1 V1 → aj_X G 1657 [some (.ref 8), some (.ref 20), some (.ref 22), some (.ref 21), some (.int (nI (5 * t))), none, none] [] I1 J1 V1 N1 aj_LL bc bs) : aj_X G 1125 [some (.ref 8), some (.ref 20), some (.ref 22), some (.ref 21), some (.int (nI (5 * t))), none, none] [] I J V N aj_LL (bc + 60) (bs + 3600) := by
  have hl0 := hl
  obtain ⟨⟨nn, hC⟩, hM, hkn, hB, hV⟩ := hl0
  have hv1 : vp_in (nI (5 * t) + 1) n := by rw [show nI (5 * t) + 1 = nI (5 * t + 1) from nI_add _ 1]; exact nI_in (by omega) (by omega)
  have hv2 : vp_in (nI (5 * t) + 2) n := by rw [show nI (5 * t) + 2 = nI (5 * t + 2) from nI_add _ 2]; exact nI_in (by omega) (by omega)
  have hv3 : vp_in (nI (5 * t) + 3) n := by rw [show nI (5 * t) + 3 = nI (5 * t + 3) from nI_add _ 3]; exact nI_in (by omega) (by omega)
  have hv4 : vp_in (nI (5 * t) + 4) n := by rw [show nI (5 * t) + 4 = nI (5 * t + 4) from nI_add _ 4]; exact nI_in (by omega) (by omega)
  refine y_aload1 (q := 1126) C 0 rfl rfl ?_
  refine y_aload0 (q := 1127) C 1 rfl rfl ?_
  refine y_iload4 (q := 1129) C 2 rfl rfl ?_
  refine x_iconst (q := 1130) C 3 (n := (1)) (v := (1)) rfl rfl rfl ?_
  refine x_iadd (q := 1131) C 4 rfl rfl ?_
  refine x_sld (q := 1132) C hS0 5 rfl rfl hv1 ?_
  refine y_aload0 (q := 1133) C 6 rfl rfl ?_
  refine y_iload4 (q := 1135) C 7 rfl rfl ?_
  refine x_iconst (q := 1136) C 8 (n := (2)) (v := (2)) rfl rfl rfl ?_
  refine x_iadd (q := 1137) C 9 rfl rfl ?_
  refine x_sld (q := 1138) C hS0 10 rfl rfl hv2 ?_
  refine y_aload3 (q := 1139) C 11 rfl rfl ?_
  refine z_T4 (q := 1142) (bc' := bc + 58) (bs' := bs + 3588) C 12 rfl rfl ml_RL_187 cd_L_centre (by decide) (Nat.le_of_ble_eq_true rfl) (by omega) (by omega) (by rw [hGF]; decide) (by intro i h; cases List.mem_singleton.mp h; exact aj_no.of rfl) (s_L_centre hC hB (by decide) (hl.noL (by decide)) ?_)
  intro k1 I1 J1 hR1 hc1 ha1
  subst hc1
  show aj_X G 1142 _ _ _ _ _ _ _ _ _
  have hv := hl.v hR1
  have hx1 := hx.e hB hR1.1 (by decide)
  show aj_X G 1142 _ _ _ _ _ _ _ _ _
  refine y_istore5 (q := 1144) C 13 rfl rfl (Nat.le_of_ble_eq_true rfl) rfl ?_
  refine y_aload2 (q := 1145) C 14 rfl rfl ?_
  refine y_aload0 (q := 1146) C 15 rfl rfl ?_
  refine y_iload4 (q := 1148) C 16 rfl rfl ?_
  refine x_iconst (q := 1149) C 17 (n := (1)) (v := (1)) rfl rfl rfl ?_
  refine x_iadd (q := 1150) C 18 rfl rfl ?_
  refine x_sld (q := 1151) C hS0 19 rfl rfl hv1 ?_
  refine y_aload0 (q := 1152) C 20 rfl rfl ?_
  refine y_iload4 (q := 1154) C 21 rfl rfl ?_
  refine x_iconst (q := 1155) C 22 (n := (2)) (v := (2)) rfl rfl rfl ?_
  refine x_iadd (q := 1156) C 23 rfl rfl ?_
  refine x_sld (q := 1157) C hS0 24 rfl rfl hv2 ?_
  refine z_V2 (q := 1160) (bc' := bc + 58) (bs' := bs + 3588) C 25 rfl rfl ml_RL_189 cd_X5_centre cv_X5_centre ⟨by decide, rfl⟩ (by decide) (by decide) (Nat.le_of_ble_eq_true rfl) (by omega) (by omega) aj_f0 aj_f0 (s_X5_centre (hl.M hR1) hB ?_)
  intro k2 I2 J2 hR2 hc2 ha2
  show aj_X G 1160 _ _ _ _ _ _ _ _ _
  try rw [hv] at hR2
  try rw [hv] at hc2
  try rw [hv] at ha2
  have hl2 := hl.b hR1 (vD.ce hl.2.2.1.2) hR2
  have hx2 := hx1.e hB hR2.1 (by decide)
  show aj_X G 1160 _ _ _ _ _ _ _ _ _
  refine y_istore6 (q := 1162) C 26 rfl rfl (Nat.le_of_ble_eq_true rfl) rfl ?_
  refine x_goto (t := 1657) C 27 rfl (by decide) ?_
  refine aj_bud (bc' := bc) (bs' := bs) (by omega) (by omega) (aj_fg (kk _ _ _ _ hl2 hx2))
set_option maxRecDepth 100000 in
set_option maxHeartbeats 2000000 in
theorem lc_23 {G : aj_G} {I : Nat → Nat → Int32} {J : Nat → Nat → Int64} {V : Nat → Nat → Option Nat} {N : Nat → Nat} {n t bc bs : Nat} {xs : Nat → Int32} (C : aj_C G code t_law_23 RL room_1 7) (hS0 : lS G n xs) (hGL : gL G = []) (hGF : gF G = lGF) (hl : lI I V N) (hx : lX I V) (ht : 5 * t + 5 ≤ n) (hn : n ≤ 320)
    (kk : ∀ I1 J1 V1 N1, lI I1 V1 N1 → lX I1 V1 → aj_X G 1657 [some (.ref 8), some (.ref 20), some (.ref 22), some (.ref 21), some (.int (nI (5 * t))), none, none] [] I1 J1 V1 N1 aj_LL bc bs) : aj_X G 1165 [some (.ref 8), some (.ref 20), some (.ref 22), some (.ref 21), some (.int (nI (5 * t))), none, none] [] I J V N aj_LL (bc + 60) (bs + 3600) := by
  have hl0 := hl
  obtain ⟨⟨nn, hC⟩, hM, hkn, hB, hV⟩ := hl0
  have hv1 : vp_in (nI (5 * t) + 1) n := by rw [show nI (5 * t) + 1 = nI (5 * t + 1) from nI_add _ 1]; exact nI_in (by omega) (by omega)
  have hv2 : vp_in (nI (5 * t) + 2) n := by rw [show nI (5 * t) + 2 = nI (5 * t + 2) from nI_add _ 2]; exact nI_in (by omega) (by omega)
  have hv3 : vp_in (nI (5 * t) + 3) n := by rw [show nI (5 * t) + 3 = nI (5 * t + 3) from nI_add _ 3]; exact nI_in (by omega) (by omega)
  have hv4 : vp_in (nI (5 * t) + 4) n := by rw [show nI (5 * t) + 4 = nI (5 * t + 4) from nI_add _ 4]; exact nI_in (by omega) (by omega)
  refine y_aload1 (q := 1166) C 0 rfl rfl ?_
  refine z_V0 (q := 1169) (bc' := bc + 60) (bs' := bs + 3600) C 1 rfl rfl ml_RL_190 cd_X3_turnPlaces cv_X3_turnPlaces ⟨by decide, rfl⟩ (by decide) (by decide) (Nat.le_of_ble_eq_true rfl) (by omega) (by omega) aj_f0 aj_f0 (w_turnPlaces hC hB ?_)
  intro k1 I1 J1 hR1
  show aj_X G 1169 _ _ _ _ _ _ _ _ _
  have hx1 := hx.e hB hR1.1 (by decide)
  show aj_X G 1169 _ _ _ _ _ _ _ _ _
  refine x_pop (q := 1170) C 2 rfl rfl rfl ?_
  refine y_aload2 (q := 1171) C 3 rfl rfl ?_
  refine z_V0 (q := 1174) (bc' := bc + 59) (bs' := bs + 3588) C 4 rfl rfl ml_RL_194 cd_X5_turnPlaces cv_X5_turnPlaces ⟨by decide, rfl⟩ (by decide) (by decide) (Nat.le_of_ble_eq_true rfl) (by omega) (by omega) (by rw [hGF]; decide) (by intro i h; cases List.mem_singleton.mp h; exact aj_no.of rfl) (s_X5_turnPlaces (hl.M hR1) (a := 184) rfl (by decide) (hl.no (by decide)) hB ?_)
  intro k2 I2 t1 hR2
  show aj_X G 1174 _ _ _ _ _ _ _ _ _
  have hl2 := hl.ba hR1 (vD.tu hl.2.2.1.2) (by rw [hl.v hR1] at hR2; exact hR2) (t := t1)
  have hx2 := hx1.e hB hR2.1 (by decide)
  refine aj_dropX (X := [184]) hGL ?_
  show aj_X G 1174 _ _ _ _ _ _ _ _ _
  refine x_pop (q := 1175) C 5 rfl rfl rfl ?_
  refine x_goto (t := 1657) C 6 rfl (by decide) ?_
  refine aj_bud (bc' := bc) (bs' := bs) (by omega) (by omega) (aj_fg (kk _ _ _ _ hl2 hx2))
set_option maxRecDepth 100000 in
set_option maxHeartbeats 2000000 in
theorem lc_24 {G : aj_G} {I : Nat → Nat → Int32} {J : Nat → Nat → Int64} {V : Nat → Nat → Option Nat} {N : Nat → Nat} {n t bc bs : Nat} {xs : Nat → Int32} (C : aj_C G code t_law_24 RL room_1 7) (hS0 : lS G n xs) (hGL : gL G = []) (hGF : gF G = lGF) (hl : lI I V N) (hx : lX I V) (ht : 5 * t + 5 ≤ n) (hn : n ≤ 320)
    (kk : ∀ I1 J1 V1 N1, lI I1 V1 N1 → lX I1 V1 → aj_X G 1657 [some (.ref 8), some (.ref 20), some (.ref 22), some (.ref 21), some (.int (nI (5 * t))), none, none] [] I1 J1 V1 N1 aj_LL bc bs) : aj_X G 1178 [some (.ref 8), some (.ref 20), some (.ref 22), some (.ref 21), some (.int (nI (5 * t))), none, none] [] I J V N aj_LL (bc + 60) (bs + 3600) := by
  have hl0 := hl
  obtain ⟨⟨nn, hC⟩, hM, hkn, hB, hV⟩ := hl0
  have hv1 : vp_in (nI (5 * t) + 1) n := by rw [show nI (5 * t) + 1 = nI (5 * t + 1) from nI_add _ 1]; exact nI_in (by omega) (by omega)
  have hv2 : vp_in (nI (5 * t) + 2) n := by rw [show nI (5 * t) + 2 = nI (5 * t + 2) from nI_add _ 2]; exact nI_in (by omega) (by omega)
  have hv3 : vp_in (nI (5 * t) + 3) n := by rw [show nI (5 * t) + 3 = nI (5 * t + 3) from nI_add _ 3]; exact nI_in (by omega) (by omega)
  have hv4 : vp_in (nI (5 * t) + 4) n := by rw [show nI (5 * t) + 4 = nI (5 * t + 4) from nI_add _ 4]; exact nI_in (by omega) (by omega)
  refine y_aload1 (q := 1179) C 0 rfl rfl ?_
  refine z_V0 (q := 1182) (bc' := bc + 60) (bs' := bs + 3600) C 1 rfl rfl ml_RL_195 cd_X3_mirrorPlaces cv_X3_mirrorPlaces ⟨by decide, rfl⟩ (by decide) (by decide) (Nat.le_of_ble_eq_true rfl) (by omega) (by omega) aj_f0 aj_f0 (w_mirrorPlaces hC hB ?_)
  intro k1 I1 J1 hR1
  show aj_X G 1182 _ _ _ _ _ _ _ _ _
  have hx1 := hx.e hB hR1.1 (by decide)
  show aj_X G 1182 _ _ _ _ _ _ _ _ _
  refine x_pop (q := 1183) C 2 rfl rfl rfl ?_
  refine y_aload2 (q := 1184) C 3 rfl rfl ?_
  refine z_V0 (q := 1187) (bc' := bc + 59) (bs' := bs + 3588) C 4 rfl rfl ml_RL_198 cd_X5_mirrorPlaces cv_X5_mirrorPlaces ⟨by decide, rfl⟩ (by decide) (by decide) (Nat.le_of_ble_eq_true rfl) (by omega) (by omega) (by rw [hGF]; decide) (by intro i h; cases List.mem_singleton.mp h; exact aj_no.of rfl) (s_X5_mirrorPlaces (hl.M hR1) (a := 184) rfl (by decide) (hl.no (by decide)) hB ?_)
  intro k2 I2 t1 hR2
  show aj_X G 1187 _ _ _ _ _ _ _ _ _
  have hl2 := hl.ba hR1 (vD.mi hl.2.2.1.2) (by rw [hl.v hR1] at hR2; exact hR2) (t := t1)
  have hx2 := hx1.e hB hR2.1 (by decide)
  refine aj_dropX (X := [184]) hGL ?_
  show aj_X G 1187 _ _ _ _ _ _ _ _ _
  refine x_pop (q := 1188) C 5 rfl rfl rfl ?_
  refine x_goto (t := 1657) C 6 rfl (by decide) ?_
  refine aj_bud (bc' := bc) (bs' := bs) (by omega) (by omega) (aj_fg (kk _ _ _ _ hl2 hx2))
set_option maxRecDepth 100000 in
set_option maxHeartbeats 2000000 in
theorem lc_25 {G : aj_G} {I : Nat → Nat → Int32} {J : Nat → Nat → Int64} {V : Nat → Nat → Option Nat} {N : Nat → Nat} {n t bc bs : Nat} {xs : Nat → Int32} (C : aj_C G code t_law_25 RL room_1 7) (hS0 : lS G n xs) (hGL : gL G = []) (hGF : gF G = lGF) (hl : lI I V N) (hx : lX I V) (ht : 5 * t + 5 ≤ n) (hn : n ≤ 320)
    (kk : ∀ I1 J1 V1 N1, lI I1 V1 N1 → lX I1 V1 → aj_X G 1657 [some (.ref 8), some (.ref 20), some (.ref 22), some (.ref 21), some (.int (nI (5 * t))), none, none] [] I1 J1 V1 N1 aj_LL bc bs) : aj_X G 1191 [some (.ref 8), some (.ref 20), some (.ref 22), some (.ref 21), some (.int (nI (5 * t))), none, none] [] I J V N aj_LL (bc + 60) (bs + 3600) := by
  have hl0 := hl
  obtain ⟨⟨nn, hC⟩, hM, hkn, hB, hV⟩ := hl0
  have hv1 : vp_in (nI (5 * t) + 1) n := by rw [show nI (5 * t) + 1 = nI (5 * t + 1) from nI_add _ 1]; exact nI_in (by omega) (by omega)
  have hv2 : vp_in (nI (5 * t) + 2) n := by rw [show nI (5 * t) + 2 = nI (5 * t + 2) from nI_add _ 2]; exact nI_in (by omega) (by omega)
  have hv3 : vp_in (nI (5 * t) + 3) n := by rw [show nI (5 * t) + 3 = nI (5 * t + 3) from nI_add _ 3]; exact nI_in (by omega) (by omega)
  have hv4 : vp_in (nI (5 * t) + 4) n := by rw [show nI (5 * t) + 4 = nI (5 * t + 4) from nI_add _ 4]; exact nI_in (by omega) (by omega)
  refine y_aload1 (q := 1192) C 0 rfl rfl ?_
  refine z_V0 (q := 1195) (bc' := bc + 60) (bs' := bs + 3600) C 1 rfl rfl ml_RL_199 cd_X3_places cv_X3_places ⟨by decide, rfl⟩ (by decide) (by decide) (Nat.le_of_ble_eq_true rfl) (by omega) (by omega) aj_f0 aj_f0 (w_places hC hB ?_)
  intro k1 I1 J1 _ hR1 ha1
  show aj_X G 1195 _ _ _ _ _ _ _ _ _
  have hv := hl.vc hR1
  have hl1 := hl.c hR1
  have hx1 := hx.e hB hR1.1 (by decide)
  show aj_X G 1195 _ _ _ _ _ _ _ _ _
  refine x_pop (q := 1196) C 2 rfl rfl rfl ?_
  refine y_aload2 (q := 1197) C 3 rfl rfl ?_
  refine z_V0 (q := 1200) (bc' := bc + 60) (bs' := bs + 3600) C 4 rfl rfl ml_RL_202 cd_X5_places cv_X5_places ⟨by decide, rfl⟩ (by decide) (by decide) (Nat.le_of_ble_eq_true rfl) (by omega) (by omega) aj_f0 aj_f0 (s_X5_places hl1.2.1 hl1.2.2.2.1 ?_)
  intro I2 hR2
  show aj_X G 1200 _ _ _ _ _ _ _ _ _
  have hl2 := hl1.m hR2
  have hx2 := hx1.e hB hR2.1 (by decide)
  show aj_X G 1200 _ _ _ _ _ _ _ _ _
  refine x_pop (q := 1201) C 5 rfl rfl rfl ?_
  refine x_goto (t := 1657) C 6 rfl (by decide) ?_
  refine aj_bud (bc' := bc) (bs' := bs) (by omega) (by omega) (aj_fg (kk _ _ _ _ hl2 hx2))
set_option maxRecDepth 100000 in
set_option maxHeartbeats 2000000 in
theorem lc_26 {G : aj_G} {I : Nat → Nat → Int32} {J : Nat → Nat → Int64} {V : Nat → Nat → Option Nat} {N : Nat → Nat} {n t bc bs : Nat} {xs : Nat → Int32} (C : aj_C G code t_law_26 RL room_1 7) (hS0 : lS G n xs) (hGL : gL G = []) (hGF : gF G = lGF) (hl : lI I V N) (hx : lX I V) (ht : 5 * t + 5 ≤ n) (hn : n ≤ 320)
    (kk : ∀ I1 J1 V1 N1, lI I1 V1 N1 → lX I1 V1 → aj_X G 1657 [some (.ref 8), some (.ref 20), some (.ref 22), some (.ref 21), some (.int (nI (5 * t))), none, none] [] I1 J1 V1 N1 aj_LL bc bs) : aj_X G 1204 [some (.ref 8), some (.ref 20), some (.ref 22), some (.ref 21), some (.int (nI (5 * t))), none, none] [] I J V N aj_LL (bc + 60) (bs + 3600) := by
  have hl0 := hl
  obtain ⟨⟨nn, hC⟩, hM, hkn, hB, hV⟩ := hl0
  have hv1 : vp_in (nI (5 * t) + 1) n := by rw [show nI (5 * t) + 1 = nI (5 * t + 1) from nI_add _ 1]; exact nI_in (by omega) (by omega)
  have hv2 : vp_in (nI (5 * t) + 2) n := by rw [show nI (5 * t) + 2 = nI (5 * t + 2) from nI_add _ 2]; exact nI_in (by omega) (by omega)
  have hv3 : vp_in (nI (5 * t) + 3) n := by rw [show nI (5 * t) + 3 = nI (5 * t + 3) from nI_add _ 3]; exact nI_in (by omega) (by omega)
  have hv4 : vp_in (nI (5 * t) + 4) n := by rw [show nI (5 * t) + 4 = nI (5 * t + 4) from nI_add _ 4]; exact nI_in (by omega) (by omega)
  refine y_aload1 (q := 1205) C 0 rfl rfl ?_
  refine y_aload0 (q := 1206) C 1 rfl rfl ?_
  refine y_iload4 (q := 1208) C 2 rfl rfl ?_
  refine x_iconst (q := 1209) C 3 (n := (1)) (v := (1)) rfl rfl rfl ?_
  refine x_iadd (q := 1210) C 4 rfl rfl ?_
  refine x_sld (q := 1211) C hS0 5 rfl rfl hv1 ?_
  refine y_aload0 (q := 1212) C 6 rfl rfl ?_
  refine y_iload4 (q := 1214) C 7 rfl rfl ?_
  refine x_iconst (q := 1215) C 8 (n := (2)) (v := (2)) rfl rfl rfl ?_
  refine x_iadd (q := 1216) C 9 rfl rfl ?_
  refine x_sld (q := 1217) C hS0 10 rfl rfl hv2 ?_
  refine x_if_eq (q := 1220) (t := 1224) C 11 rfl (by decide) rfl (fun c1 => ?_) (fun c1 => ?_)
  · skip
    refine x_iconst (q := 1225) C 14 (n := (0)) (v := (0)) rfl rfl rfl ?_
    refine y_aload3 (q := 1226) C 15 rfl rfl ?_
    refine z_T4 (q := 1229) (bc' := bc + 59) (bs' := bs + 3594) C 16 rfl rfl ml_RL_203 cd_L_place (by decide) (Nat.le_of_ble_eq_true rfl) (by omega) (by omega) (by rw [hGF]; decide) (by intro i h; cases List.mem_singleton.mp h; exact aj_no.of rfl) (s_L_place (b := false) hC hB (by decide) (hl.noL (by decide)) ?_)
    intro k1 I1 J1 hR1 hc1 ha1
    subst hc1
    show aj_X G 1229 _ _ _ _ _ _ _ _ _
    have hv := hl.vc hR1
    have hu := hx.rv hR1
    have hl1 := hl.c hR1
    have hx1 := hx.e hB hR1.1 (by decide)
    show aj_X G 1229 _ _ _ _ _ _ _ _ _
    refine y_istore5 (q := 1231) C 17 rfl rfl (Nat.le_of_ble_eq_true rfl) rfl ?_
    refine y_aload2 (q := 1232) C 18 rfl rfl ?_
    refine y_aload0 (q := 1233) C 19 rfl rfl ?_
    refine y_iload4 (q := 1235) C 20 rfl rfl ?_
    refine x_iconst (q := 1236) C 21 (n := (1)) (v := (1)) rfl rfl rfl ?_
    refine x_iadd (q := 1237) C 22 rfl rfl ?_
    refine x_sld (q := 1238) C hS0 23 rfl rfl hv1 ?_
    refine y_aload0 (q := 1239) C 24 rfl rfl ?_
    refine y_iload4 (q := 1241) C 25 rfl rfl ?_
    refine x_iconst (q := 1242) C 26 (n := (2)) (v := (2)) rfl rfl rfl ?_
    refine x_iadd (q := 1243) C 27 rfl rfl ?_
    refine x_sld (q := 1244) C hS0 28 rfl rfl hv2 ?_
    refine x_if_eq (q := 1247) (t := 1251) C 29 rfl (by decide) rfl (fun c2 => ?_) (fun c2 => ?_)
    · skip
      refine x_iconst (q := 1252) C 32 (n := (0)) (v := (0)) rfl rfl rfl ?_
      refine z_V2 (q := 1255) (bc' := bc + 59) (bs' := bs + 3594) C 33 rfl rfl ml_RL_205 cd_X5_place cv_X5_place ⟨by decide, rfl⟩ (by decide) (by decide) (Nat.le_of_ble_eq_true rfl) (by omega) (by omega) aj_f0 aj_f0 (s_X5_place (b := false) hl1.2.1 hl1.2.2.2.1 ?_)
      intro k2 I2 J2 hR2 hc2 ha2
      show aj_X G 1255 _ _ _ _ _ _ _ _ _
      try rw [hv] at hc2
      try rw [hv] at ha2
      have hl2 := hl1.m hR2
      have hx2 := hx1.e hB hR2.1 (by decide)
      show aj_X G 1255 _ _ _ _ _ _ _ _ _
      refine y_istore6 (q := 1257) C 34 rfl rfl (Nat.le_of_ble_eq_true rfl) rfl ?_
      refine x_goto (t := 1657) C 35 rfl (by decide) ?_
      refine aj_bud (bc' := bc) (bs' := bs) (by omega) (by omega) (aj_fg (kk _ _ _ _ hl2 hx2))
    · skip
      exact absurd (by assumption) c2
  · skip
    refine x_iconst (q := 1221) C 12 (n := (1)) (v := (1)) rfl rfl rfl ?_
    refine x_goto (t := 1225) C 13 rfl (by decide) ?_
    refine y_aload3 (q := 1226) C 15 rfl rfl ?_
    refine z_T4 (q := 1229) (bc' := bc + 59) (bs' := bs + 3594) C 16 rfl rfl ml_RL_203 cd_L_place (by decide) (Nat.le_of_ble_eq_true rfl) (by omega) (by omega) (by rw [hGF]; decide) (by intro i h; cases List.mem_singleton.mp h; exact aj_no.of rfl) (s_L_place (b := true) hC hB (by decide) (hl.noL (by decide)) ?_)
    intro k1 I1 J1 hR1 hc1 ha1
    subst hc1
    show aj_X G 1229 _ _ _ _ _ _ _ _ _
    have hv := hl.vc hR1
    have hu := hx.rv hR1
    have hl1 := hl.c hR1
    have hx1 := hx.e hB hR1.1 (by decide)
    show aj_X G 1229 _ _ _ _ _ _ _ _ _
    refine y_istore5 (q := 1231) C 17 rfl rfl (Nat.le_of_ble_eq_true rfl) rfl ?_
    refine y_aload2 (q := 1232) C 18 rfl rfl ?_
    refine y_aload0 (q := 1233) C 19 rfl rfl ?_
    refine y_iload4 (q := 1235) C 20 rfl rfl ?_
    refine x_iconst (q := 1236) C 21 (n := (1)) (v := (1)) rfl rfl rfl ?_
    refine x_iadd (q := 1237) C 22 rfl rfl ?_
    refine x_sld (q := 1238) C hS0 23 rfl rfl hv1 ?_
    refine y_aload0 (q := 1239) C 24 rfl rfl ?_
    refine y_iload4 (q := 1241) C 25 rfl rfl ?_
    refine x_iconst (q := 1242) C 26 (n := (2)) (v := (2)) rfl rfl rfl ?_
    refine x_iadd (q := 1243) C 27 rfl rfl ?_
    refine x_sld (q := 1244) C hS0 28 rfl rfl hv2 ?_
    refine x_if_eq (q := 1247) (t := 1251) C 29 rfl (by decide) rfl (fun c3 => ?_) (fun c3 => ?_)
    · skip
      exact absurd c3 (by assumption)
    · skip
      refine x_iconst (q := 1248) C 30 (n := (1)) (v := (1)) rfl rfl rfl ?_
      refine x_goto (t := 1252) C 31 rfl (by decide) ?_
      refine z_V2 (q := 1255) (bc' := bc + 59) (bs' := bs + 3594) C 33 rfl rfl ml_RL_205 cd_X5_place cv_X5_place ⟨by decide, rfl⟩ (by decide) (by decide) (Nat.le_of_ble_eq_true rfl) (by omega) (by omega) aj_f0 aj_f0 (s_X5_place (b := true) hl1.2.1 hl1.2.2.2.1 ?_)
      intro k2 I2 J2 hR2 hc2 ha2
      show aj_X G 1255 _ _ _ _ _ _ _ _ _
      try rw [hv] at hc2
      try rw [hv] at ha2
      have hl2 := hl1.m hR2
      have hx2 := hx1.e hB hR2.1 (by decide)
      show aj_X G 1255 _ _ _ _ _ _ _ _ _
      refine y_istore6 (q := 1257) C 34 rfl rfl (Nat.le_of_ble_eq_true rfl) rfl ?_
      refine x_goto (t := 1657) C 35 rfl (by decide) ?_
      refine aj_bud (bc' := bc) (bs' := bs) (by omega) (by omega) (aj_fg (kk _ _ _ _ hl2 hx2))
set_option maxRecDepth 100000 in
set_option maxHeartbeats 2000000 in
theorem lc_27 {G : aj_G} {I : Nat → Nat → Int32} {J : Nat → Nat → Int64} {V : Nat → Nat → Option Nat} {N : Nat → Nat} {n t bc bs : Nat} {xs : Nat → Int32} (C : aj_C G code t_law_27 RL room_1 7) (hS0 : lS G n xs) (hGL : gL G = []) (hGF : gF G = lGF) (hl : lI I V N) (hx : lX I V) (ht : 5 * t + 5 ≤ n) (hn : n ≤ 320)
    (kk : ∀ I1 J1 V1 N1, lI I1 V1 N1 → lX I1 V1 → aj_X G 1657 [some (.ref 8), some (.ref 20), some (.ref 22), some (.ref 21), some (.int (nI (5 * t))), none, none] [] I1 J1 V1 N1 aj_LL bc bs) : aj_X G 1260 [some (.ref 8), some (.ref 20), some (.ref 22), some (.ref 21), some (.int (nI (5 * t))), none, none] [] I J V N aj_LL (bc + 60) (bs + 3600) := by
  have hl0 := hl
  obtain ⟨⟨nn, hC⟩, hM, hkn, hB, hV⟩ := hl0
  have hv1 : vp_in (nI (5 * t) + 1) n := by rw [show nI (5 * t) + 1 = nI (5 * t + 1) from nI_add _ 1]; exact nI_in (by omega) (by omega)
  have hv2 : vp_in (nI (5 * t) + 2) n := by rw [show nI (5 * t) + 2 = nI (5 * t + 2) from nI_add _ 2]; exact nI_in (by omega) (by omega)
  have hv3 : vp_in (nI (5 * t) + 3) n := by rw [show nI (5 * t) + 3 = nI (5 * t + 3) from nI_add _ 3]; exact nI_in (by omega) (by omega)
  have hv4 : vp_in (nI (5 * t) + 4) n := by rw [show nI (5 * t) + 4 = nI (5 * t + 4) from nI_add _ 4]; exact nI_in (by omega) (by omega)
  refine y_aload1 (q := 1261) C 0 rfl rfl ?_
  refine y_aload0 (q := 1262) C 1 rfl rfl ?_
  refine y_iload4 (q := 1264) C 2 rfl rfl ?_
  refine x_iconst (q := 1265) C 3 (n := (1)) (v := (1)) rfl rfl rfl ?_
  refine x_iadd (q := 1266) C 4 rfl rfl ?_
  refine x_sld (q := 1267) C hS0 5 rfl rfl hv1 ?_
  refine x_if_eq (q := 1270) (t := 1274) C 6 rfl (by decide) rfl (fun c1 => ?_) (fun c1 => ?_)
  · skip
    refine x_iconst (q := 1275) C 9 (n := (0)) (v := (0)) rfl rfl rfl ?_
    refine z_V1 (q := 1278) (bc' := bc + 60) (bs' := bs + 3600) C 10 rfl rfl ml_RL_206 cd_X3_centreAt cv_X3_centreAt ⟨by decide, rfl⟩ (by decide) (by decide) (Nat.le_of_ble_eq_true rfl) (by omega) (by omega) aj_f0 aj_f0 (s_X3_centreAt (b := false) hB ?_)
    show aj_X G 1278 _ _ _ _ _ _ _ _ _
    have hl1 := hl
    have hx1 := hx
    show aj_X G 1278 _ _ _ _ _ _ _ _ _
    refine x_pop (q := 1279) C 11 rfl rfl rfl ?_
    refine y_aload2 (q := 1280) C 12 rfl rfl ?_
    refine y_aload0 (q := 1281) C 13 rfl rfl ?_
    refine y_iload4 (q := 1283) C 14 rfl rfl ?_
    refine x_iconst (q := 1284) C 15 (n := (1)) (v := (1)) rfl rfl rfl ?_
    refine x_iadd (q := 1285) C 16 rfl rfl ?_
    refine x_sld (q := 1286) C hS0 17 rfl rfl hv1 ?_
    refine x_if_eq (q := 1289) (t := 1293) C 18 rfl (by decide) rfl (fun c2 => ?_) (fun c2 => ?_)
    · skip
      refine x_iconst (q := 1294) C 21 (n := (0)) (v := (0)) rfl rfl rfl ?_
      refine z_V1 (q := 1297) (bc' := bc + 60) (bs' := bs + 3600) C 22 rfl rfl ml_RL_209 cd_X5_centreAt cv_X5_centreAt ⟨by decide, rfl⟩ (by decide) (by decide) (Nat.le_of_ble_eq_true rfl) (by omega) (by omega) aj_f0 aj_f0 (s_X5_centreAt (b := false) hM hB ?_)
      intro I2 hR2
      show aj_X G 1297 _ _ _ _ _ _ _ _ _
      have hl2 := hl.m hR2
      have hx2 := hx1.e hB hR2.1 (by decide)
      show aj_X G 1297 _ _ _ _ _ _ _ _ _
      refine x_pop (q := 1298) C 23 rfl rfl rfl ?_
      refine x_goto (t := 1657) C 24 rfl (by decide) ?_
      refine aj_bud (bc' := bc) (bs' := bs) (by omega) (by omega) (aj_fg (kk _ _ _ _ hl2 hx2))
    · skip
      exact absurd (by assumption) c2
  · skip
    refine x_iconst (q := 1271) C 7 (n := (1)) (v := (1)) rfl rfl rfl ?_
    refine x_goto (t := 1275) C 8 rfl (by decide) ?_
    refine z_V1 (q := 1278) (bc' := bc + 60) (bs' := bs + 3600) C 10 rfl rfl ml_RL_206 cd_X3_centreAt cv_X3_centreAt ⟨by decide, rfl⟩ (by decide) (by decide) (Nat.le_of_ble_eq_true rfl) (by omega) (by omega) aj_f0 aj_f0 (s_X3_centreAt (b := true) hB ?_)
    show aj_X G 1278 _ _ _ _ _ _ _ _ _
    have hl1 := hl
    have hx1 := hx
    show aj_X G 1278 _ _ _ _ _ _ _ _ _
    refine x_pop (q := 1279) C 11 rfl rfl rfl ?_
    refine y_aload2 (q := 1280) C 12 rfl rfl ?_
    refine y_aload0 (q := 1281) C 13 rfl rfl ?_
    refine y_iload4 (q := 1283) C 14 rfl rfl ?_
    refine x_iconst (q := 1284) C 15 (n := (1)) (v := (1)) rfl rfl rfl ?_
    refine x_iadd (q := 1285) C 16 rfl rfl ?_
    refine x_sld (q := 1286) C hS0 17 rfl rfl hv1 ?_
    refine x_if_eq (q := 1289) (t := 1293) C 18 rfl (by decide) rfl (fun c3 => ?_) (fun c3 => ?_)
    · skip
      exact absurd c3 (by assumption)
    · skip
      refine x_iconst (q := 1290) C 19 (n := (1)) (v := (1)) rfl rfl rfl ?_
      refine x_goto (t := 1294) C 20 rfl (by decide) ?_
      refine z_V1 (q := 1297) (bc' := bc + 60) (bs' := bs + 3600) C 22 rfl rfl ml_RL_209 cd_X5_centreAt cv_X5_centreAt ⟨by decide, rfl⟩ (by decide) (by decide) (Nat.le_of_ble_eq_true rfl) (by omega) (by omega) aj_f0 aj_f0 (s_X5_centreAt (b := true) hM hB ?_)
      intro I2 hR2
      show aj_X G 1297 _ _ _ _ _ _ _ _ _
      have hl2 := hl.m hR2
      have hx2 := hx1.e hB hR2.1 (by decide)
      show aj_X G 1297 _ _ _ _ _ _ _ _ _
      refine x_pop (q := 1298) C 23 rfl rfl rfl ?_
      refine x_goto (t := 1657) C 24 rfl (by decide) ?_
      refine aj_bud (bc' := bc) (bs' := bs) (by omega) (by omega) (aj_fg (kk _ _ _ _ hl2 hx2))
set_option maxRecDepth 100000 in
set_option maxHeartbeats 2000000 in
theorem lc_28 {G : aj_G} {I : Nat → Nat → Int32} {J : Nat → Nat → Int64} {V : Nat → Nat → Option Nat} {N : Nat → Nat} {n t bc bs : Nat} {xs : Nat → Int32} (C : aj_C G code t_law_28 RL room_1 7) (hS0 : lS G n xs) (hGL : gL G = []) (hGF : gF G = lGF) (hl : lI I V N) (hx : lX I V) (ht : 5 * t + 5 ≤ n) (hn : n ≤ 320)
    (kk : ∀ I1 J1 V1 N1, lI I1 V1 N1 → lX I1 V1 → aj_X G 1657 [some (.ref 8), some (.ref 20), some (.ref 22), some (.ref 21), some (.int (nI (5 * t))), none, none] [] I1 J1 V1 N1 aj_LL bc bs) : aj_X G 1301 [some (.ref 8), some (.ref 20), some (.ref 22), some (.ref 21), some (.int (nI (5 * t))), none, none] [] I J V N aj_LL (bc + 60) (bs + 3600) := by
  have hl0 := hl
  obtain ⟨⟨nn, hC⟩, hM, hkn, hB, hV⟩ := hl0
  have hv1 : vp_in (nI (5 * t) + 1) n := by rw [show nI (5 * t) + 1 = nI (5 * t + 1) from nI_add _ 1]; exact nI_in (by omega) (by omega)
  have hv2 : vp_in (nI (5 * t) + 2) n := by rw [show nI (5 * t) + 2 = nI (5 * t + 2) from nI_add _ 2]; exact nI_in (by omega) (by omega)
  have hv3 : vp_in (nI (5 * t) + 3) n := by rw [show nI (5 * t) + 3 = nI (5 * t + 3) from nI_add _ 3]; exact nI_in (by omega) (by omega)
  have hv4 : vp_in (nI (5 * t) + 4) n := by rw [show nI (5 * t) + 4 = nI (5 * t + 4) from nI_add _ 4]; exact nI_in (by omega) (by omega)
  refine y_aload1 (q := 1302) C 0 rfl rfl ?_
  refine y_aload0 (q := 1303) C 1 rfl rfl ?_
  refine y_iload4 (q := 1305) C 2 rfl rfl ?_
  refine x_iconst (q := 1306) C 3 (n := (1)) (v := (1)) rfl rfl rfl ?_
  refine x_iadd (q := 1307) C 4 rfl rfl ?_
  refine x_sld (q := 1308) C hS0 5 rfl rfl hv1 ?_
  refine y_aload0 (q := 1309) C 6 rfl rfl ?_
  refine y_iload4 (q := 1311) C 7 rfl rfl ?_
  refine x_iconst (q := 1312) C 8 (n := (2)) (v := (2)) rfl rfl rfl ?_
  refine x_iadd (q := 1313) C 9 rfl rfl ?_
  refine x_sld (q := 1314) C hS0 10 rfl rfl hv2 ?_
  refine y_aload0 (q := 1315) C 11 rfl rfl ?_
  refine y_iload4 (q := 1317) C 12 rfl rfl ?_
  refine x_iconst (q := 1318) C 13 (n := (3)) (v := (3)) rfl rfl rfl ?_
  refine x_iadd (q := 1319) C 14 rfl rfl ?_
  refine x_sld (q := 1320) C hS0 15 rfl rfl hv3 ?_
  refine y_aload3 (q := 1321) C 16 rfl rfl ?_
  refine z_T5 (q := 1324) (bc' := bc + 57) (bs' := bs + 3582) C 17 rfl rfl ml_RL_210 cd_L_bearing (by decide) (Nat.le_of_ble_eq_true rfl) (by omega) (by omega) (by rw [hGF]; decide) (by intro i h; cases List.mem_singleton.mp h; exact aj_no.of rfl) (s_L_bearing hC hB (by decide) (hl.noL (by decide)) hl.2.2.1.2 (vR.of hl) ?_)
  intro k1 I1 J1 hR1 hc1 ha1
  subst hc1
  show aj_X G 1324 _ _ _ _ _ _ _ _ _
  have hv := hl.vc hR1
  have hu := hx.rv hR1
  have hl1 := hl.c hR1
  have hx1 := hx.e hB hR1.1 (by decide)
  show aj_X G 1324 _ _ _ _ _ _ _ _ _
  refine y_istore5 (q := 1326) C 18 rfl rfl (Nat.le_of_ble_eq_true rfl) rfl ?_
  refine y_aload2 (q := 1327) C 19 rfl rfl ?_
  refine y_aload0 (q := 1328) C 20 rfl rfl ?_
  refine y_iload4 (q := 1330) C 21 rfl rfl ?_
  refine x_iconst (q := 1331) C 22 (n := (1)) (v := (1)) rfl rfl rfl ?_
  refine x_iadd (q := 1332) C 23 rfl rfl ?_
  refine x_sld (q := 1333) C hS0 24 rfl rfl hv1 ?_
  refine y_aload0 (q := 1334) C 25 rfl rfl ?_
  refine y_iload4 (q := 1336) C 26 rfl rfl ?_
  refine x_iconst (q := 1337) C 27 (n := (2)) (v := (2)) rfl rfl rfl ?_
  refine x_iadd (q := 1338) C 28 rfl rfl ?_
  refine x_sld (q := 1339) C hS0 29 rfl rfl hv2 ?_
  refine y_aload0 (q := 1340) C 30 rfl rfl ?_
  refine y_iload4 (q := 1342) C 31 rfl rfl ?_
  refine x_iconst (q := 1343) C 32 (n := (3)) (v := (3)) rfl rfl rfl ?_
  refine x_iadd (q := 1344) C 33 rfl rfl ?_
  refine x_sld (q := 1345) C hS0 34 rfl rfl hv3 ?_
  refine z_V3 (q := 1348) (bc' := bc + 57) (bs' := bs + 3582) C 35 rfl rfl ml_RL_212 cd_X5_bearing cv_X5_bearing ⟨by decide, rfl⟩ (by decide) (by decide) (Nat.le_of_ble_eq_true rfl) (by omega) (by omega) aj_f0 aj_f0 (s_X5_bearing hl1.2.1 hl1.2.2.2.1 ?_)
  intro k2 I2 J2 hR2 hc2 ha2
  show aj_X G 1348 _ _ _ _ _ _ _ _ _
  try rw [hv] at hc2
  try rw [hv] at ha2
  have hl2 := hl1.m hR2
  have hx2 := hx1.e hB hR2.1 (by decide)
  show aj_X G 1348 _ _ _ _ _ _ _ _ _
  refine y_istore6 (q := 1350) C 36 rfl rfl (Nat.le_of_ble_eq_true rfl) rfl ?_
  refine y_aload2 (q := 1351) C 37 rfl rfl ?_
  refine z_V0 (q := 1354) (bc' := bc + 57) (bs' := bs + 3582) C 38 rfl rfl ml_RL_213 cd_X5_thrown cv_X5_thrown ⟨by decide, rfl⟩ (by decide) (by decide) (Nat.le_of_ble_eq_true rfl) (by omega) (by omega) aj_f0 aj_f0 (s_X5_thrown hl2.2.2.2.1 ?_)
  show aj_X G 1354 _ _ _ _ _ _ _ _ _
  rw [hc2]
  show aj_X G 1354 _ _ _ _ _ _ _ _ _
  refine y_iload5 (q := 1356) C 39 rfl rfl ?_
  refine x_icmp_eq (q := 1359) (t := 1361) C 40 rfl (by decide) rfl (fun c1 => ?_) (fun c1 => ?_)
  · skip
    refine y_iload5 (q := 1363) C 43 rfl rfl ?_
    refine x_if_ne (q := 1366) (t := 1379) C 44 rfl (by decide) rfl (fun c2 => ?_) (fun c2 => ?_)
    · skip
      refine x_goto (t := 1657) C 53 rfl (by decide) ?_
      refine aj_bud (bc' := bc) (bs' := bs) (by omega) (by omega) (aj_fg (kk _ _ _ _ hl2 hx2))
    · skip
      refine y_aload3 (q := 1367) C 45 rfl rfl ?_
      refine x_getJN (q := 1370) C 46 rfl rfl fl_RL_13 (fun _ _ => rfl) (by first | assumption | rfl | decide) (by first | assumption | rfl | decide) ?_
      rw [show J2 21 0 = J1 21 0 from congrFun (hR2.2.2.2 21 (by decide)) 0]
      refine y_iload6 (q := 1372) C 47 rfl rfl ?_
      refine x_i2l (q := 1373) C 48 rfl rfl ?_
      refine x_lcmp (q := 1374) C 49 rfl rfl ?_
      refine x_if_eq (q := 1377) (t := 1379) C 50 rfl (by decide) rfl (fun c3 => ?_) (fun c3 => ?_)
      · skip
        refine x_goto (t := 1657) C 53 rfl (by decide) ?_
        refine aj_bud (bc' := bc) (bs' := bs) (by omega) (by omega) (aj_fg (kk _ _ _ _ hl2 hx2))
      · skip
        exact absurd (by rw [ha1 (by assumption), ha2 (by assumption)]; exact lg_cmp_self _) c3
  · skip
    exact absurd rfl c1
set_option maxRecDepth 100000 in
set_option maxHeartbeats 2000000 in
theorem lc_29 {G : aj_G} {I : Nat → Nat → Int32} {J : Nat → Nat → Int64} {V : Nat → Nat → Option Nat} {N : Nat → Nat} {n t bc bs : Nat} {xs : Nat → Int32} (C : aj_C G code t_law_29 RL room_1 7) (hS0 : lS G n xs) (hGL : gL G = []) (hGF : gF G = lGF) (hl : lI I V N) (hx : lX I V) (ht : 5 * t + 5 ≤ n) (hn : n ≤ 320)
    (kk : ∀ I1 J1 V1 N1, lI I1 V1 N1 → lX I1 V1 → aj_X G 1657 [some (.ref 8), some (.ref 20), some (.ref 22), some (.ref 21), some (.int (nI (5 * t))), none, none] [] I1 J1 V1 N1 aj_LL bc bs) : aj_X G 1382 [some (.ref 8), some (.ref 20), some (.ref 22), some (.ref 21), some (.int (nI (5 * t))), none, none] [] I J V N aj_LL (bc + 60) (bs + 3600) := by
  have hl0 := hl
  obtain ⟨⟨nn, hC⟩, hM, hkn, hB, hV⟩ := hl0
  have hv1 : vp_in (nI (5 * t) + 1) n := by rw [show nI (5 * t) + 1 = nI (5 * t + 1) from nI_add _ 1]; exact nI_in (by omega) (by omega)
  have hv2 : vp_in (nI (5 * t) + 2) n := by rw [show nI (5 * t) + 2 = nI (5 * t + 2) from nI_add _ 2]; exact nI_in (by omega) (by omega)
  have hv3 : vp_in (nI (5 * t) + 3) n := by rw [show nI (5 * t) + 3 = nI (5 * t + 3) from nI_add _ 3]; exact nI_in (by omega) (by omega)
  have hv4 : vp_in (nI (5 * t) + 4) n := by rw [show nI (5 * t) + 4 = nI (5 * t + 4) from nI_add _ 4]; exact nI_in (by omega) (by omega)
  refine y_aload1 (q := 1383) C 0 rfl rfl ?_
  refine y_aload0 (q := 1384) C 1 rfl rfl ?_
  refine y_iload4 (q := 1386) C 2 rfl rfl ?_
  refine x_iconst (q := 1387) C 3 (n := (1)) (v := (1)) rfl rfl rfl ?_
  refine x_iadd (q := 1388) C 4 rfl rfl ?_
  refine x_sld (q := 1389) C hS0 5 rfl rfl hv1 ?_
  refine y_aload0 (q := 1390) C 6 rfl rfl ?_
  refine y_iload4 (q := 1392) C 7 rfl rfl ?_
  refine x_iconst (q := 1393) C 8 (n := (2)) (v := (2)) rfl rfl rfl ?_
  refine x_iadd (q := 1394) C 9 rfl rfl ?_
  refine x_sld (q := 1395) C hS0 10 rfl rfl hv2 ?_
  refine y_aload0 (q := 1396) C 11 rfl rfl ?_
  refine y_iload4 (q := 1398) C 12 rfl rfl ?_
  refine x_iconst (q := 1399) C 13 (n := (3)) (v := (3)) rfl rfl rfl ?_
  refine x_iadd (q := 1400) C 14 rfl rfl ?_
  refine x_sld (q := 1401) C hS0 15 rfl rfl hv3 ?_
  refine y_aload3 (q := 1402) C 16 rfl rfl ?_
  refine z_T5 (q := 1405) (bc' := bc + 57) (bs' := bs + 3582) C 17 rfl rfl ml_RL_216 cd_L_bearingOrder (by decide) (Nat.le_of_ble_eq_true rfl) (by omega) (by omega) (by rw [hGF]; decide) (by intro i h; cases List.mem_singleton.mp h; exact aj_no.of rfl) (s_L_bearingOrder hC hB (by decide) (hl.noL (by decide)) hl.2.2.1.2 ?_)
  intro k1 I1 J1 hR1 hc1 ha1
  subst hc1
  show aj_X G 1405 _ _ _ _ _ _ _ _ _
  have hv := hl.vc hR1
  have hu := hx.rv hR1
  have hl1 := hl.c hR1
  have hx1 := hx.e hB hR1.1 (by decide)
  show aj_X G 1405 _ _ _ _ _ _ _ _ _
  refine y_istore5 (q := 1407) C 18 rfl rfl (Nat.le_of_ble_eq_true rfl) rfl ?_
  refine y_aload2 (q := 1408) C 19 rfl rfl ?_
  refine y_aload0 (q := 1409) C 20 rfl rfl ?_
  refine y_iload4 (q := 1411) C 21 rfl rfl ?_
  refine x_iconst (q := 1412) C 22 (n := (1)) (v := (1)) rfl rfl rfl ?_
  refine x_iadd (q := 1413) C 23 rfl rfl ?_
  refine x_sld (q := 1414) C hS0 24 rfl rfl hv1 ?_
  refine y_aload0 (q := 1415) C 25 rfl rfl ?_
  refine y_iload4 (q := 1417) C 26 rfl rfl ?_
  refine x_iconst (q := 1418) C 27 (n := (2)) (v := (2)) rfl rfl rfl ?_
  refine x_iadd (q := 1419) C 28 rfl rfl ?_
  refine x_sld (q := 1420) C hS0 29 rfl rfl hv2 ?_
  refine y_aload0 (q := 1421) C 30 rfl rfl ?_
  refine y_iload4 (q := 1423) C 31 rfl rfl ?_
  refine x_iconst (q := 1424) C 32 (n := (3)) (v := (3)) rfl rfl rfl ?_
  refine x_iadd (q := 1425) C 33 rfl rfl ?_
  refine x_sld (q := 1426) C hS0 34 rfl rfl hv3 ?_
  refine z_V3 (q := 1429) (bc' := bc + 57) (bs' := bs + 3582) C 35 rfl rfl ml_RL_218 cd_X5_bearingOrder cv_X5_bearingOrder ⟨by decide, rfl⟩ (by decide) (by decide) (Nat.le_of_ble_eq_true rfl) (by omega) (by omega) aj_f0 aj_f0 (s_X5_bearingOrder hl1.2.1 hl1.2.2.2.1 ?_)
  intro k2 I2 J2 hR2 hc2 ha2
  show aj_X G 1429 _ _ _ _ _ _ _ _ _
  try rw [hv] at hc2
  try rw [hv] at ha2
  have hl2 := hl1.m hR2
  have hx2 := hx1.e hB hR2.1 (by decide)
  show aj_X G 1429 _ _ _ _ _ _ _ _ _
  refine y_istore6 (q := 1431) C 36 rfl rfl (Nat.le_of_ble_eq_true rfl) rfl ?_
  refine x_goto (t := 1657) C 37 rfl (by decide) ?_
  refine aj_bud (bc' := bc) (bs' := bs) (by omega) (by omega) (aj_fg (kk _ _ _ _ hl2 hx2))
set_option maxRecDepth 100000 in
set_option maxHeartbeats 2000000 in
theorem lc_30 {G : aj_G} {I : Nat → Nat → Int32} {J : Nat → Nat → Int64} {V : Nat → Nat → Option Nat} {N : Nat → Nat} {n t bc bs : Nat} {xs : Nat → Int32} (C : aj_C G code t_law_30 RL room_1 7) (hS0 : lS G n xs) (hGL : gL G = []) (hGF : gF G = lGF) (hl : lI I V N) (hx : lX I V) (ht : 5 * t + 5 ≤ n) (hn : n ≤ 320)
    (kk : ∀ I1 J1 V1 N1, lI I1 V1 N1 → lX I1 V1 → aj_X G 1657 [some (.ref 8), some (.ref 20), some (.ref 22), some (.ref 21), some (.int (nI (5 * t))), none, none] [] I1 J1 V1 N1 aj_LL bc bs) : aj_X G 1434 [some (.ref 8), some (.ref 20), some (.ref 22), some (.ref 21), some (.int (nI (5 * t))), none, none] [] I J V N aj_LL (bc + 60) (bs + 3600) := by
  have hl0 := hl
  obtain ⟨⟨nn, hC⟩, hM, hkn, hB, hV⟩ := hl0
  have hv1 : vp_in (nI (5 * t) + 1) n := by rw [show nI (5 * t) + 1 = nI (5 * t + 1) from nI_add _ 1]; exact nI_in (by omega) (by omega)
  have hv2 : vp_in (nI (5 * t) + 2) n := by rw [show nI (5 * t) + 2 = nI (5 * t + 2) from nI_add _ 2]; exact nI_in (by omega) (by omega)
  have hv3 : vp_in (nI (5 * t) + 3) n := by rw [show nI (5 * t) + 3 = nI (5 * t + 3) from nI_add _ 3]; exact nI_in (by omega) (by omega)
  have hv4 : vp_in (nI (5 * t) + 4) n := by rw [show nI (5 * t) + 4 = nI (5 * t + 4) from nI_add _ 4]; exact nI_in (by omega) (by omega)
  refine y_aload1 (q := 1435) C 0 rfl rfl ?_
  refine y_aload0 (q := 1436) C 1 rfl rfl ?_
  refine y_iload4 (q := 1438) C 2 rfl rfl ?_
  refine x_iconst (q := 1439) C 3 (n := (1)) (v := (1)) rfl rfl rfl ?_
  refine x_iadd (q := 1440) C 4 rfl rfl ?_
  refine x_sld (q := 1441) C hS0 5 rfl rfl hv1 ?_
  refine y_aload0 (q := 1442) C 6 rfl rfl ?_
  refine y_iload4 (q := 1444) C 7 rfl rfl ?_
  refine x_iconst (q := 1445) C 8 (n := (2)) (v := (2)) rfl rfl rfl ?_
  refine x_iadd (q := 1446) C 9 rfl rfl ?_
  refine x_sld (q := 1447) C hS0 10 rfl rfl hv2 ?_
  refine y_aload0 (q := 1448) C 11 rfl rfl ?_
  refine y_iload4 (q := 1450) C 12 rfl rfl ?_
  refine x_iconst (q := 1451) C 13 (n := (3)) (v := (3)) rfl rfl rfl ?_
  refine x_iadd (q := 1452) C 14 rfl rfl ?_
  refine x_sld (q := 1453) C hS0 15 rfl rfl hv3 ?_
  refine y_aload3 (q := 1454) C 16 rfl rfl ?_
  refine z_T5 (q := 1457) (bc' := bc + 57) (bs' := bs + 3582) C 17 rfl rfl ml_RL_219 cd_L_left (by decide) (Nat.le_of_ble_eq_true rfl) (by omega) (by omega) (by rw [hGF]; decide) (by intro i h; cases List.mem_singleton.mp h; exact aj_no.of rfl) (s_L_left hC hB (by decide) (hl.noL (by decide)) ?_)
  intro k1 I1 J1 hR1 hc1 ha1
  subst hc1
  show aj_X G 1457 _ _ _ _ _ _ _ _ _
  have hv := hl.vc hR1
  have hu := hx.rv hR1
  have hl1 := hl.c hR1
  have hx1 := hx.e hB hR1.1 (by decide)
  show aj_X G 1457 _ _ _ _ _ _ _ _ _
  refine y_istore5 (q := 1459) C 18 rfl rfl (Nat.le_of_ble_eq_true rfl) rfl ?_
  refine y_aload2 (q := 1460) C 19 rfl rfl ?_
  refine y_aload0 (q := 1461) C 20 rfl rfl ?_
  refine y_iload4 (q := 1463) C 21 rfl rfl ?_
  refine x_iconst (q := 1464) C 22 (n := (1)) (v := (1)) rfl rfl rfl ?_
  refine x_iadd (q := 1465) C 23 rfl rfl ?_
  refine x_sld (q := 1466) C hS0 24 rfl rfl hv1 ?_
  refine y_aload0 (q := 1467) C 25 rfl rfl ?_
  refine y_iload4 (q := 1469) C 26 rfl rfl ?_
  refine x_iconst (q := 1470) C 27 (n := (2)) (v := (2)) rfl rfl rfl ?_
  refine x_iadd (q := 1471) C 28 rfl rfl ?_
  refine x_sld (q := 1472) C hS0 29 rfl rfl hv2 ?_
  refine y_aload0 (q := 1473) C 30 rfl rfl ?_
  refine y_iload4 (q := 1475) C 31 rfl rfl ?_
  refine x_iconst (q := 1476) C 32 (n := (3)) (v := (3)) rfl rfl rfl ?_
  refine x_iadd (q := 1477) C 33 rfl rfl ?_
  refine x_sld (q := 1478) C hS0 34 rfl rfl hv3 ?_
  refine z_V3 (q := 1481) (bc' := bc + 57) (bs' := bs + 3582) C 35 rfl rfl ml_RL_221 cd_X5_left cv_X5_left ⟨by decide, rfl⟩ (by decide) (by decide) (Nat.le_of_ble_eq_true rfl) (by omega) (by omega) aj_f0 aj_f0 (s_X5_left hl1.2.1 hl1.2.2.2.1 ?_)
  intro k2 I2 J2 hR2 hc2 ha2
  show aj_X G 1481 _ _ _ _ _ _ _ _ _
  try rw [hv] at hc2
  try rw [hv] at ha2
  have hl2 := hl1.m hR2
  have hx2 := hx1.e hB hR2.1 (by decide)
  show aj_X G 1481 _ _ _ _ _ _ _ _ _
  refine y_istore6 (q := 1483) C 36 rfl rfl (Nat.le_of_ble_eq_true rfl) rfl ?_
  refine x_goto (t := 1657) C 37 rfl (by decide) ?_
  refine aj_bud (bc' := bc) (bs' := bs) (by omega) (by omega) (aj_fg (kk _ _ _ _ hl2 hx2))
set_option maxRecDepth 100000 in
set_option maxHeartbeats 2000000 in
theorem lc_31 {G : aj_G} {I : Nat → Nat → Int32} {J : Nat → Nat → Int64} {V : Nat → Nat → Option Nat} {N : Nat → Nat} {n t bc bs : Nat} {xs : Nat → Int32} (C : aj_C G code t_law_31 RL room_1 7) (hS0 : lS G n xs) (hGL : gL G = []) (hGF : gF G = lGF) (hl : lI I V N) (hx : lX I V) (ht : 5 * t + 5 ≤ n) (hn : n ≤ 320)
    (kk : ∀ I1 J1 V1 N1, lI I1 V1 N1 → lX I1 V1 → aj_X G 1657 [some (.ref 8), some (.ref 20), some (.ref 22), some (.ref 21), some (.int (nI (5 * t))), none, none] [] I1 J1 V1 N1 aj_LL bc bs) : aj_X G 1486 [some (.ref 8), some (.ref 20), some (.ref 22), some (.ref 21), some (.int (nI (5 * t))), none, none] [] I J V N aj_LL (bc + 60) (bs + 3600) := by
  have hl0 := hl
  obtain ⟨⟨nn, hC⟩, hM, hkn, hB, hV⟩ := hl0
  have hv1 : vp_in (nI (5 * t) + 1) n := by rw [show nI (5 * t) + 1 = nI (5 * t + 1) from nI_add _ 1]; exact nI_in (by omega) (by omega)
  have hv2 : vp_in (nI (5 * t) + 2) n := by rw [show nI (5 * t) + 2 = nI (5 * t + 2) from nI_add _ 2]; exact nI_in (by omega) (by omega)
  have hv3 : vp_in (nI (5 * t) + 3) n := by rw [show nI (5 * t) + 3 = nI (5 * t + 3) from nI_add _ 3]; exact nI_in (by omega) (by omega)
  have hv4 : vp_in (nI (5 * t) + 4) n := by rw [show nI (5 * t) + 4 = nI (5 * t + 4) from nI_add _ 4]; exact nI_in (by omega) (by omega)
  refine y_aload1 (q := 1487) C 0 rfl rfl ?_
  refine z_V0 (q := 1490) (bc' := bc + 60) (bs' := bs + 3600) C 1 rfl rfl ml_RL_222 cd_X3_roundCount cv_X3_roundCount ⟨by decide, rfl⟩ (by decide) (by decide) (Nat.le_of_ble_eq_true rfl) (by omega) (by omega) aj_f0 aj_f0 (w_roundCount hC hB (vR.of hl) (vRc.of hl) ?_)
  intro k1 I1 J1 _ hR1 ha1
  show aj_X G 1490 _ _ _ _ _ _ _ _ _
  have hv := hl.vc hR1
  have hl1 := hl.c hR1
  have hx1 := hx.e hB hR1.1 (by decide)
  show aj_X G 1490 _ _ _ _ _ _ _ _ _
  refine x_pop (q := 1491) C 2 rfl rfl rfl ?_
  refine y_aload2 (q := 1492) C 3 rfl rfl ?_
  refine z_V0 (q := 1495) (bc' := bc + 60) (bs' := bs + 3600) C 4 rfl rfl ml_RL_225 cd_X5_roundCount cv_X5_roundCount ⟨by decide, rfl⟩ (by decide) (by decide) (Nat.le_of_ble_eq_true rfl) (by omega) (by omega) aj_f0 aj_f0 (s_X5_roundCount hl1.2.1 hl1.2.2.2.1 ?_)
  intro I2 hR2
  show aj_X G 1495 _ _ _ _ _ _ _ _ _
  have hl2 := hl1.m hR2
  have hx2 := hx1.e hB hR2.1 (by decide)
  show aj_X G 1495 _ _ _ _ _ _ _ _ _
  refine x_pop (q := 1496) C 5 rfl rfl rfl ?_
  refine x_goto (t := 1657) C 6 rfl (by decide) ?_
  refine aj_bud (bc' := bc) (bs' := bs) (by omega) (by omega) (aj_fg (kk _ _ _ _ hl2 hx2))
set_option maxRecDepth 100000 in
set_option maxHeartbeats 2000000 in
theorem lc_32 {G : aj_G} {I : Nat → Nat → Int32} {J : Nat → Nat → Int64} {V : Nat → Nat → Option Nat} {N : Nat → Nat} {n t bc bs : Nat} {xs : Nat → Int32} (C : aj_C G code t_law_32 RL room_1 7) (hS0 : lS G n xs) (hGL : gL G = []) (hGF : gF G = lGF) (hl : lI I V N) (hx : lX I V) (ht : 5 * t + 5 ≤ n) (hn : n ≤ 320)
    (kk : ∀ I1 J1 V1 N1, lI I1 V1 N1 → lX I1 V1 → aj_X G 1657 [some (.ref 8), some (.ref 20), some (.ref 22), some (.ref 21), some (.int (nI (5 * t))), none, none] [] I1 J1 V1 N1 aj_LL bc bs) : aj_X G 1499 [some (.ref 8), some (.ref 20), some (.ref 22), some (.ref 21), some (.int (nI (5 * t))), none, none] [] I J V N aj_LL (bc + 60) (bs + 3600) := by
  have hl0 := hl
  obtain ⟨⟨nn, hC⟩, hM, hkn, hB, hV⟩ := hl0
  have hv1 : vp_in (nI (5 * t) + 1) n := by rw [show nI (5 * t) + 1 = nI (5 * t + 1) from nI_add _ 1]; exact nI_in (by omega) (by omega)
  have hv2 : vp_in (nI (5 * t) + 2) n := by rw [show nI (5 * t) + 2 = nI (5 * t + 2) from nI_add _ 2]; exact nI_in (by omega) (by omega)
  have hv3 : vp_in (nI (5 * t) + 3) n := by rw [show nI (5 * t) + 3 = nI (5 * t + 3) from nI_add _ 3]; exact nI_in (by omega) (by omega)
  have hv4 : vp_in (nI (5 * t) + 4) n := by rw [show nI (5 * t) + 4 = nI (5 * t + 4) from nI_add _ 4]; exact nI_in (by omega) (by omega)
  refine y_aload1 (q := 1500) C 0 rfl rfl ?_
  refine z_V0 (q := 1503) (bc' := bc + 32) (bs' := bs + 1826) C 1 rfl rfl ml_RL_226 cd_X3_roundText cv_X3_roundText ⟨by decide, rfl⟩ (by decide) (by decide) (Nat.le_of_ble_eq_true rfl) (by omega) (by omega) (by rw [hGF]; decide) (by intro i h; simp only [List.mem_cons, List.not_mem_nil, or_false] at h; rcases h with rfl | rfl | rfl | rfl | rfl <;> exact aj_no.of rfl) (s_X3_roundText hC.1 hC.2.2 hB hl.tX ?_)
  intro I1 J1 V1 N1 X1 hk1
  show aj_X G 1503 _ _ _ _ _ _ _ _ _
  have hl1 := hl.t hk1
  have hx1 := hx.t hB hk1
  refine aj_dropX hGL ?_
  refine lNorm hl1.n8 ?_
  show aj_X G 1503 _ _ _ _ _ _ _ _ _
  refine x_pop (q := 1504) C 2 rfl rfl rfl ?_
  refine y_aload2 (q := 1505) C 3 rfl rfl ?_
  refine z_V0 (q := 1508) (bc' := bc + 3) (bs' := bs + 40) C 4 rfl rfl ml_RL_230 cd_X5_roundText cv_X5_roundText ⟨by decide, rfl⟩ (by decide) (by decide) (Nat.le_of_ble_eq_true rfl) (by omega) (by omega) (by rw [hGF]; decide) (by intro i h; simp only [List.mem_cons, List.not_mem_nil, or_false] at h; rcases h with rfl | rfl | rfl | rfl | rfl | rfl <;> exact aj_no.of rfl) (s_X5_roundText hl1.2.1 (by decide) (hl1.no (by decide)) hl1.2.2.2.1 hl1.tX hl1.tX2 ?_)
  intro I2 J2 V2 N2 X2 hk2
  show aj_X G 1508 _ _ _ _ _ _ _ _ _
  have hl2 := hl1.u hk2
  have hx2 := hx1.u hl1.2.2.2.1 hk2
  refine aj_dropX hGL ?_
  refine lNorm hl2.n8 ?_
  show aj_X G 1508 _ _ _ _ _ _ _ _ _
  refine x_pop (q := 1509) C 5 rfl rfl rfl ?_
  refine x_goto (t := 1657) C 6 rfl (by decide) ?_
  refine aj_bud (bc' := bc) (bs' := bs) (by omega) (by omega) (aj_fg (kk _ _ _ _ hl2 hx2))
set_option maxRecDepth 100000 in
set_option maxHeartbeats 2000000 in
theorem lc_33 {G : aj_G} {I : Nat → Nat → Int32} {J : Nat → Nat → Int64} {V : Nat → Nat → Option Nat} {N : Nat → Nat} {n t bc bs : Nat} {xs : Nat → Int32} (C : aj_C G code t_law_33 RL room_1 7) (hS0 : lS G n xs) (hGL : gL G = []) (hGF : gF G = lGF) (hl : lI I V N) (hx : lX I V) (ht : 5 * t + 5 ≤ n) (hn : n ≤ 320)
    (kk : ∀ I1 J1 V1 N1, lI I1 V1 N1 → lX I1 V1 → aj_X G 1657 [some (.ref 8), some (.ref 20), some (.ref 22), some (.ref 21), some (.int (nI (5 * t))), none, none] [] I1 J1 V1 N1 aj_LL bc bs) : aj_X G 1512 [some (.ref 8), some (.ref 20), some (.ref 22), some (.ref 21), some (.int (nI (5 * t))), none, none] [] I J V N aj_LL (bc + 60) (bs + 3600) := by
  have hl0 := hl
  obtain ⟨⟨nn, hC⟩, hM, hkn, hB, hV⟩ := hl0
  have hv1 : vp_in (nI (5 * t) + 1) n := by rw [show nI (5 * t) + 1 = nI (5 * t + 1) from nI_add _ 1]; exact nI_in (by omega) (by omega)
  have hv2 : vp_in (nI (5 * t) + 2) n := by rw [show nI (5 * t) + 2 = nI (5 * t + 2) from nI_add _ 2]; exact nI_in (by omega) (by omega)
  have hv3 : vp_in (nI (5 * t) + 3) n := by rw [show nI (5 * t) + 3 = nI (5 * t + 3) from nI_add _ 3]; exact nI_in (by omega) (by omega)
  have hv4 : vp_in (nI (5 * t) + 4) n := by rw [show nI (5 * t) + 4 = nI (5 * t + 4) from nI_add _ 4]; exact nI_in (by omega) (by omega)
  refine y_aload1 (q := 1513) C 0 rfl rfl ?_
  refine z_V0 (q := 1516) (bc' := bc + 60) (bs' := bs + 3600) C 1 rfl rfl ml_RL_231 cd_X3_isStar cv_X3_isStar ⟨by decide, rfl⟩ (by decide) (by decide) (Nat.le_of_ble_eq_true rfl) (by omega) (by omega) aj_f0 aj_f0 (w_isStar hC hB ?_)
  intro k1 I1 J1 hR1
  show aj_X G 1516 _ _ _ _ _ _ _ _ _
  have hl1 := hl.c hR1
  have hx1 := hx.e hB hR1.1 (by decide)
  show aj_X G 1516 _ _ _ _ _ _ _ _ _
  refine x_pop (q := 1517) C 2 rfl rfl rfl ?_
  refine y_aload2 (q := 1518) C 3 rfl rfl ?_
  refine z_V0 (q := 1521) (bc' := bc + 59) (bs' := bs + 3588) C 4 rfl rfl ml_RL_235 cd_X5_isStar cv_X5_isStar ⟨by decide, rfl⟩ (by decide) (by decide) (Nat.le_of_ble_eq_true rfl) (by omega) (by omega) (by rw [hGF]; decide) (by intro i h; cases List.mem_singleton.mp h; exact aj_no.of rfl) (s_X5_isStar hl1.2.1 (a := 184) rfl (by decide) (hl1.no (by decide)) hl1.2.2.2.1 ?_)
  intro k2 I2 t1 hR2
  show aj_X G 1521 _ _ _ _ _ _ _ _ _
  have hl2 := hl1.a hR2 (t := t1)
  have hx2 := hx1.e hB hR2.1 (by decide)
  refine aj_dropX (X := [184]) hGL ?_
  show aj_X G 1521 _ _ _ _ _ _ _ _ _
  refine x_pop (q := 1522) C 5 rfl rfl rfl ?_
  refine x_goto (t := 1657) C 6 rfl (by decide) ?_
  refine aj_bud (bc' := bc) (bs' := bs) (by omega) (by omega) (aj_fg (kk _ _ _ _ hl2 hx2))
set_option maxRecDepth 100000 in
set_option maxHeartbeats 2000000 in
theorem lc_34 {G : aj_G} {I : Nat → Nat → Int32} {J : Nat → Nat → Int64} {V : Nat → Nat → Option Nat} {N : Nat → Nat} {n t bc bs : Nat} {xs : Nat → Int32} (C : aj_C G code t_law_34 RL room_1 7) (hS0 : lS G n xs) (hGL : gL G = []) (hGF : gF G = lGF) (hl : lI I V N) (hx : lX I V) (ht : 5 * t + 5 ≤ n) (hn : n ≤ 320)
    (kk : ∀ I1 J1 V1 N1, lI I1 V1 N1 → lX I1 V1 → aj_X G 1657 [some (.ref 8), some (.ref 20), some (.ref 22), some (.ref 21), some (.int (nI (5 * t))), none, none] [] I1 J1 V1 N1 aj_LL bc bs) : aj_X G 1525 [some (.ref 8), some (.ref 20), some (.ref 22), some (.ref 21), some (.int (nI (5 * t))), none, none] [] I J V N aj_LL (bc + 60) (bs + 3600) := by
  have hl0 := hl
  obtain ⟨⟨nn, hC⟩, hM, hkn, hB, hV⟩ := hl0
  have hv1 : vp_in (nI (5 * t) + 1) n := by rw [show nI (5 * t) + 1 = nI (5 * t + 1) from nI_add _ 1]; exact nI_in (by omega) (by omega)
  have hv2 : vp_in (nI (5 * t) + 2) n := by rw [show nI (5 * t) + 2 = nI (5 * t + 2) from nI_add _ 2]; exact nI_in (by omega) (by omega)
  have hv3 : vp_in (nI (5 * t) + 3) n := by rw [show nI (5 * t) + 3 = nI (5 * t + 3) from nI_add _ 3]; exact nI_in (by omega) (by omega)
  have hv4 : vp_in (nI (5 * t) + 4) n := by rw [show nI (5 * t) + 4 = nI (5 * t + 4) from nI_add _ 4]; exact nI_in (by omega) (by omega)
  refine y_aload1 (q := 1526) C 0 rfl rfl ?_
  refine z_V0 (q := 1529) (bc' := bc + 60) (bs' := bs + 3600) C 1 rfl rfl ml_RL_236 cd_X3_starArea cv_X3_starArea ⟨by decide, rfl⟩ (by decide) (by decide) (Nat.le_of_ble_eq_true rfl) (by omega) (by omega) aj_f0 aj_f0 (w_starArea hC hB ?_)
  intro k1 I1 J1 hR1
  show aj_X G 1529 _ _ _ _ _ _ _ _ _
  have hl1 := hl.c hR1
  have hx1 := hx.e hB hR1.1 (by decide)
  show aj_X G 1529 _ _ _ _ _ _ _ _ _
  refine x_pop (q := 1530) C 2 rfl rfl rfl ?_
  refine y_aload2 (q := 1531) C 3 rfl rfl ?_
  refine z_V0 (q := 1534) (bc' := bc + 59) (bs' := bs + 3588) C 4 rfl rfl ml_RL_239 cd_X5_starArea cv_X5_starArea ⟨by decide, rfl⟩ (by decide) (by decide) (Nat.le_of_ble_eq_true rfl) (by omega) (by omega) (by rw [hGF]; decide) (by intro i h; cases List.mem_singleton.mp h; exact aj_no.of rfl) (s_X5_starArea hl1.2.1 (a := 184) rfl (by decide) (hl1.no (by decide)) hl1.2.2.2.1 ?_)
  intro k2 I2 t1 hR2
  show aj_X G 1534 _ _ _ _ _ _ _ _ _
  have hl2 := hl1.a hR2 (t := t1)
  have hx2 := hx1.e hB hR2.1 (by decide)
  refine aj_dropX (X := [184]) hGL ?_
  show aj_X G 1534 _ _ _ _ _ _ _ _ _
  refine x_pop (q := 1535) C 5 rfl rfl rfl ?_
  refine x_goto (t := 1657) C 6 rfl (by decide) ?_
  refine aj_bud (bc' := bc) (bs' := bs) (by omega) (by omega) (aj_fg (kk _ _ _ _ hl2 hx2))
set_option maxRecDepth 100000 in
set_option maxHeartbeats 2000000 in
theorem lc_35 {G : aj_G} {I : Nat → Nat → Int32} {J : Nat → Nat → Int64} {V : Nat → Nat → Option Nat} {N : Nat → Nat} {n t bc bs : Nat} {xs : Nat → Int32} (C : aj_C G code t_law_35 RL room_1 7) (hS0 : lS G n xs) (hGL : gL G = []) (hGF : gF G = lGF) (hl : lI I V N) (hx : lX I V) (ht : 5 * t + 5 ≤ n) (hn : n ≤ 320)
    (kk : ∀ I1 J1 V1 N1, lI I1 V1 N1 → lX I1 V1 → aj_X G 1657 [some (.ref 8), some (.ref 20), some (.ref 22), some (.ref 21), some (.int (nI (5 * t))), none, none] [] I1 J1 V1 N1 aj_LL bc bs) : aj_X G 1538 [some (.ref 8), some (.ref 20), some (.ref 22), some (.ref 21), some (.int (nI (5 * t))), none, none] [] I J V N aj_LL (bc + 60) (bs + 3600) := by
  have hl0 := hl
  obtain ⟨⟨nn, hC⟩, hM, hkn, hB, hV⟩ := hl0
  have hv1 : vp_in (nI (5 * t) + 1) n := by rw [show nI (5 * t) + 1 = nI (5 * t + 1) from nI_add _ 1]; exact nI_in (by omega) (by omega)
  have hv2 : vp_in (nI (5 * t) + 2) n := by rw [show nI (5 * t) + 2 = nI (5 * t + 2) from nI_add _ 2]; exact nI_in (by omega) (by omega)
  have hv3 : vp_in (nI (5 * t) + 3) n := by rw [show nI (5 * t) + 3 = nI (5 * t + 3) from nI_add _ 3]; exact nI_in (by omega) (by omega)
  have hv4 : vp_in (nI (5 * t) + 4) n := by rw [show nI (5 * t) + 4 = nI (5 * t + 4) from nI_add _ 4]; exact nI_in (by omega) (by omega)
  refine y_aload1 (q := 1539) C 0 rfl rfl ?_
  refine z_V0 (q := 1542) (bc' := bc + 60) (bs' := bs + 3600) C 1 rfl rfl ml_RL_240 cd_X3_hullCount cv_X3_hullCount ⟨by decide, rfl⟩ (by decide) (by decide) (Nat.le_of_ble_eq_true rfl) (by omega) (by omega) aj_f0 aj_f0 (w_hullCount hC hB ?_)
  intro k1 I1 J1 hR1
  show aj_X G 1542 _ _ _ _ _ _ _ _ _
  have hl1 := hl.c hR1
  have hx1 := hx.e hB hR1.1 (by decide)
  show aj_X G 1542 _ _ _ _ _ _ _ _ _
  refine x_pop (q := 1543) C 2 rfl rfl rfl ?_
  refine y_aload2 (q := 1544) C 3 rfl rfl ?_
  refine z_V0 (q := 1547) (bc' := bc + 59) (bs' := bs + 3588) C 4 rfl rfl ml_RL_243 cd_X5_hullCount cv_X5_hullCount ⟨by decide, rfl⟩ (by decide) (by decide) (Nat.le_of_ble_eq_true rfl) (by omega) (by omega) (by rw [hGF]; decide) (by intro i h; cases List.mem_singleton.mp h; exact aj_no.of rfl) (s_X5_hullCount hl1.2.1 (a := 184) rfl (by decide) (hl1.no (by decide)) hl1.2.2.2.1 ?_)
  intro k2 I2 t1 hR2
  show aj_X G 1547 _ _ _ _ _ _ _ _ _
  have hl2 := hl1.a hR2 (t := t1)
  have hx2 := hx1.e hB hR2.1 (by decide)
  refine aj_dropX (X := [184]) hGL ?_
  show aj_X G 1547 _ _ _ _ _ _ _ _ _
  refine x_pop (q := 1548) C 5 rfl rfl rfl ?_
  refine x_goto (t := 1657) C 6 rfl (by decide) ?_
  refine aj_bud (bc' := bc) (bs' := bs) (by omega) (by omega) (aj_fg (kk _ _ _ _ hl2 hx2))
set_option maxRecDepth 100000 in
set_option maxHeartbeats 2000000 in
theorem lc_36 {G : aj_G} {I : Nat → Nat → Int32} {J : Nat → Nat → Int64} {V : Nat → Nat → Option Nat} {N : Nat → Nat} {n t bc bs : Nat} {xs : Nat → Int32} (C : aj_C G code t_law_36 RL room_1 7) (hS0 : lS G n xs) (hGL : gL G = []) (hGF : gF G = lGF) (hl : lI I V N) (hx : lX I V) (ht : 5 * t + 5 ≤ n) (hn : n ≤ 320)
    (kk : ∀ I1 J1 V1 N1, lI I1 V1 N1 → lX I1 V1 → aj_X G 1657 [some (.ref 8), some (.ref 20), some (.ref 22), some (.ref 21), some (.int (nI (5 * t))), none, none] [] I1 J1 V1 N1 aj_LL bc bs) : aj_X G 1551 [some (.ref 8), some (.ref 20), some (.ref 22), some (.ref 21), some (.int (nI (5 * t))), none, none] [] I J V N aj_LL (bc + 60) (bs + 3600) := by
  have hl0 := hl
  obtain ⟨⟨nn, hC⟩, hM, hkn, hB, hV⟩ := hl0
  have hv1 : vp_in (nI (5 * t) + 1) n := by rw [show nI (5 * t) + 1 = nI (5 * t + 1) from nI_add _ 1]; exact nI_in (by omega) (by omega)
  have hv2 : vp_in (nI (5 * t) + 2) n := by rw [show nI (5 * t) + 2 = nI (5 * t + 2) from nI_add _ 2]; exact nI_in (by omega) (by omega)
  have hv3 : vp_in (nI (5 * t) + 3) n := by rw [show nI (5 * t) + 3 = nI (5 * t + 3) from nI_add _ 3]; exact nI_in (by omega) (by omega)
  have hv4 : vp_in (nI (5 * t) + 4) n := by rw [show nI (5 * t) + 4 = nI (5 * t + 4) from nI_add _ 4]; exact nI_in (by omega) (by omega)
  refine y_aload1 (q := 1552) C 0 rfl rfl ?_
  refine z_V0 (q := 1555) (bc' := bc + 32) (bs' := bs + 1826) C 1 rfl rfl ml_RL_244 cd_X3_hullText cv_X3_hullText ⟨by decide, rfl⟩ (by decide) (by decide) (Nat.le_of_ble_eq_true rfl) (by omega) (by omega) (by rw [hGF]; decide) (by intro i h; simp only [List.mem_cons, List.not_mem_nil, or_false] at h; rcases h with rfl | rfl | rfl | rfl | rfl <;> exact aj_no.of rfl) (s_X3_hullText hC.1 hC.2.2 hB hl.tX ?_)
  intro I1 J1 V1 N1 X1 hk1
  show aj_X G 1555 _ _ _ _ _ _ _ _ _
  have hl1 := hl.t hk1
  have hx1 := hx.t hB hk1
  refine aj_dropX hGL ?_
  refine lNorm hl1.n8 ?_
  show aj_X G 1555 _ _ _ _ _ _ _ _ _
  refine x_pop (q := 1556) C 2 rfl rfl rfl ?_
  refine y_aload2 (q := 1557) C 3 rfl rfl ?_
  refine z_V0 (q := 1560) (bc' := bc + 3) (bs' := bs + 40) C 4 rfl rfl ml_RL_247 cd_X5_hullText cv_X5_hullText ⟨by decide, rfl⟩ (by decide) (by decide) (Nat.le_of_ble_eq_true rfl) (by omega) (by omega) (by rw [hGF]; decide) (by intro i h; simp only [List.mem_cons, List.not_mem_nil, or_false] at h; rcases h with rfl | rfl | rfl | rfl | rfl | rfl <;> exact aj_no.of rfl) (s_X5_hullText hl1.2.1 (by decide) (hl1.no (by decide)) hl1.2.2.2.1 hl1.tX hl1.tX2 ?_)
  intro I2 J2 V2 N2 X2 hk2
  show aj_X G 1560 _ _ _ _ _ _ _ _ _
  have hl2 := hl1.u hk2
  have hx2 := hx1.u hl1.2.2.2.1 hk2
  refine aj_dropX hGL ?_
  refine lNorm hl2.n8 ?_
  show aj_X G 1560 _ _ _ _ _ _ _ _ _
  refine x_pop (q := 1561) C 5 rfl rfl rfl ?_
  refine x_goto (t := 1657) C 6 rfl (by decide) ?_
  refine aj_bud (bc' := bc) (bs' := bs) (by omega) (by omega) (aj_fg (kk _ _ _ _ hl2 hx2))
set_option maxRecDepth 100000 in
set_option maxHeartbeats 2000000 in
theorem lc_37 {G : aj_G} {I : Nat → Nat → Int32} {J : Nat → Nat → Int64} {V : Nat → Nat → Option Nat} {N : Nat → Nat} {n t bc bs : Nat} {xs : Nat → Int32} (C : aj_C G code t_law_37 RL room_1 7) (hS0 : lS G n xs) (hGL : gL G = []) (hGF : gF G = lGF) (hl : lI I V N) (hx : lX I V) (ht : 5 * t + 5 ≤ n) (hn : n ≤ 320)
    (kk : ∀ I1 J1 V1 N1, lI I1 V1 N1 → lX I1 V1 → aj_X G 1657 [some (.ref 8), some (.ref 20), some (.ref 22), some (.ref 21), some (.int (nI (5 * t))), none, none] [] I1 J1 V1 N1 aj_LL bc bs) : aj_X G 1564 [some (.ref 8), some (.ref 20), some (.ref 22), some (.ref 21), some (.int (nI (5 * t))), none, none] [] I J V N aj_LL (bc + 60) (bs + 3600) := by
  have hl0 := hl
  obtain ⟨⟨nn, hC⟩, hM, hkn, hB, hV⟩ := hl0
  have hv1 : vp_in (nI (5 * t) + 1) n := by rw [show nI (5 * t) + 1 = nI (5 * t + 1) from nI_add _ 1]; exact nI_in (by omega) (by omega)
  have hv2 : vp_in (nI (5 * t) + 2) n := by rw [show nI (5 * t) + 2 = nI (5 * t + 2) from nI_add _ 2]; exact nI_in (by omega) (by omega)
  have hv3 : vp_in (nI (5 * t) + 3) n := by rw [show nI (5 * t) + 3 = nI (5 * t + 3) from nI_add _ 3]; exact nI_in (by omega) (by omega)
  have hv4 : vp_in (nI (5 * t) + 4) n := by rw [show nI (5 * t) + 4 = nI (5 * t + 4) from nI_add _ 4]; exact nI_in (by omega) (by omega)
  refine y_aload1 (q := 1565) C 0 rfl rfl ?_
  refine z_V0 (q := 1568) (bc' := bc + 60) (bs' := bs + 3600) C 1 rfl rfl ml_RL_248 cd_X3_hullArea cv_X3_hullArea ⟨by decide, rfl⟩ (by decide) (by decide) (Nat.le_of_ble_eq_true rfl) (by omega) (by omega) aj_f0 aj_f0 (w_hullArea hC hB ?_)
  intro k1 I1 J1 hR1
  show aj_X G 1568 _ _ _ _ _ _ _ _ _
  have hl1 := hl.c hR1
  have hx1 := hx.e hB hR1.1 (by decide)
  show aj_X G 1568 _ _ _ _ _ _ _ _ _
  refine x_pop (q := 1569) C 2 rfl rfl rfl ?_
  refine y_aload2 (q := 1570) C 3 rfl rfl ?_
  refine z_V0 (q := 1573) (bc' := bc + 59) (bs' := bs + 3588) C 4 rfl rfl ml_RL_251 cd_X5_hullArea cv_X5_hullArea ⟨by decide, rfl⟩ (by decide) (by decide) (Nat.le_of_ble_eq_true rfl) (by omega) (by omega) (by rw [hGF]; decide) (by intro i h; cases List.mem_singleton.mp h; exact aj_no.of rfl) (s_X5_hullArea hl1.2.1 (a := 184) rfl (by decide) (hl1.no (by decide)) hl1.2.2.2.1 ?_)
  intro k2 I2 t1 hR2
  show aj_X G 1573 _ _ _ _ _ _ _ _ _
  have hl2 := hl1.a hR2 (t := t1)
  have hx2 := hx1.e hB hR2.1 (by decide)
  refine aj_dropX (X := [184]) hGL ?_
  show aj_X G 1573 _ _ _ _ _ _ _ _ _
  refine x_pop (q := 1574) C 5 rfl rfl rfl ?_
  refine x_goto (t := 1657) C 6 rfl (by decide) ?_
  refine aj_bud (bc' := bc) (bs' := bs) (by omega) (by omega) (aj_fg (kk _ _ _ _ hl2 hx2))
set_option maxRecDepth 100000 in
set_option maxHeartbeats 2000000 in
theorem lc_38 {G : aj_G} {I : Nat → Nat → Int32} {J : Nat → Nat → Int64} {V : Nat → Nat → Option Nat} {N : Nat → Nat} {n t bc bs : Nat} {xs : Nat → Int32} (C : aj_C G code t_law_38 RL room_1 7) (hS0 : lS G n xs) (hGL : gL G = []) (hGF : gF G = lGF) (hl : lI I V N) (hx : lX I V) (ht : 5 * t + 5 ≤ n) (hn : n ≤ 320)
    (kk : ∀ I1 J1 V1 N1, lI I1 V1 N1 → lX I1 V1 → aj_X G 1657 [some (.ref 8), some (.ref 20), some (.ref 22), some (.ref 21), some (.int (nI (5 * t))), none, none] [] I1 J1 V1 N1 aj_LL bc bs) : aj_X G 1577 [some (.ref 8), some (.ref 20), some (.ref 22), some (.ref 21), some (.int (nI (5 * t))), none, none] [] I J V N aj_LL (bc + 60) (bs + 3600) := by
  have hl0 := hl
  obtain ⟨⟨nn, hC⟩, hM, hkn, hB, hV⟩ := hl0
  have hv1 : vp_in (nI (5 * t) + 1) n := by rw [show nI (5 * t) + 1 = nI (5 * t + 1) from nI_add _ 1]; exact nI_in (by omega) (by omega)
  have hv2 : vp_in (nI (5 * t) + 2) n := by rw [show nI (5 * t) + 2 = nI (5 * t + 2) from nI_add _ 2]; exact nI_in (by omega) (by omega)
  have hv3 : vp_in (nI (5 * t) + 3) n := by rw [show nI (5 * t) + 3 = nI (5 * t + 3) from nI_add _ 3]; exact nI_in (by omega) (by omega)
  have hv4 : vp_in (nI (5 * t) + 4) n := by rw [show nI (5 * t) + 4 = nI (5 * t + 4) from nI_add _ 4]; exact nI_in (by omega) (by omega)
  refine y_aload1 (q := 1578) C 0 rfl rfl ?_
  refine z_V0 (q := 1581) (bc' := bc + 60) (bs' := bs + 3600) C 1 rfl rfl ml_RL_252 cd_X3_rounds cv_X3_rounds ⟨by decide, rfl⟩ (by decide) (by decide) (Nat.le_of_ble_eq_true rfl) (by omega) (by omega) aj_f0 aj_f0 (w_rounds hC hB ?_)
  intro k1 I1 J1 _ hR1 ha1
  show aj_X G 1581 _ _ _ _ _ _ _ _ _
  have hv := hl.vc hR1
  have hl1 := hl.c hR1
  have hx1 := hx.e hB hR1.1 (by decide)
  show aj_X G 1581 _ _ _ _ _ _ _ _ _
  refine x_pop (q := 1582) C 2 rfl rfl rfl ?_
  refine y_aload2 (q := 1583) C 3 rfl rfl ?_
  refine z_V0 (q := 1586) (bc' := bc + 60) (bs' := bs + 3600) C 4 rfl rfl ml_RL_255 cd_X5_rounds cv_X5_rounds ⟨by decide, rfl⟩ (by decide) (by decide) (Nat.le_of_ble_eq_true rfl) (by omega) (by omega) aj_f0 aj_f0 (s_X5_rounds hl1.2.1 hl1.2.2.2.1 ?_)
  intro I2 hR2
  show aj_X G 1586 _ _ _ _ _ _ _ _ _
  have hl2 := hl1.m hR2
  have hx2 := hx1.e hB hR2.1 (by decide)
  show aj_X G 1586 _ _ _ _ _ _ _ _ _
  refine x_pop (q := 1587) C 5 rfl rfl rfl ?_
  refine x_goto (t := 1657) C 6 rfl (by decide) ?_
  refine aj_bud (bc' := bc) (bs' := bs) (by omega) (by omega) (aj_fg (kk _ _ _ _ hl2 hx2))
set_option maxRecDepth 100000 in
set_option maxHeartbeats 2000000 in
theorem lc_39 {G : aj_G} {I : Nat → Nat → Int32} {J : Nat → Nat → Int64} {V : Nat → Nat → Option Nat} {N : Nat → Nat} {n t bc bs : Nat} {xs : Nat → Int32} (C : aj_C G code t_law_39 RL room_1 7) (hS0 : lS G n xs) (hGL : gL G = []) (hGF : gF G = lGF) (hl : lI I V N) (hx : lX I V) (ht : 5 * t + 5 ≤ n) (hn : n ≤ 320)
    (kk : ∀ I1 J1 V1 N1, lI I1 V1 N1 → lX I1 V1 → aj_X G 1657 [some (.ref 8), some (.ref 20), some (.ref 22), some (.ref 21), some (.int (nI (5 * t))), none, none] [] I1 J1 V1 N1 aj_LL bc bs) : aj_X G 1590 [some (.ref 8), some (.ref 20), some (.ref 22), some (.ref 21), some (.int (nI (5 * t))), none, none] [] I J V N aj_LL (bc + 60) (bs + 3600) := by
  have hl0 := hl
  obtain ⟨⟨nn, hC⟩, hM, hkn, hB, hV⟩ := hl0
  have hv1 : vp_in (nI (5 * t) + 1) n := by rw [show nI (5 * t) + 1 = nI (5 * t + 1) from nI_add _ 1]; exact nI_in (by omega) (by omega)
  have hv2 : vp_in (nI (5 * t) + 2) n := by rw [show nI (5 * t) + 2 = nI (5 * t + 2) from nI_add _ 2]; exact nI_in (by omega) (by omega)
  have hv3 : vp_in (nI (5 * t) + 3) n := by rw [show nI (5 * t) + 3 = nI (5 * t + 3) from nI_add _ 3]; exact nI_in (by omega) (by omega)
  have hv4 : vp_in (nI (5 * t) + 4) n := by rw [show nI (5 * t) + 4 = nI (5 * t + 4) from nI_add _ 4]; exact nI_in (by omega) (by omega)
  refine y_aload1 (q := 1591) C 0 rfl rfl ?_
  refine y_aload0 (q := 1592) C 1 rfl rfl ?_
  refine y_iload4 (q := 1594) C 2 rfl rfl ?_
  refine x_iconst (q := 1595) C 3 (n := (1)) (v := (1)) rfl rfl rfl ?_
  refine x_iadd (q := 1596) C 4 rfl rfl ?_
  refine x_sld (q := 1597) C hS0 5 rfl rfl hv1 ?_
  refine y_aload3 (q := 1598) C 6 rfl rfl ?_
  refine z_T3 (q := 1601) (bc' := bc + 59) (bs' := bs + 3594) C 7 rfl rfl ml_RL_256 cd_L_house (by decide) (Nat.le_of_ble_eq_true rfl) (by omega) (by omega) (by rw [hGF]; decide) (by intro i h; cases List.mem_singleton.mp h; exact aj_no.of rfl) (s_L_house hC hB (by decide) (hl.noL (by decide)) ?_)
  intro k1 I1 J1 hR1
  show aj_X G 1601 _ _ _ _ _ _ _ _ _
  have hl1 := hl.c hR1
  have hx1 := hx.e hB hR1.1 (by decide)
  show aj_X G 1601 _ _ _ _ _ _ _ _ _
  refine y_istore5 (q := 1603) C 8 rfl rfl (Nat.le_of_ble_eq_true rfl) rfl ?_
  refine y_aload2 (q := 1604) C 9 rfl rfl ?_
  refine y_aload0 (q := 1605) C 10 rfl rfl ?_
  refine y_iload4 (q := 1607) C 11 rfl rfl ?_
  refine x_iconst (q := 1608) C 12 (n := (1)) (v := (1)) rfl rfl rfl ?_
  refine x_iadd (q := 1609) C 13 rfl rfl ?_
  refine x_sld (q := 1610) C hS0 14 rfl rfl hv1 ?_
  refine z_V1 (q := 1613) (bc' := bc + 59) (bs' := bs + 3594) C 15 rfl rfl ml_RL_258 cd_X5_house cv_X5_house ⟨by decide, rfl⟩ (by decide) (by decide) (Nat.le_of_ble_eq_true rfl) (by omega) (by omega) aj_f0 aj_f0 (s_X5_house hl1.2.1 hl1.2.2.2.1 ?_)
  intro k2 I2 J2 hR2
  show aj_X G 1613 _ _ _ _ _ _ _ _ _
  have hl2 := hl1.m hR2
  have hx2 := hx1.e hB hR2.1 (by decide)
  show aj_X G 1613 _ _ _ _ _ _ _ _ _
  refine y_istore6 (q := 1615) C 16 rfl rfl (Nat.le_of_ble_eq_true rfl) rfl ?_
  refine x_goto (t := 1657) C 17 rfl (by decide) ?_
  refine aj_bud (bc' := bc) (bs' := bs) (by omega) (by omega) (aj_fg (kk _ _ _ _ hl2 hx2))
set_option maxRecDepth 100000 in
set_option maxHeartbeats 2000000 in
theorem lc_40 {G : aj_G} {I : Nat → Nat → Int32} {J : Nat → Nat → Int64} {V : Nat → Nat → Option Nat} {N : Nat → Nat} {n t bc bs : Nat} {xs : Nat → Int32} (C : aj_C G code t_law_40 RL room_1 7) (hS0 : lS G n xs) (hGL : gL G = []) (hGF : gF G = lGF) (hl : lI I V N) (hx : lX I V) (ht : 5 * t + 5 ≤ n) (hn : n ≤ 320)
    (kk : ∀ I1 J1 V1 N1, lI I1 V1 N1 → lX I1 V1 → aj_X G 1657 [some (.ref 8), some (.ref 20), some (.ref 22), some (.ref 21), some (.int (nI (5 * t))), none, none] [] I1 J1 V1 N1 aj_LL bc bs) : aj_X G 1618 [some (.ref 8), some (.ref 20), some (.ref 22), some (.ref 21), some (.int (nI (5 * t))), none, none] [] I J V N aj_LL (bc + 60) (bs + 3600) := by
  have hl0 := hl
  obtain ⟨⟨nn, hC⟩, hM, hkn, hB, hV⟩ := hl0
  have hv1 : vp_in (nI (5 * t) + 1) n := by rw [show nI (5 * t) + 1 = nI (5 * t + 1) from nI_add _ 1]; exact nI_in (by omega) (by omega)
  have hv2 : vp_in (nI (5 * t) + 2) n := by rw [show nI (5 * t) + 2 = nI (5 * t + 2) from nI_add _ 2]; exact nI_in (by omega) (by omega)
  have hv3 : vp_in (nI (5 * t) + 3) n := by rw [show nI (5 * t) + 3 = nI (5 * t + 3) from nI_add _ 3]; exact nI_in (by omega) (by omega)
  have hv4 : vp_in (nI (5 * t) + 4) n := by rw [show nI (5 * t) + 4 = nI (5 * t + 4) from nI_add _ 4]; exact nI_in (by omega) (by omega)
  refine y_aload1 (q := 1619) C 0 rfl rfl ?_
  refine z_V0 (q := 1622) (bc' := bc + 60) (bs' := bs + 3600) C 1 rfl rfl ml_RL_259 cd_X3_knock cv_X3_knock ⟨by decide, rfl⟩ (by decide) (by decide) (Nat.le_of_ble_eq_true rfl) (by omega) (by omega) aj_f0 aj_f0 (s_X3_knock hB ?_)
  show aj_X G 1622 _ _ _ _ _ _ _ _ _
  have hR1 := cQ.kn hC
  have hx1 := hx.e hB hR1.1 (by decide)
  show aj_X G 1622 _ _ _ _ _ _ _ _ _
  refine x_pop (q := 1623) C 2 rfl rfl rfl ?_
  refine y_aload2 (q := 1624) C 3 rfl rfl ?_
  refine z_V0 (q := 1627) (bc' := bc + 60) (bs' := bs + 3600) C 4 rfl rfl ml_RL_262 cd_X5_knock cv_X5_knock ⟨by decide, rfl⟩ (by decide) (by decide) (Nat.le_of_ble_eq_true rfl) (by omega) (by omega) aj_f0 aj_f0 (s_X5_knock (hl.M hR1) hB ?_)
  intro I1 m1
  show aj_X G 1627 _ _ _ _ _ _ _ _ _
  have hl2 := hl.b hR1 (vD.kn hl.2.2.1.2) (by rw [hl.v hR1] at m1; exact m1)
  have hx2 := hx1.e hB m1.1 (by decide)
  show aj_X G 1627 _ _ _ _ _ _ _ _ _
  refine x_pop (q := 1628) C 5 rfl rfl rfl ?_
  refine x_goto (t := 1657) C 6 rfl (by decide) ?_
  refine aj_bud (bc' := bc) (bs' := bs) (by omega) (by omega) (aj_fg (kk _ _ _ _ hl2 hx2))
set_option maxRecDepth 100000 in
set_option maxHeartbeats 2000000 in
theorem lc_41 {G : aj_G} {I : Nat → Nat → Int32} {J : Nat → Nat → Int64} {V : Nat → Nat → Option Nat} {N : Nat → Nat} {n t bc bs : Nat} {xs : Nat → Int32} (C : aj_C G code t_law_41 RL room_1 7) (hS0 : lS G n xs) (hGL : gL G = []) (hGF : gF G = lGF) (hl : lI I V N) (hx : lX I V) (ht : 5 * t + 5 ≤ n) (hn : n ≤ 320)
    (kk : ∀ I1 J1 V1 N1, lI I1 V1 N1 → lX I1 V1 → aj_X G 1657 [some (.ref 8), some (.ref 20), some (.ref 22), some (.ref 21), some (.int (nI (5 * t))), none, none] [] I1 J1 V1 N1 aj_LL bc bs) : aj_X G 1631 [some (.ref 8), some (.ref 20), some (.ref 22), some (.ref 21), some (.int (nI (5 * t))), none, none] [] I J V N aj_LL (bc + 60) (bs + 3600) := by
  have hl0 := hl
  obtain ⟨⟨nn, hC⟩, hM, hkn, hB, hV⟩ := hl0
  have hv1 : vp_in (nI (5 * t) + 1) n := by rw [show nI (5 * t) + 1 = nI (5 * t + 1) from nI_add _ 1]; exact nI_in (by omega) (by omega)
  have hv2 : vp_in (nI (5 * t) + 2) n := by rw [show nI (5 * t) + 2 = nI (5 * t + 2) from nI_add _ 2]; exact nI_in (by omega) (by omega)
  have hv3 : vp_in (nI (5 * t) + 3) n := by rw [show nI (5 * t) + 3 = nI (5 * t + 3) from nI_add _ 3]; exact nI_in (by omega) (by omega)
  have hv4 : vp_in (nI (5 * t) + 4) n := by rw [show nI (5 * t) + 4 = nI (5 * t + 4) from nI_add _ 4]; exact nI_in (by omega) (by omega)
  refine y_aload1 (q := 1632) C 0 rfl rfl ?_
  refine z_V0 (q := 1635) (bc' := bc + 60) (bs' := bs + 3600) C 1 rfl rfl ml_RL_263 cd_X3_isSound cv_X3_isSound ⟨by decide, rfl⟩ (by decide) (by decide) (Nat.le_of_ble_eq_true rfl) (by omega) (by omega) aj_f0 aj_f0 (w_isSound hC hB ?_)
  intro k1 I1 J1 hR1
  show aj_X G 1635 _ _ _ _ _ _ _ _ _
  have hl1 := hl.c hR1
  have hx1 := hx.e hB hR1.1 (by decide)
  show aj_X G 1635 _ _ _ _ _ _ _ _ _
  refine x_pop (q := 1636) C 2 rfl rfl rfl ?_
  refine y_aload2 (q := 1637) C 3 rfl rfl ?_
  refine z_V0 (q := 1640) (bc' := bc + 60) (bs' := bs + 3600) C 4 rfl rfl ml_RL_266 cd_X5_isSound cv_X5_isSound ⟨by decide, rfl⟩ (by decide) (by decide) (Nat.le_of_ble_eq_true rfl) (by omega) (by omega) aj_f0 aj_f0 (s_X5_isSound hl1.2.1 hl1.2.2.2.1 ?_)
  intro k2 I2 J2 hR2
  show aj_X G 1640 _ _ _ _ _ _ _ _ _
  have hl2 := hl1.m hR2
  have hx2 := hx1.e hB hR2.1 (by decide)
  show aj_X G 1640 _ _ _ _ _ _ _ _ _
  refine x_pop (q := 1641) C 5 rfl rfl rfl ?_
  refine x_goto (t := 1657) C 6 rfl (by decide) ?_
  refine aj_bud (bc' := bc) (bs' := bs) (by omega) (by omega) (aj_fg (kk _ _ _ _ hl2 hx2))
set_option maxRecDepth 100000 in
set_option maxHeartbeats 2000000 in
theorem lc_42 {G : aj_G} {I : Nat → Nat → Int32} {J : Nat → Nat → Int64} {V : Nat → Nat → Option Nat} {N : Nat → Nat} {n t bc bs : Nat} {xs : Nat → Int32} (C : aj_C G code t_law_42 RL room_1 7) (hS0 : lS G n xs) (hGL : gL G = []) (hGF : gF G = lGF) (hl : lI I V N) (hx : lX I V) (ht : 5 * t + 5 ≤ n) (hn : n ≤ 320)
    (kk : ∀ I1 J1 V1 N1, lI I1 V1 N1 → lX I1 V1 → aj_X G 1657 [some (.ref 8), some (.ref 20), some (.ref 22), some (.ref 21), some (.int (nI (5 * t))), none, none] [] I1 J1 V1 N1 aj_LL bc bs) : aj_X G 1644 [some (.ref 8), some (.ref 20), some (.ref 22), some (.ref 21), some (.int (nI (5 * t))), none, none] [] I J V N aj_LL (bc + 60) (bs + 3600) := by
  have hl0 := hl
  obtain ⟨⟨nn, hC⟩, hM, hkn, hB, hV⟩ := hl0
  have hv1 : vp_in (nI (5 * t) + 1) n := by rw [show nI (5 * t) + 1 = nI (5 * t + 1) from nI_add _ 1]; exact nI_in (by omega) (by omega)
  have hv2 : vp_in (nI (5 * t) + 2) n := by rw [show nI (5 * t) + 2 = nI (5 * t + 2) from nI_add _ 2]; exact nI_in (by omega) (by omega)
  have hv3 : vp_in (nI (5 * t) + 3) n := by rw [show nI (5 * t) + 3 = nI (5 * t + 3) from nI_add _ 3]; exact nI_in (by omega) (by omega)
  have hv4 : vp_in (nI (5 * t) + 4) n := by rw [show nI (5 * t) + 4 = nI (5 * t + 4) from nI_add _ 4]; exact nI_in (by omega) (by omega)
  refine y_aload1 (q := 1645) C 0 rfl rfl ?_
  refine z_V0 (q := 1648) (bc' := bc + 60) (bs' := bs + 3600) C 1 rfl rfl ml_RL_267 cd_X3_digest cv_X3_digest ⟨by decide, rfl⟩ (by decide) (by decide) (Nat.le_of_ble_eq_true rfl) (by omega) (by omega) aj_f0 aj_f0 (w_digest hC hB ?_)
  intro k1 I1 J1 hR1
  show aj_X G 1648 _ _ _ _ _ _ _ _ _
  have hl1 := hl.c hR1
  have hx1 := hx.e hB hR1.1 (by decide)
  show aj_X G 1648 _ _ _ _ _ _ _ _ _
  refine x_pop2 (q := 1649) C 2 rfl rfl rfl ?_
  refine y_aload2 (q := 1650) C 3 rfl rfl ?_
  refine z_V0 (q := 1653) (bc' := bc + 58) (bs' := bs + 3576) C 4 rfl rfl ml_RL_271 cd_X5_digest cv_X5_digest ⟨by decide, rfl⟩ (by decide) (by decide) (Nat.le_of_ble_eq_true rfl) (by omega) (by omega) (by rw [hGF]; decide) (by intro i h; simp only [List.mem_cons, List.not_mem_nil, or_false] at h; rcases h with rfl | rfl <;> exact aj_no.of rfl) (s_X5_digest hl1.2.1 (a := 184) rfl (by decide) (hl1.no (by decide)) (d := 200) rfl (by decide) (hl1.no (by decide)) (by decide) hl1.2.2.2.1 ?_)
  intro k2 I2 t1 t2 hR2
  show aj_X G 1653 _ _ _ _ _ _ _ _ _
  have hl2 := hl1.d hR2 (t := t1) (t2 := t2)
  have hx2 := hx1.e hB hR2.1 (by decide)
  refine aj_dropX (X := [200]) hGL ?_
  refine aj_dropX (X := [184]) hGL ?_
  show aj_X G 1653 _ _ _ _ _ _ _ _ _
  refine x_pop2 (q := 1654) C 5 rfl rfl rfl ?_
  refine x_goto (t := 1657) C 6 rfl (by decide) ?_
  refine aj_bud (bc' := bc) (bs' := bs) (by omega) (by omega) (aj_fg (kk _ _ _ _ hl2 hx2))
