set_option maxRecDepth 100000 in
set_option maxHeartbeats 800000 in
theorem s_X5_digest {l : Launch} {I : Nat → Nat → Int32} {J : Nat → Nat → Int64} {V : Nat → Nat → Option Nat} {N : Nat → Nat} {L : List Nat} {K : aj_K} (hM : mI I) {a : Nat} (ha : a % 16 = 8) (haL : a ∉ L) (hT : ∀ i j, V i j ≠ some a) {d : Nat} (hd : d % 16 = 8) (hdL : d ∉ L) (hTd : ∀ i j, V i j ≠ some d) (had : a ≠ d) (hB : bV V N L) (hK : ∀ (r : Int64) I1 t t2, mRD a d I I1 → K (.inl (some (.long r))) I1 J V (aj_ur (aj_ur N a t) d t2) (L ++ [a] ++ [d])) : aj_M l yX5_digest (aj_wc yX5_digest cX5_digest 9 (some .long)) (aj_rm 6 2 24) [a, d] [.ref 22] I J V N L K := by
  refine aj_intro (tbl := t_X5_digest) (lv0 := [some (.ref 22), none, none, none, none, none, none, none, none]) (by decide) T_X5_digest (fun i h => by unfold aj_sp; simp only [List.mem_cons, List.not_mem_nil, or_false] at h; omega) (Nat.le_of_ble_eq_true rfl) rfl ?_
  intro G hl C Z NX hnm hGL hGF
  have C : aj_C G cX5_digest t_X5_digest RX5 (aj_rm 6 2 24) 9 := C
  obtain ⟨n, hn, he⟩ := hM.2.1
  have n0 : 22 ≠ a := by omega
  have n1 : 136 ≠ a := fun e => haL (e ▸ bL hB 136 (by decide))
  have n2 : 152 ≠ a := fun e => haL (e ▸ bL hB 152 (by decide))
  have hTT := hT
  refine y_aload0 (q := 1) C 0 rfl rfl ?_
  refine x_iconst (q := 2) C 1 (n := (0)) (v := (0)) rfl rfl rfl ?_
  refine x_putI (q := 5) C 2 rfl rfl fl_RX5_32 rfl rfl (by first | assumption | rfl | decide | omega | exact bL hB _ (by decide)) (by first | assumption | rfl | decide | omega | exact bL hB _ (by decide)) ?_
  have hR0 : mR I J (aj_u I 22 0 0) J := mR.t hM
  have hT : aj_u I 22 0 0 22 0 = 0 := aj_u_s _ _ _ _
  have he0 : aj_u I 22 0 0 22 7 = nI n := (aj_u_k _ _ _ (by decide)).trans he
  generalize aj_u I 22 0 0 = I0 at hR0 hT he0 ⊢
  refine y_aload0 (q := 6) C 3 rfl rfl ?_
  refine x_ldc2 (q := 9) C 4 kc_RX5_269 rfl rfl ?_
  refine y_cV1 (q := 12) C 5 rfl rfl ml_RX5_271 cd_X5_addCells cv_X5_addCells ⟨by decide, rfl⟩ (by first | assumption | rfl | decide | omega | exact bL hB _ (by decide)) (by decide) (by decide) (Nat.le_of_ble_eq_true rfl) (s_X5_addCells hR0.2.1 hB ?_)
  intro r
  show aj_X G 12 _ _ _ _ _ _ _ _ _
  refine y_aload0 (q := 13) C 6 rfl rfl ?_
  refine x_getI (q := 16) C 7 rfl rfl fl_RX5_44 (fun _ _ => rfl) (by first | assumption | rfl | decide | omega | exact bL hB _ (by decide)) (by first | assumption | rfl | decide | omega | exact bL hB _ (by decide)) ?_
  rw [he0]
  refine x_i2l (q := 17) C 8 rfl rfl ?_
  refine y_cS2 (q := 20) C 9 rfl rfl ml_RX5_266 cd_X5_add sv_X5_add (by decide) (by decide) (Nat.le_of_ble_eq_true rfl) (s_X5_add ?_)
  intro r
  show aj_X G 20 _ _ _ _ _ _ _ _ _
  refine y_lstore1 (q := 21) C 10 rfl rfl (Nat.le_of_ble_eq_true rfl) rfl ?_
  refine x_iconst (q := 22) C 11 (n := (0)) (v := nI 0) rfl rfl rfl ?_
  refine y_istore3 (q := 23) C 12 rfl rfl (Nat.le_of_ble_eq_true rfl) rfl ?_
  have lp23 : ∀ (m k : Nat) (v : Int64), k + m = n → aj_X G 23 [some (.ref 22), some (.long v), none, some (.int (nI k)), none, none, none, none, none] [] I0 J V N L 2 24 := by
    intro m
    induction m with
    | zero =>
      intro k v hk
      refine y_iload3 (q := 24) C 13 rfl rfl ?_
      refine y_aload0 (q := 25) C 14 rfl rfl ?_
      refine x_getI (q := 28) C 15 rfl rfl fl_RX5_44 (fun _ _ => rfl) (by first | assumption | rfl | decide | omega | exact bL hB _ (by decide)) (by first | assumption | rfl | decide | omega | exact bL hB _ (by decide)) ?_
      rw [he0]
      refine x_icmp_ge (q := 31) (t := 59) C 16 rfl (by decide) rfl (fun c1 => ?_) (fun c1 => ?_)
      · skip
        refine y_lload1 (q := 60) C 33 rfl rfl ?_
        refine y_aload0 (q := 61) C 34 rfl rfl ?_
        refine x_getI (q := 64) C 35 rfl rfl fl_RX5_185 (fun _ _ => rfl) (by first | assumption | rfl | decide | omega | exact bL hB _ (by decide)) (by first | assumption | rfl | decide | omega | exact bL hB _ (by decide)) ?_
        refine x_i2l (q := 65) C 36 rfl rfl ?_
        refine y_cS2 (q := 68) C 37 rfl rfl ml_RX5_266 cd_X5_add sv_X5_add (by decide) (by decide) (Nat.le_of_ble_eq_true rfl) (s_X5_add ?_)
        intro r
        show aj_X G 68 _ _ _ _ _ _ _ _ _
        refine y_aload0 (q := 69) C 38 rfl rfl ?_
        refine x_getI (q := 72) C 39 rfl rfl fl_RX5_188 (fun _ _ => rfl) (by first | assumption | rfl | decide | omega | exact bL hB _ (by decide)) (by first | assumption | rfl | decide | omega | exact bL hB _ (by decide)) ?_
        refine x_i2l (q := 73) C 40 rfl rfl ?_
        refine y_cS2 (q := 76) C 41 rfl rfl ml_RX5_266 cd_X5_add sv_X5_add (by decide) (by decide) (Nat.le_of_ble_eq_true rfl) (s_X5_add ?_)
        intro r
        show aj_X G 76 _ _ _ _ _ _ _ _ _
        refine y_lstore1 (q := 77) C 42 rfl rfl (Nat.le_of_ble_eq_true rfl) rfl ?_
        refine y_aload0 (q := 78) C 43 rfl rfl ?_
        refine y_fV0 (q := 81) C 44 rfl rfl ml_RX5_235 cd_X5_round cv_X5_round ⟨by decide, rfl⟩ (by first | assumption | rfl | decide | omega | exact bL hB _ (by decide)) (by decide) (by decide) (Nat.le_of_ble_eq_true rfl) (bc' := 1) (bs' := 12) rfl rfl (by rw [hGF]; exact fun i h => by rw [List.mem_singleton.mp h]; simp) (fun i h => by rw [List.mem_singleton.mp h]; exact no_dig1 n0) (s_X5_round hn he0 ha haL hTT hB ?_)
        intro I1 t ht h1 hv
        have haL1 : a ∈ L ++ [a] := List.mem_append_right _ List.mem_cons_self
        have hRA := mRA.of hB haL hR0 h1
        have hB := bV.new (t := t) hB haL
        have hN : aj_ur N a t a = t := aj_ur_s _ _ _
        have he1 : I1 22 7 = nI n := by rw [h1 22 n0]; exact he0
        have hdL1 : d ∉ L ++ [a] := fun z => (List.mem_append.mp z).elim hdL (fun w => had (List.mem_singleton.mp w).symm)
        show aj_X G 81 _ _ _ _ _ _ _ _ _
        refine y_astore3 (q := 82) C 45 rfl rfl (Nat.le_of_ble_eq_true rfl) rfl ?_
        refine y_lload1 (q := 83) C 46 rfl rfl ?_
        refine y_aload3 (q := 84) C 47 rfl rfl ?_
        refine x_alen (q := 85) C 48 rfl rfl (by first | assumption | rfl | decide | omega | exact bL hB _ (by decide)) (by first | assumption | rfl | decide | omega | exact bL hB _ (by decide)) ?_
        rw [show Int32.ofNat (aj_ur N a t a) = nI t from by rw [hN]; rfl]
        refine x_i2l (q := 86) C 49 rfl rfl ?_
        refine y_cS2 (q := 89) C 50 rfl rfl ml_RX5_266 cd_X5_add sv_X5_add (by decide) (by decide) (Nat.le_of_ble_eq_true rfl) (s_X5_add ?_)
        intro r
        show aj_X G 89 _ _ _ _ _ _ _ _ _
        refine y_lstore1 (q := 90) C 51 rfl rfl (Nat.le_of_ble_eq_true rfl) rfl ?_
        refine y_aload3 (q := 91) C 52 rfl rfl ?_
        refine y_astore4 (q := 93) C 53 rfl rfl (Nat.le_of_ble_eq_true rfl) rfl ?_
        refine y_aload4 (q := 95) C 54 rfl rfl ?_
        refine x_alen (q := 96) C 55 rfl rfl (by first | assumption | rfl | decide | omega | exact bL hB _ (by decide)) (by first | assumption | rfl | decide | omega | exact bL hB _ (by decide)) ?_
        rw [show Int32.ofNat (aj_ur N a t a) = nI t from by rw [hN]; rfl]
        refine y_istore5 (q := 98) C 56 rfl rfl (Nat.le_of_ble_eq_true rfl) rfl ?_
        refine x_iconst (q := 99) C 57 (n := (0)) (v := nI 0) rfl rfl rfl ?_
        refine y_istore6 (q := 101) C 58 rfl rfl (Nat.le_of_ble_eq_true rfl) rfl ?_
        have lp101 : ∀ (mj k : Nat) (v : Int64) (z : Option Int32), k + mj = t → aj_X G 101 [some (.ref 22), some (.long v), none, some (.ref a), some (.ref a), some (.int (nI t)), some (.int (nI k)), z.map Value.int, none] [] I1 J V (aj_ur N a t) (L ++ [a]) 1 12 := by
          intro mj
          induction mj with
          | zero =>
            intro k v z hk
            refine y_iload6 (q := 103) C 59 rfl rfl ?_
            refine y_iload5 (q := 105) C 60 rfl rfl ?_
            refine x_icmp_ge (q := 108) (t := 129) C 61 rfl (by decide) rfl (fun c2 => ?_) (fun c2 => ?_)
            · skip
              refine y_lload1 (q := 130) C 73 rfl rfl ?_
              refine y_aload0 (q := 131) C 74 rfl rfl ?_
              refine y_aload3 (q := 132) C 75 rfl rfl ?_
              refine y_cV1 (q := 135) C 76 rfl rfl ml_RX5_245 cd_X5_isStarred cv_X5_isStarred ⟨by decide, rfl⟩ (by first | assumption | rfl | decide | omega | exact bL hB _ (by decide)) (by decide) (by decide) (Nat.le_of_ble_eq_true rfl) (s_X5_isStarred ha haL1 ht hN hv hB ?_)
              intro b
              show aj_X G 135 _ _ _ _ _ _ _ _ _
              refine y_cS1 (q := 138) C 77 rfl rfl ml_RX5_47 cd_X5_one sv_X5_one (by decide) (by decide) (Nat.le_of_ble_eq_true rfl) (s_X5_one ?_)
              show aj_X G 138 _ _ _ _ _ _ _ _ _
              refine x_i2l (q := 139) C 78 rfl rfl ?_
              refine y_cS2 (q := 142) C 79 rfl rfl ml_RX5_266 cd_X5_add sv_X5_add (by decide) (by decide) (Nat.le_of_ble_eq_true rfl) (s_X5_add ?_)
              intro r
              show aj_X G 142 _ _ _ _ _ _ _ _ _
              refine y_aload0 (q := 143) C 80 rfl rfl ?_
              refine y_aload3 (q := 144) C 81 rfl rfl ?_
              refine y_cV1 (q := 147) C 82 rfl rfl ml_RX5_249 cd_X5_swept cv_X5_swept ⟨by decide, rfl⟩ (by first | assumption | rfl | decide | omega | exact bL hB _ (by decide)) (by decide) (by decide) (Nat.le_of_ble_eq_true rfl) (s_X5_swept ha haL1 ht hN hv hB ?_)
              intro r
              show aj_X G 147 _ _ _ _ _ _ _ _ _
              refine x_i2l (q := 148) C 83 rfl rfl ?_
              refine y_cS2 (q := 151) C 84 rfl rfl ml_RX5_266 cd_X5_add sv_X5_add (by decide) (by decide) (Nat.le_of_ble_eq_true rfl) (s_X5_add ?_)
              intro r
              show aj_X G 151 _ _ _ _ _ _ _ _ _
              refine y_lstore1 (q := 152) C 85 rfl rfl (Nat.le_of_ble_eq_true rfl) rfl ?_
              refine y_aload0 (q := 153) C 86 rfl rfl ?_
              refine y_fV0 (q := 156) C 87 rfl rfl ml_RX5_191 cd_X5_corners cv_X5_corners ⟨by decide, rfl⟩ (by first | assumption | rfl | decide | omega | exact bL hB _ (by decide)) (by decide) (by decide) (Nat.le_of_ble_eq_true rfl) (bc' := 0) (bs' := 0) rfl rfl (by rw [hGF]; exact fun i h => by rw [List.mem_singleton.mp h]; simp) (fun i h => by rw [List.mem_singleton.mp h]; exact no_dig2 (by omega) had) (s_X5_corners hn he1 hd hdL1 hTd hB ?_)
              intro I2 t2 ht2 h3 hv2
              have hdL2 : d ∈ L ++ [a] ++ [d] := List.mem_append_right _ List.mem_cons_self
              have hRD := mRD.of hB hdL1 hRA h3
              have hB := bV.new (t := t2) hB hdL1
              have hN2 : aj_ur (aj_ur N a t) d t2 d = t2 := aj_ur_s _ _ _
              have n22 : 22 ≠ d := by omega
              have he2 : I2 22 7 = nI n := by rw [h3 22 n22]; exact he1
              show aj_X G 156 _ _ _ _ _ _ _ _ _
              refine y_astore4 (q := 158) C 88 rfl rfl (Nat.le_of_ble_eq_true rfl) rfl ?_
              refine y_lload1 (q := 159) C 89 rfl rfl ?_
              refine y_aload4 (q := 161) C 90 rfl rfl ?_
              refine x_alen (q := 162) C 91 rfl rfl (by first | assumption | rfl | decide | omega | exact bL hB _ (by decide)) (by first | assumption | rfl | decide | omega | exact bL hB _ (by decide)) ?_
              rw [show Int32.ofNat (aj_ur (aj_ur N a t) d t2 d) = nI t2 from by rw [hN2]; rfl]
              refine x_i2l (q := 163) C 92 rfl rfl ?_
              refine y_cS2 (q := 166) C 93 rfl rfl ml_RX5_266 cd_X5_add sv_X5_add (by decide) (by decide) (Nat.le_of_ble_eq_true rfl) (s_X5_add ?_)
              intro r
              show aj_X G 166 _ _ _ _ _ _ _ _ _
              refine y_lstore1 (q := 167) C 94 rfl rfl (Nat.le_of_ble_eq_true rfl) rfl ?_
              refine y_aload4 (q := 169) C 95 rfl rfl ?_
              refine y_astore5 (q := 171) C 96 rfl rfl (Nat.le_of_ble_eq_true rfl) rfl ?_
              refine y_aload5 (q := 173) C 97 rfl rfl ?_
              refine x_alen (q := 174) C 98 rfl rfl (by first | assumption | rfl | decide | omega | exact bL hB _ (by decide)) (by first | assumption | rfl | decide | omega | exact bL hB _ (by decide)) ?_
              rw [show Int32.ofNat (aj_ur (aj_ur N a t) d t2 d) = nI t2 from by rw [hN2]; rfl]
              refine y_istore6 (q := 176) C 99 rfl rfl (Nat.le_of_ble_eq_true rfl) rfl ?_
              refine x_iconst (q := 177) C 100 (n := (0)) (v := nI 0) rfl rfl rfl ?_
              refine y_istore7 (q := 179) C 101 rfl rfl (Nat.le_of_ble_eq_true rfl) rfl ?_
              have lp179 : ∀ (mi k : Nat) (v : Int64) (z : Option Value), k + mi = t2 → aj_X G 179 [some (.ref 22), some (.long v), none, some (.ref a), some (.ref d), some (.ref d), some (.int (nI t2)), some (.int (nI k)), z] [] I2 J V (aj_ur (aj_ur N a t) d t2) (L ++ [a] ++ [d]) 0 0 := by
                intro mi
                induction mi with
                | zero =>
                  intro k v z hk
                  refine y_iload7 (q := 181) C 102 rfl rfl ?_
                  refine y_iload6 (q := 183) C 103 rfl rfl ?_
                  refine x_icmp_ge (q := 186) (t := 207) C 104 rfl (by decide) rfl (fun c3 => ?_) (fun c3 => ?_)
                  · skip
                    refine y_lload1 (q := 208) C 116 rfl rfl ?_
                    refine y_aload0 (q := 209) C 117 rfl rfl ?_
                    refine y_aload4 (q := 211) C 118 rfl rfl ?_
                    refine y_cV1 (q := 214) C 119 rfl rfl ml_RX5_195 cd_X5_area cv_X5_area ⟨by decide, rfl⟩ (by first | assumption | rfl | decide | omega | exact bL hB _ (by decide)) (by decide) (by decide) (Nat.le_of_ble_eq_true rfl) (s_X5_area hd hdL2 ht2 hN2 hv2 hB ?_)
                    intro r
                    show aj_X G 214 _ _ _ _ _ _ _ _ _
                    refine x_i2l (q := 215) C 120 rfl rfl ?_
                    refine y_cS2 (q := 218) C 121 rfl rfl ml_RX5_266 cd_X5_add sv_X5_add (by decide) (by decide) (Nat.le_of_ble_eq_true rfl) (s_X5_add ?_)
                    intro r
                    show aj_X G 218 _ _ _ _ _ _ _ _ _
                    refine y_aload0 (q := 219) C 122 rfl rfl ?_
                    refine y_cV0 (q := 222) C 123 rfl rfl ml_RX5_261 cd_X5_roundsTold cv_X5_roundsTold ⟨by decide, rfl⟩ (by first | assumption | rfl | decide | omega | exact bL hB _ (by decide)) (by decide) (by decide) (Nat.le_of_ble_eq_true rfl) (s_X5_roundsTold hn he2 hB ?_)
                    show aj_X G 222 _ _ _ _ _ _ _ _ _
                    refine x_i2l (q := 223) C 124 rfl rfl ?_
                    refine y_cS2 (q := 226) C 125 rfl rfl ml_RX5_266 cd_X5_add sv_X5_add (by decide) (by decide) (Nat.le_of_ble_eq_true rfl) (s_X5_add ?_)
                    intro r
                    show aj_X G 226 _ _ _ _ _ _ _ _ _
                    refine y_lstore1 (q := 227) C 126 rfl rfl (Nat.le_of_ble_eq_true rfl) rfl ?_
                    refine y_aload0 (q := 228) C 127 rfl rfl ?_
                    refine x_getR (q := 231) C 128 rfl rfl fl_RX5_29 (bv_6_10 hB) (fun _ _ => rfl) (by first | assumption | rfl | decide | omega | exact bL hB _ (by decide)) (by first | assumption | rfl | decide | omega | exact bL hB _ (by decide)) ?_
                    refine y_astore5 (q := 233) C 129 rfl rfl (Nat.le_of_ble_eq_true rfl) rfl ?_
                    refine y_aload5 (q := 235) C 130 rfl rfl ?_
                    refine x_alen (q := 236) C 131 rfl rfl (by first | assumption | rfl | decide | omega | exact bL hB _ (by decide)) (by first | assumption | rfl | decide | omega | exact bL hB _ (by decide)) ?_
                    rw [show Int32.ofNat (aj_ur (aj_ur N a t) d t2 168) = nI 4 from by rw [bn168 hB]; rfl]
                    refine y_istore6 (q := 238) C 132 rfl rfl (Nat.le_of_ble_eq_true rfl) rfl ?_
                    refine x_iconst (q := 239) C 133 (n := (0)) (v := nI 0) rfl rfl rfl ?_
                    refine y_istore7 (q := 241) C 134 rfl rfl (Nat.le_of_ble_eq_true rfl) rfl ?_
                    have lp241 : ∀ (ml k : Nat) (v : Int64) (z : Option Value), k + ml = 4 → aj_X G 241 [some (.ref 22), some (.long v), none, some (.ref a), some (.ref d), some (.ref 168), some (.int (nI 4)), some (.int (nI k)), z] [] I2 J V (aj_ur (aj_ur N a t) d t2) (L ++ [a] ++ [d]) 0 0 := by
                      intro ml
                      induction ml with
                      | zero =>
                        intro k v z hk
                        refine y_iload7 (q := 243) C 135 rfl rfl ?_
                        refine y_iload6 (q := 245) C 136 rfl rfl ?_
                        refine x_icmp_ge (q := 248) (t := 269) C 137 rfl (by decide) rfl (fun c4 => ?_) (fun c4 => ?_)
                        · skip
                          refine y_lload1 (q := 270) C 149 rfl rfl ?_
                          refine x_lconst (q := 271) C 150 (n := 1) (v := 1) rfl rfl rfl ?_
                          refine y_cS2 (q := 274) C 151 rfl rfl ml_RX5_266 cd_X5_add sv_X5_add (by decide) (by decide) (Nat.le_of_ble_eq_true rfl) (s_X5_add ?_)
                          intro r
                          show aj_X G 274 _ _ _ _ _ _ _ _ _
                          exact x_lreturn C Z 152 rfl rfl (hK _ I2 t t2 hRD)
                        · skip
                          exact absurd (nI_le (by omega) (by omega)) c4
                      | succ ml ihl =>
                        intro k v z hk
                        refine y_iload7 (q := 243) C 135 rfl rfl ?_
                        refine y_iload6 (q := 245) C 136 rfl rfl ?_
                        refine x_icmp_ge (q := 248) (t := 269) C 137 rfl (by decide) rfl (fun c5 => ?_) (fun c5 => ?_)
                        · skip
                          exact absurd c5 (nI_ge (by omega) (by omega))
                        · skip
                          refine y_aload5 (q := 250) C 138 rfl rfl ?_
                          refine y_iload7 (q := 252) C 139 rfl rfl ?_
                          refine x_iald (q := 253) C 140 rfl rfl (by first | assumption | rfl | decide | omega | exact bL hB _ (by decide)) (by first | assumption | rfl | decide | omega | exact bL hB _ (by decide)) (by (first | rw [bn24 hB] | rw [bn40 hB] | rw [bn56 hB] | rw [bn72 hB] | rw [bn27 hB] | rw [bn43 hB] | rw [bn25 hB] | rw [bn41 hB] | rw [bn88 hB] | rw [bn104 hB] | rw [bn120 hB] | rw [bn136 hB] | rw [bn152 hB] | rw [bn168 hB]); first | assumption | exact vp_in_nI (by omega) (by decide)) ?_
                          rw [nI_clamp (by omega)]
                          refine y_istore8 (q := 255) C 141 rfl rfl (Nat.le_of_ble_eq_true rfl) rfl ?_
                          refine y_lload1 (q := 256) C 142 rfl rfl ?_
                          refine y_iload8 (q := 258) C 143 rfl rfl ?_
                          refine x_i2l (q := 259) C 144 rfl rfl ?_
                          refine y_cS2 (q := 262) C 145 rfl rfl ml_RX5_266 cd_X5_add sv_X5_add (by decide) (by decide) (Nat.le_of_ble_eq_true rfl) (s_X5_add ?_)
                          intro r
                          show aj_X G 262 _ _ _ _ _ _ _ _ _
                          refine y_lstore1 (q := 263) C 146 rfl rfl (Nat.le_of_ble_eq_true rfl) rfl ?_
                          refine y_iinc7 (q := 266) C 147 rfl rfl (nI_1 k) (Nat.le_of_ble_eq_true rfl) rfl ?_
                          refine x_goto (t := 241) C 148 rfl (by decide) ?_
                          exact ihl (k + 1) _ _ (by omega)
                    exact lp241 4 0 _ _ (by omega)
                  · skip
                    exact absurd (nI_le (by omega) (by omega)) c3
                | succ mi ihi =>
                  intro k v z hk
                  refine y_iload7 (q := 181) C 102 rfl rfl ?_
                  refine y_iload6 (q := 183) C 103 rfl rfl ?_
                  refine x_icmp_ge (q := 186) (t := 207) C 104 rfl (by decide) rfl (fun c6 => ?_) (fun c6 => ?_)
                  · skip
                    exact absurd c6 (nI_ge (by omega) (by omega))
                  · skip
                    refine y_aload5 (q := 188) C 105 rfl rfl ?_
                    refine y_iload7 (q := 190) C 106 rfl rfl ?_
                    refine x_iald (q := 191) C 107 rfl rfl (by first | assumption | rfl | decide | omega | exact bL hB _ (by decide)) (by first | assumption | rfl | decide | omega | exact bL hB _ (by decide)) (by rw [hN2]; exact vp_in_nI (by omega) (by omega)) ?_
                    rw [nI_clamp (by omega)]
                    refine y_istore8 (q := 193) C 108 rfl rfl (Nat.le_of_ble_eq_true rfl) rfl ?_
                    refine y_lload1 (q := 194) C 109 rfl rfl ?_
                    refine y_iload8 (q := 196) C 110 rfl rfl ?_
                    refine x_i2l (q := 197) C 111 rfl rfl ?_
                    refine y_cS2 (q := 200) C 112 rfl rfl ml_RX5_266 cd_X5_add sv_X5_add (by decide) (by decide) (Nat.le_of_ble_eq_true rfl) (s_X5_add ?_)
                    intro r
                    show aj_X G 200 _ _ _ _ _ _ _ _ _
                    refine y_lstore1 (q := 201) C 113 rfl rfl (Nat.le_of_ble_eq_true rfl) rfl ?_
                    refine y_iinc7 (q := 204) C 114 rfl rfl (nI_1 k) (Nat.le_of_ble_eq_true rfl) rfl ?_
                    refine x_goto (t := 179) C 115 rfl (by decide) ?_
                    exact ihi (k + 1) _ _ (by omega)
              exact lp179 t2 0 _ _ (by omega)
            · skip
              exact absurd (nI_le (by omega) (by omega)) c2
          | succ mj ihj =>
            intro k v z hk
            refine y_iload6 (q := 103) C 59 rfl rfl ?_
            refine y_iload5 (q := 105) C 60 rfl rfl ?_
            refine x_icmp_ge (q := 108) (t := 129) C 61 rfl (by decide) rfl (fun c7 => ?_) (fun c7 => ?_)
            · skip
              exact absurd c7 (nI_ge (by omega) (by omega))
            · skip
              refine y_aload4 (q := 110) C 62 rfl rfl ?_
              refine y_iload6 (q := 112) C 63 rfl rfl ?_
              refine x_iald (q := 113) C 64 rfl rfl (by first | assumption | rfl | decide | omega | exact bL hB _ (by decide)) (by first | assumption | rfl | decide | omega | exact bL hB _ (by decide)) (by rw [hN]; exact vp_in_nI (by omega) (by omega)) ?_
              rw [nI_clamp (by omega)]
              refine y_istore7 (q := 115) C 65 rfl rfl (Nat.le_of_ble_eq_true rfl) rfl ?_
              refine y_lload1 (q := 116) C 66 rfl rfl ?_
              refine y_iload7 (q := 118) C 67 rfl rfl ?_
              refine x_i2l (q := 119) C 68 rfl rfl ?_
              refine y_cS2 (q := 122) C 69 rfl rfl ml_RX5_266 cd_X5_add sv_X5_add (by decide) (by decide) (Nat.le_of_ble_eq_true rfl) (s_X5_add ?_)
              intro r
              show aj_X G 122 _ _ _ _ _ _ _ _ _
              refine y_lstore1 (q := 123) C 70 rfl rfl (Nat.le_of_ble_eq_true rfl) rfl ?_
              refine y_iinc6 (q := 126) C 71 rfl rfl (nI_1 k) (Nat.le_of_ble_eq_true rfl) rfl ?_
              refine x_goto (t := 101) C 72 rfl (by decide) ?_
              exact ihj (k + 1) _ (some _) (by omega)
        exact lp101 t 0 _ none (by omega)
      · skip
        exact absurd (nI_le (by omega) (by omega)) c1
    | succ m ih =>
      intro k v hk
      refine y_iload3 (q := 24) C 13 rfl rfl ?_
      refine y_aload0 (q := 25) C 14 rfl rfl ?_
      refine x_getI (q := 28) C 15 rfl rfl fl_RX5_44 (fun _ _ => rfl) (by first | assumption | rfl | decide | omega | exact bL hB _ (by decide)) (by first | assumption | rfl | decide | omega | exact bL hB _ (by decide)) ?_
      rw [he0]
      refine x_icmp_ge (q := 31) (t := 59) C 16 rfl (by decide) rfl (fun c8 => ?_) (fun c8 => ?_)
      · skip
        exact absurd c8 (nI_ge (by omega) (by omega))
      · skip
        refine y_lload1 (q := 32) C 17 rfl rfl ?_
        refine y_aload0 (q := 33) C 18 rfl rfl ?_
        refine x_getR (q := 36) C 19 rfl rfl fl_RX5_23 (bv_6_5 hB) (fun _ _ => rfl) (by first | assumption | rfl | decide | omega | exact bL hB _ (by decide)) (by first | assumption | rfl | decide | omega | exact bL hB _ (by decide)) ?_
        refine y_iload3 (q := 37) C 20 rfl rfl ?_
        refine x_iald (q := 38) C 21 rfl rfl (by first | assumption | rfl | decide | omega | exact bL hB _ (by decide)) (by first | assumption | rfl | decide | omega | exact bL hB _ (by decide)) (by (first | rw [bn24 hB] | rw [bn40 hB] | rw [bn56 hB] | rw [bn72 hB] | rw [bn27 hB] | rw [bn43 hB] | rw [bn25 hB] | rw [bn41 hB] | rw [bn88 hB] | rw [bn104 hB] | rw [bn120 hB] | rw [bn136 hB] | rw [bn152 hB] | rw [bn168 hB]); first | assumption | exact vp_in_nI (by omega) (by decide)) ?_
        rw [nI_clamp (by omega)]
        refine x_i2l (q := 39) C 22 rfl rfl ?_
        refine y_cS2 (q := 42) C 23 rfl rfl ml_RX5_266 cd_X5_add sv_X5_add (by decide) (by decide) (Nat.le_of_ble_eq_true rfl) (s_X5_add ?_)
        intro r
        show aj_X G 42 _ _ _ _ _ _ _ _ _
        refine y_aload0 (q := 43) C 24 rfl rfl ?_
        refine x_getR (q := 46) C 25 rfl rfl fl_RX5_26 (bv_6_6 hB) (fun _ _ => rfl) (by first | assumption | rfl | decide | omega | exact bL hB _ (by decide)) (by first | assumption | rfl | decide | omega | exact bL hB _ (by decide)) ?_
        refine y_iload3 (q := 47) C 26 rfl rfl ?_
        refine x_iald (q := 48) C 27 rfl rfl (by first | assumption | rfl | decide | omega | exact bL hB _ (by decide)) (by first | assumption | rfl | decide | omega | exact bL hB _ (by decide)) (by (first | rw [bn24 hB] | rw [bn40 hB] | rw [bn56 hB] | rw [bn72 hB] | rw [bn27 hB] | rw [bn43 hB] | rw [bn25 hB] | rw [bn41 hB] | rw [bn88 hB] | rw [bn104 hB] | rw [bn120 hB] | rw [bn136 hB] | rw [bn152 hB] | rw [bn168 hB]); first | assumption | exact vp_in_nI (by omega) (by decide)) ?_
        rw [nI_clamp (by omega)]
        refine x_i2l (q := 49) C 28 rfl rfl ?_
        refine y_cS2 (q := 52) C 29 rfl rfl ml_RX5_266 cd_X5_add sv_X5_add (by decide) (by decide) (Nat.le_of_ble_eq_true rfl) (s_X5_add ?_)
        intro r
        show aj_X G 52 _ _ _ _ _ _ _ _ _
        refine y_lstore1 (q := 53) C 30 rfl rfl (Nat.le_of_ble_eq_true rfl) rfl ?_
        refine y_iinc3 (q := 56) C 31 rfl rfl (nI_1 k) (Nat.le_of_ble_eq_true rfl) rfl ?_
        refine x_goto (t := 23) C 32 rfl (by decide) ?_
        exact ih (k + 1) _ (by omega)
  exact lp23 n 0 _ (by omega)
