theorem aj_in {w : Cond} (i : Nat) (h : lw_tbl[i]? = some w) (hg : goodWord w = true) : w ∈ aj_TB := List.mem_filter.mpr ⟨List.mem_append_left _ (List.mem_of_getElem? h), hg⟩
theorem aj_inx {w : Cond} (i : Nat) (h : aj_XW[i]? = some w) (hg : goodWord w = true) : w ∈ aj_TB := List.mem_filter.mpr ⟨List.mem_append_right _ (List.mem_of_getElem? h), hg⟩
theorem aj_m1 {w : Cond} (h : w ∈ tables_1_1) : w ∈ tables_1 := (List.mem_append_left _ h)
theorem aj_i1 {w : Cond} (i : Nat) (h : tables_1_1[i]? = some w) (hg : goodWord w = true) : w ∈ aj_TB := List.mem_filter.mpr ⟨List.mem_append_left _ (List.mem_append_right _ (aj_m1 (List.mem_of_getElem? h))), hg⟩
theorem aj_m2 {w : Cond} (h : w ∈ tables_1_2) : w ∈ tables_1 := (List.mem_append_right _ (List.mem_append_left _ h))
theorem aj_i2 {w : Cond} (i : Nat) (h : tables_1_2[i]? = some w) (hg : goodWord w = true) : w ∈ aj_TB := List.mem_filter.mpr ⟨List.mem_append_left _ (List.mem_append_right _ (aj_m2 (List.mem_of_getElem? h))), hg⟩
theorem aj_m3 {w : Cond} (h : w ∈ tables_1_3) : w ∈ tables_1 := (List.mem_append_right _ (List.mem_append_right _ (List.mem_append_left _ h)))
theorem aj_i3 {w : Cond} (i : Nat) (h : tables_1_3[i]? = some w) (hg : goodWord w = true) : w ∈ aj_TB := List.mem_filter.mpr ⟨List.mem_append_left _ (List.mem_append_right _ (aj_m3 (List.mem_of_getElem? h))), hg⟩
theorem aj_m4 {w : Cond} (h : w ∈ tables_1_4) : w ∈ tables_1 := (List.mem_append_right _ (List.mem_append_right _ (List.mem_append_right _ (List.mem_append_left _ h))))
theorem aj_i4 {w : Cond} (i : Nat) (h : tables_1_4[i]? = some w) (hg : goodWord w = true) : w ∈ aj_TB := List.mem_filter.mpr ⟨List.mem_append_left _ (List.mem_append_right _ (aj_m4 (List.mem_of_getElem? h))), hg⟩
theorem aj_m5 {w : Cond} (h : w ∈ tables_1_5) : w ∈ tables_1 := (List.mem_append_right _ (List.mem_append_right _ (List.mem_append_right _ (List.mem_append_right _ (List.mem_append_left _ h)))))
theorem aj_i5 {w : Cond} (i : Nat) (h : tables_1_5[i]? = some w) (hg : goodWord w = true) : w ∈ aj_TB := List.mem_filter.mpr ⟨List.mem_append_left _ (List.mem_append_right _ (aj_m5 (List.mem_of_getElem? h))), hg⟩
theorem aj_m6 {w : Cond} (h : w ∈ tables_1_6) : w ∈ tables_1 := (List.mem_append_right _ (List.mem_append_right _ (List.mem_append_right _ (List.mem_append_right _ (List.mem_append_right _ (List.mem_append_left _ h))))))
theorem aj_i6 {w : Cond} (i : Nat) (h : tables_1_6[i]? = some w) (hg : goodWord w = true) : w ∈ aj_TB := List.mem_filter.mpr ⟨List.mem_append_left _ (List.mem_append_right _ (aj_m6 (List.mem_of_getElem? h))), hg⟩
theorem aj_m7 {w : Cond} (h : w ∈ tables_1_7) : w ∈ tables_1 := (List.mem_append_right _ (List.mem_append_right _ (List.mem_append_right _ (List.mem_append_right _ (List.mem_append_right _ (List.mem_append_right _ h))))))
theorem aj_i7 {w : Cond} (i : Nat) (h : tables_1_7[i]? = some w) (hg : goodWord w = true) : w ∈ aj_TB := List.mem_filter.mpr ⟨List.mem_append_left _ (List.mem_append_right _ (aj_m7 (List.mem_of_getElem? h))), hg⟩
set_option maxRecDepth 100000 in
theorem cd_X3_init : aj_cd yX3_init cX3_init 2 none 0 := ⟨(aj_i1 27 rfl rfl), (aj_i1 1 rfl rfl), by decide +kernel⟩
set_option maxRecDepth 100000 in
theorem iv_X3_init : Cond.instanceMethod yX3_init ∈ aj_TB := (aj_i1 26 rfl rfl)
set_option maxRecDepth 100000 in
theorem ml_RX3_1 : Cond.methodLink RX3 1 Lib.objectInit ∈ aj_TB := (aj_i1 28 rfl rfl)
set_option maxRecDepth 100000 in
theorem ac_RX3_9 : Cond.classLink RX3 9 "Raywalk$Step" ∈ aj_TB := (aj_i1 31 rfl rfl)
set_option maxRecDepth 100000 in
theorem fl_RX3_11 : aj_FL RX3 11 4 0 := ⟨by decide, by decide, (aj_i1 99 rfl rfl)⟩
set_option maxRecDepth 100000 in
theorem fl_RX3_15 : aj_FL RX3 15 4 1 := ⟨by decide, by decide, (aj_i1 100 rfl rfl)⟩
set_option maxRecDepth 100000 in
theorem fl_RX3_18 : aj_FL RX3 18 4 2 := ⟨by decide, by decide, (aj_i1 101 rfl rfl)⟩
set_option maxRecDepth 100000 in
theorem nw_RX3_9 : aj_NW RX3 9 3 := ⟨by decide, (aj_i1 31 rfl rfl), (aj_i1 33 rfl rfl), (aj_i1 2 rfl rfl)⟩
set_option maxRecDepth 100000 in
theorem ml_RX3_22 : (RX3, 22, yX2_init, RX3) ∈ aj_NM := by decide +kernel
set_option maxRecDepth 100000 in
theorem fl_RX3_23 : aj_FL RX3 23 4 3 := ⟨by decide, by decide, (aj_i1 102 rfl rfl)⟩
set_option maxRecDepth 100000 in
theorem fl_RX3_27 : aj_FL RX3 27 4 4 := ⟨by decide, by decide, (aj_i1 103 rfl rfl)⟩
set_option maxRecDepth 100000 in
theorem nw_RX3_30 : aj_NW RX3 30 2 := ⟨by decide, (aj_i1 55 rfl rfl), (aj_i1 56 rfl rfl), (aj_i1 3 rfl rfl)⟩
set_option maxRecDepth 100000 in
theorem ml_RX3_32 : (RX3, 32, yX1_init, RX3) ∈ aj_NM := by decide +kernel
set_option maxRecDepth 100000 in
theorem fl_RX3_33 : aj_FL RX3 33 4 5 := ⟨by decide, by decide, (aj_i1 104 rfl rfl)⟩
set_option maxRecDepth 100000 in
theorem cd_X3_put : aj_cd yX3_put cX3_put 5 (some .int) 4 := ⟨(aj_i4 130 rfl rfl), (aj_i1 1 rfl rfl), by decide +kernel⟩
set_option maxRecDepth 100000 in
theorem cv_X3_put : aj_cv yX3_put := ⟨(aj_i4 128 rfl rfl), (aj_i4 129 rfl rfl)⟩
set_option maxRecDepth 100000 in
theorem ml_RX3_37 : Cond.methodLink RX3 37 yX3_checkCell ∈ aj_TB := (aj_i4 5 rfl rfl)
set_option maxRecDepth 100000 in
theorem ml_RX3_41 : Cond.methodLink RX3 41 yX3_checkBetween ∈ aj_TB := (aj_i4 62 rfl rfl)
set_option maxRecDepth 100000 in
theorem ml_RX3_45 : Cond.methodLink RX3 45 yX2_become ∈ aj_TB := (aj_i4 77 rfl rfl)
set_option maxRecDepth 100000 in
theorem ml_RX3_48 : Cond.methodLink RX3 48 yX3_comeTo ∈ aj_TB := (aj_i4 131 rfl rfl)
set_option maxRecDepth 100000 in
theorem cd_X3_make : aj_cd yX3_make cX3_make 3 (some .int) 2 := ⟨(aj_i4 141 rfl rfl), (aj_i1 1 rfl rfl), by decide +kernel⟩
set_option maxRecDepth 100000 in
theorem cv_X3_make : aj_cv yX3_make := ⟨(aj_i4 139 rfl rfl), (aj_i4 140 rfl rfl)⟩
set_option maxRecDepth 100000 in
theorem ml_RX3_52 : Cond.methodLink RX3 52 yX2_becomeByRule ∈ aj_TB := (aj_i4 142 rfl rfl)
set_option maxRecDepth 100000 in
theorem cd_X3_stretch : aj_cd yX3_stretch cX3_stretch 4 (some .int) 2 := ⟨(aj_i4 153 rfl rfl), (aj_i1 1 rfl rfl), by decide +kernel⟩
set_option maxRecDepth 100000 in
theorem cv_X3_stretch : aj_cv yX3_stretch := ⟨(aj_i4 151 rfl rfl), (aj_i4 152 rfl rfl)⟩
set_option maxRecDepth 100000 in
theorem fl_RX3_56 : aj_FL RX3 56 3 0 := ⟨by decide, by decide, (aj_i1 39 rfl rfl)⟩
set_option maxRecDepth 100000 in
theorem fl_RX3_60 : aj_FL RX3 60 3 1 := ⟨by decide, by decide, (aj_i1 41 rfl rfl)⟩
set_option maxRecDepth 100000 in
theorem fl_RX3_63 : aj_FL RX3 63 3 2 := ⟨by decide, by decide, (aj_i1 43 rfl rfl)⟩
set_option maxRecDepth 100000 in
theorem ml_RX3_66 : Cond.methodLink RX3 66 yX3_comeOrRefuse ∈ aj_TB := (aj_i4 154 rfl rfl)
set_option maxRecDepth 100000 in
theorem cd_X3_addSteps : aj_cd yX3_addSteps cX3_addSteps 6 (some .int) 3 := ⟨(aj_i4 171 rfl rfl), (aj_i1 1 rfl rfl), by decide +kernel⟩
set_option maxRecDepth 100000 in
theorem cv_X3_addSteps : aj_cv yX3_addSteps := ⟨(aj_i4 169 rfl rfl), (aj_i4 170 rfl rfl)⟩
set_option maxRecDepth 100000 in
theorem cd_X3_takeStep : aj_cd yX3_takeStep cX3_takeStep 4 (some .int) 3 := ⟨(aj_i4 178 rfl rfl), (aj_i1 1 rfl rfl), by decide +kernel⟩
set_option maxRecDepth 100000 in
theorem cv_X3_takeStep : aj_cv yX3_takeStep := ⟨(aj_i4 176 rfl rfl), (aj_i4 177 rfl rfl)⟩
set_option maxRecDepth 100000 in
theorem ml_RX3_70 : Cond.methodLink RX3 70 yX3_checkPlace ∈ aj_TB := (aj_i4 179 rfl rfl)
set_option maxRecDepth 100000 in
theorem ml_RX3_73 : Cond.methodLink RX3 73 yX1_stepBetween ∈ aj_TB := (aj_i4 184 rfl rfl)
set_option maxRecDepth 100000 in
theorem cd_X3_sortSteps : aj_cd yX3_sortSteps cX3_sortSteps 4 (some .int) 1 := ⟨(aj_i1 133 rfl rfl), (aj_i1 1 rfl rfl), by decide +kernel⟩
set_option maxRecDepth 100000 in
theorem cv_X3_sortSteps : aj_cv yX3_sortSteps := ⟨(aj_i1 131 rfl rfl), (aj_i1 132 rfl rfl)⟩
set_option maxRecDepth 100000 in
theorem ml_RX3_77 : Cond.methodLink RX3 77 yX3_sinkIntoSorted ∈ aj_TB := (aj_i1 134 rfl rfl)
set_option maxRecDepth 100000 in
theorem ml_RX3_81 : Cond.methodLink RX3 81 yX2_isTwinOf ∈ aj_TB := (aj_i1 146 rfl rfl)
set_option maxRecDepth 100000 in
theorem fl_RX3_85 : aj_FL RX3 85 4 6 := ⟨by decide, by decide, (aj_i1 105 rfl rfl)⟩
set_option maxRecDepth 100000 in
theorem cd_X3_sinkIntoSorted : aj_cd yX3_sinkIntoSorted cX3_sinkIntoSorted 6 none 2 := ⟨(aj_i1 137 rfl rfl), (aj_i1 1 rfl rfl), by decide +kernel⟩
set_option maxRecDepth 100000 in
theorem cv_X3_sinkIntoSorted : aj_cv yX3_sinkIntoSorted := ⟨(aj_i1 136 rfl rfl), (aj_in 0 (by decide +kernel) rfl)⟩
set_option maxRecDepth 100000 in
theorem ml_RX3_88 : Cond.methodLink RX3 88 yX2_orderTo ∈ aj_TB := (aj_i1 138 rfl rfl)
set_option maxRecDepth 100000 in
theorem cd_X3_comeOrRefuse : aj_cd yX3_comeOrRefuse cX3_comeOrRefuse 5 (some .int) 4 := ⟨(aj_i4 157 rfl rfl), (aj_i1 1 rfl rfl), by decide +kernel⟩
set_option maxRecDepth 100000 in
theorem cv_X3_comeOrRefuse : aj_cv yX3_comeOrRefuse := ⟨(aj_i4 156 rfl rfl), (aj_in 19 (by decide +kernel) rfl)⟩
set_option maxRecDepth 100000 in
theorem ml_RX3_92 : Cond.methodLink RX3 92 yX3_isCoordinate ∈ aj_TB := (aj_i4 158 rfl rfl)
set_option maxRecDepth 100000 in
theorem ml_RX3_96 : Cond.methodLink RX3 96 yX3_refuse ∈ aj_TB := (aj_i4 161 rfl rfl)
set_option maxRecDepth 100000 in
theorem cd_X3_comeTo : aj_cd yX3_comeTo cX3_comeTo 3 (some .int) 1 := ⟨(aj_i4 134 rfl rfl), (aj_i1 1 rfl rfl), by decide +kernel⟩
set_option maxRecDepth 100000 in
theorem cv_X3_comeTo : aj_cv yX3_comeTo := ⟨(aj_i4 133 rfl rfl), (aj_in 18 (by decide +kernel) rfl)⟩
set_option maxRecDepth 100000 in
theorem cd_X3_refuse : aj_cd yX3_refuse cX3_refuse 1 (some .int) 0 := ⟨(aj_i4 164 rfl rfl), (aj_i1 1 rfl rfl), by decide +kernel⟩
set_option maxRecDepth 100000 in
theorem cv_X3_refuse : aj_cv yX3_refuse := ⟨(aj_i4 163 rfl rfl), (aj_in 20 (by decide +kernel) rfl)⟩
set_option maxRecDepth 100000 in
theorem fl_RX3_100 : aj_FL RX3 100 4 8 := ⟨by decide, by decide, (aj_i1 107 rfl rfl)⟩
set_option maxRecDepth 100000 in
theorem cd_X3_across : aj_cd yX3_across cX3_across 2 (some .int) 1 := ⟨(aj_i4 4 rfl rfl), (aj_i1 1 rfl rfl), by decide +kernel⟩
set_option maxRecDepth 100000 in
theorem cv_X3_across : aj_cv yX3_across := ⟨(aj_i4 2 rfl rfl), (aj_i4 3 rfl rfl)⟩
set_option maxRecDepth 100000 in
theorem cd_X3_up : aj_cd yX3_up cX3_up 2 (some .int) 1 := ⟨(aj_i4 31 rfl rfl), (aj_i1 1 rfl rfl), by decide +kernel⟩
set_option maxRecDepth 100000 in
theorem cv_X3_up : aj_cv yX3_up := ⟨(aj_i4 29 rfl rfl), (aj_i4 30 rfl rfl)⟩
set_option maxRecDepth 100000 in
theorem cd_X3_signs : aj_cd yX3_signs cX3_signs 2 (some .int) 1 := ⟨(aj_i4 35 rfl rfl), (aj_i1 1 rfl rfl), by decide +kernel⟩
set_option maxRecDepth 100000 in
theorem cv_X3_signs : aj_cv yX3_signs := ⟨(aj_i4 33 rfl rfl), (aj_i4 34 rfl rfl)⟩
set_option maxRecDepth 100000 in
theorem cd_X3_upper : aj_cd yX3_upper cX3_upper 2 (some .int) 1 := ⟨(aj_i4 39 rfl rfl), (aj_i1 1 rfl rfl), by decide +kernel⟩
set_option maxRecDepth 100000 in
theorem cv_X3_upper : aj_cv yX3_upper := ⟨(aj_i4 37 rfl rfl), (aj_i4 38 rfl rfl)⟩
set_option maxRecDepth 100000 in
theorem ml_RX3_103 : Cond.methodLink RX3 103 yX2_angle ∈ aj_TB := (aj_i3 162 rfl rfl)
set_option maxRecDepth 100000 in
theorem ml_RX3_107 : Cond.methodLink RX3 107 yX2_firstDigits ∈ aj_TB := (aj_i3 188 rfl rfl)
set_option maxRecDepth 100000 in
theorem cd_X3_lower : aj_cd yX3_lower cX3_lower 2 (some .int) 1 := ⟨(aj_i4 43 rfl rfl), (aj_i1 1 rfl rfl), by decide +kernel⟩
set_option maxRecDepth 100000 in
theorem cv_X3_lower : aj_cv yX3_lower := ⟨(aj_i4 41 rfl rfl), (aj_i4 42 rfl rfl)⟩
set_option maxRecDepth 100000 in
theorem ml_RX3_111 : Cond.methodLink RX3 111 yX2_isFixed ∈ aj_TB := (aj_i4 44 rfl rfl)
set_option maxRecDepth 100000 in
theorem ml_RX3_115 : Cond.methodLink RX3 115 yX2_lastDigits ∈ aj_TB := (aj_i4 52 rfl rfl)
set_option maxRecDepth 100000 in
theorem cd_X3_grade : aj_cd yX3_grade cX3_grade 3 (some .int) 2 := ⟨(aj_i4 61 rfl rfl), (aj_i1 1 rfl rfl), by decide +kernel⟩
set_option maxRecDepth 100000 in
theorem cv_X3_grade : aj_cv yX3_grade := ⟨(aj_i4 59 rfl rfl), (aj_i4 60 rfl rfl)⟩
set_option maxRecDepth 100000 in
theorem ml_RX3_118 : Cond.methodLink RX3 118 yX0_roundDown ∈ aj_TB := (aj_i4 68 rfl rfl)
set_option maxRecDepth 100000 in
theorem cd_X3_order : aj_cd yX3_order cX3_order 4 (some .int) 3 := ⟨(aj_i4 85 rfl rfl), (aj_i1 1 rfl rfl), by decide +kernel⟩
set_option maxRecDepth 100000 in
theorem cv_X3_order : aj_cv yX3_order := ⟨(aj_i4 83 rfl rfl), (aj_i4 84 rfl rfl)⟩
set_option maxRecDepth 100000 in
theorem cd_X3_like : aj_cd yX3_like cX3_like 3 (some .boolean) 2 := ⟨(aj_i4 89 rfl rfl), (aj_i1 1 rfl rfl), by decide +kernel⟩
set_option maxRecDepth 100000 in
theorem cv_X3_like : aj_cv yX3_like := ⟨(aj_i4 87 rfl rfl), (aj_i4 88 rfl rfl)⟩
set_option maxRecDepth 100000 in
theorem ml_RX3_124 : Cond.methodLink RX3 124 yX2_isOfNoSize ∈ aj_TB := (aj_i4 90 rfl rfl)
set_option maxRecDepth 100000 in
theorem cd_X3_same : aj_cd yX3_same cX3_same 4 (some .boolean) 3 := ⟨(aj_i4 226 rfl rfl), (aj_i1 1 rfl rfl), by decide +kernel⟩
set_option maxRecDepth 100000 in
theorem cv_X3_same : aj_cv yX3_same := ⟨(aj_i4 224 rfl rfl), (aj_i4 225 rfl rfl)⟩
set_option maxRecDepth 100000 in
theorem cd_X3_side : aj_cd yX3_side cX3_side 3 (some .int) 2 := ⟨(aj_i4 94 rfl rfl), (aj_i1 1 rfl rfl), by decide +kernel⟩
set_option maxRecDepth 100000 in
theorem cv_X3_side : aj_cv yX3_side := ⟨(aj_i4 92 rfl rfl), (aj_i4 93 rfl rfl)⟩
set_option maxRecDepth 100000 in
theorem ml_RX3_127 : Cond.methodLink RX3 127 yX2_isNull ∈ aj_TB := (aj_i3 205 rfl rfl)
set_option maxRecDepth 100000 in
theorem ml_RX3_130 : Cond.methodLink RX3 130 yX2_sideOf ∈ aj_TB := (aj_i3 216 rfl rfl)
set_option maxRecDepth 100000 in
theorem cd_X3_eighth : aj_cd yX3_eighth cX3_eighth 4 (some .int) 1 := ⟨(aj_i4 74 rfl rfl), (aj_i1 1 rfl rfl), by decide +kernel⟩
set_option maxRecDepth 100000 in
theorem cv_X3_eighth : aj_cv yX3_eighth := ⟨(aj_i4 72 rfl rfl), (aj_i4 73 rfl rfl)⟩
set_option maxRecDepth 100000 in
theorem gs_RX3_133 : Cond.fieldLink RX3 133 "Raywalk" "MARKS" "[I" ∈ aj_TB := (aj_i4 75 rfl rfl)
set_option maxRecDepth 100000 in
theorem cd_X3_rule : aj_cd yX3_rule cX3_rule 4 (some .int) 2 := ⟨(aj_i5 1 rfl rfl), (aj_i1 1 rfl rfl), by decide +kernel⟩
set_option maxRecDepth 100000 in
theorem cv_X3_rule : aj_cv yX3_rule := ⟨(aj_i4 239 rfl rfl), (aj_i5 0 rfl rfl)⟩
set_option maxRecDepth 100000 in
theorem cd_X3_find : aj_cd yX3_find cX3_find 5 (some .int) 2 := ⟨(aj_i4 81 rfl rfl), (aj_i1 1 rfl rfl), by decide +kernel⟩
set_option maxRecDepth 100000 in
theorem cv_X3_find : aj_cv yX3_find := ⟨(aj_i4 79 rfl rfl), (aj_i4 80 rfl rfl)⟩
set_option maxRecDepth 100000 in
theorem cd_X3_addPlace : aj_cd yX3_addPlace cX3_addPlace 3 (some .int) 2 := ⟨(aj_i5 12 rfl rfl), (aj_i1 1 rfl rfl), by decide +kernel⟩
set_option maxRecDepth 100000 in
theorem cv_X3_addPlace : aj_cv yX3_addPlace := ⟨(aj_i5 10 rfl rfl), (aj_i5 11 rfl rfl)⟩
set_option maxRecDepth 100000 in
theorem ml_RX3_137 : Cond.methodLink RX3 137 yX3_checkSpot ∈ aj_TB := (aj_i5 13 rfl rfl)
set_option maxRecDepth 100000 in
theorem fl_RX3_141 : aj_FL RX3 141 2 2 := ⟨by decide, by decide, (aj_i1 68 rfl rfl)⟩
set_option maxRecDepth 100000 in
theorem ml_RX3_144 : Cond.methodLink RX3 144 yX1_numberAt ∈ aj_TB := (aj_i5 16 rfl rfl)
set_option maxRecDepth 100000 in
theorem fl_RX3_148 : aj_FL RX3 148 4 7 := ⟨by decide, by decide, (aj_i1 106 rfl rfl)⟩
set_option maxRecDepth 100000 in
theorem ml_RX3_151 : Cond.methodLink RX3 151 yX1_add ∈ aj_TB := (aj_i5 20 rfl rfl)
set_option maxRecDepth 100000 in
theorem cd_X3_removePlace : aj_cd yX3_removePlace cX3_removePlace 2 (some .int) 1 := ⟨(aj_i5 30 rfl rfl), (aj_i1 1 rfl rfl), by decide +kernel⟩
set_option maxRecDepth 100000 in
theorem cv_X3_removePlace : aj_cv yX3_removePlace := ⟨(aj_i5 28 rfl rfl), (aj_i5 29 rfl rfl)⟩
set_option maxRecDepth 100000 in
theorem ml_RX3_154 : Cond.methodLink RX3 154 yX1_drop ∈ aj_TB := (aj_i5 31 rfl rfl)
set_option maxRecDepth 100000 in
theorem cd_X3_movePlace : aj_cd yX3_movePlace cX3_movePlace 5 (some .int) 3 := ⟨(aj_i5 41 rfl rfl), (aj_i1 1 rfl rfl), by decide +kernel⟩
set_option maxRecDepth 100000 in
theorem cv_X3_movePlace : aj_cv yX3_movePlace := ⟨(aj_i5 39 rfl rfl), (aj_i5 40 rfl rfl)⟩
set_option maxRecDepth 100000 in
theorem ml_RX3_157 : Cond.methodLink RX3 157 yX1_moveTo ∈ aj_TB := (aj_i5 42 rfl rfl)
set_option maxRecDepth 100000 in
theorem cd_X3_centre : aj_cd yX3_centre cX3_centre 3 (some .int) 2 := ⟨(aj_i5 52 rfl rfl), (aj_i1 1 rfl rfl), by decide +kernel⟩
set_option maxRecDepth 100000 in
theorem cv_X3_centre : aj_cv yX3_centre := ⟨(aj_i5 50 rfl rfl), (aj_i5 51 rfl rfl)⟩
set_option maxRecDepth 100000 in
theorem cd_X3_turnPlaces : aj_cd yX3_turnPlaces cX3_turnPlaces 1 (some .int) 0 := ⟨(aj_i1 153 rfl rfl), (aj_i1 1 rfl rfl), by decide +kernel⟩
set_option maxRecDepth 100000 in
theorem cv_X3_turnPlaces : aj_cv yX3_turnPlaces := ⟨(aj_i1 151 rfl rfl), (aj_i1 152 rfl rfl)⟩
set_option maxRecDepth 100000 in
theorem ml_RX3_161 : Cond.methodLink RX3 161 yX1_turnAll ∈ aj_TB := (aj_i1 154 rfl rfl)
set_option maxRecDepth 100000 in
theorem ml_RX3_164 : Cond.methodLink RX3 164 yX1_areaOfHull ∈ aj_TB := (aj_i1 203 rfl rfl)
set_option maxRecDepth 100000 in
theorem cd_X3_mirrorPlaces : aj_cd yX3_mirrorPlaces cX3_mirrorPlaces 1 (some .int) 0 := ⟨(aj_i1 213 rfl rfl), (aj_i1 1 rfl rfl), by decide +kernel⟩
set_option maxRecDepth 100000 in
theorem cv_X3_mirrorPlaces : aj_cv yX3_mirrorPlaces := ⟨(aj_i1 211 rfl rfl), (aj_i1 212 rfl rfl)⟩
set_option maxRecDepth 100000 in
theorem ml_RX3_167 : Cond.methodLink RX3 167 yX1_mirrorAll ∈ aj_TB := (aj_i1 214 rfl rfl)
set_option maxRecDepth 100000 in
theorem cd_X3_places : aj_cd yX3_places cX3_places 1 (some .int) 0 := ⟨(aj_i1 221 rfl rfl), (aj_i1 1 rfl rfl), by decide +kernel⟩
set_option maxRecDepth 100000 in
theorem cv_X3_places : aj_cv yX3_places := ⟨(aj_i1 219 rfl rfl), (aj_i1 220 rfl rfl)⟩
set_option maxRecDepth 100000 in
theorem cd_X3_place : aj_cd yX3_place cX3_place 3 (some .int) 2 := ⟨(aj_i5 59 rfl rfl), (aj_i1 1 rfl rfl), by decide +kernel⟩
set_option maxRecDepth 100000 in
theorem cv_X3_place : aj_cv yX3_place := ⟨(aj_i5 57 rfl rfl), (aj_i5 58 rfl rfl)⟩
set_option maxRecDepth 100000 in
theorem fl_RX3_170 : aj_FL RX3 170 2 1 := ⟨by decide, by decide, (aj_i1 66 rfl rfl)⟩
set_option maxRecDepth 100000 in
theorem fl_RX3_173 : aj_FL RX3 173 2 0 := ⟨by decide, by decide, (aj_i1 64 rfl rfl)⟩
set_option maxRecDepth 100000 in
theorem cd_X3_centreAt : aj_cd yX3_centreAt cX3_centreAt 2 (some .int) 1 := ⟨(aj_i1 225 rfl rfl), (aj_i1 1 rfl rfl), by decide +kernel⟩
set_option maxRecDepth 100000 in
theorem cv_X3_centreAt : aj_cv yX3_centreAt := ⟨(aj_i1 223 rfl rfl), (aj_i1 224 rfl rfl)⟩
set_option maxRecDepth 100000 in
theorem cd_X3_bearing : aj_cd yX3_bearing cX3_bearing 4 (some .int) 3 := ⟨(aj_i5 66 rfl rfl), (aj_i1 1 rfl rfl), by decide +kernel⟩
set_option maxRecDepth 100000 in
theorem cv_X3_bearing : aj_cv yX3_bearing := ⟨(aj_i5 64 rfl rfl), (aj_i5 65 rfl rfl)⟩
set_option maxRecDepth 100000 in
theorem cd_X3_bearingOrder : aj_cd yX3_bearingOrder cX3_bearingOrder 4 (some .int) 3 := ⟨(aj_i5 73 rfl rfl), (aj_i1 1 rfl rfl), by decide +kernel⟩
set_option maxRecDepth 100000 in
theorem cv_X3_bearingOrder : aj_cv yX3_bearingOrder := ⟨(aj_i5 71 rfl rfl), (aj_i5 72 rfl rfl)⟩
set_option maxRecDepth 100000 in
theorem ml_RX3_176 : Cond.methodLink RX3 176 yX1_orderFrom ∈ aj_TB := (aj_i5 74 rfl rfl)
set_option maxRecDepth 100000 in
theorem cd_X3_left : aj_cd yX3_left cX3_left 4 (some .int) 3 := ⟨(aj_i5 84 rfl rfl), (aj_i1 1 rfl rfl), by decide +kernel⟩
set_option maxRecDepth 100000 in
theorem cv_X3_left : aj_cv yX3_left := ⟨(aj_i5 82 rfl rfl), (aj_i5 83 rfl rfl)⟩
set_option maxRecDepth 100000 in
theorem ml_RX3_180 : Cond.methodLink RX3 180 yX1_cross ∈ aj_TB := (aj_i5 85 rfl rfl)
set_option maxRecDepth 100000 in
theorem ml_RX3_183 : Cond.methodLink RX3 183 yX3_signOf ∈ aj_TB := (aj_i5 86 rfl rfl)
set_option maxRecDepth 100000 in
theorem cd_X3_roundCount : aj_cd yX3_roundCount cX3_roundCount 1 (some .int) 0 := ⟨(aj_i1 229 rfl rfl), (aj_i1 1 rfl rfl), by decide +kernel⟩
set_option maxRecDepth 100000 in
theorem cv_X3_roundCount : aj_cv yX3_roundCount := ⟨(aj_i1 227 rfl rfl), (aj_i1 228 rfl rfl)⟩
set_option maxRecDepth 100000 in
theorem fl_RX3_186 : aj_FL RX3 186 2 4 := ⟨by decide, by decide, (aj_i1 72 rfl rfl)⟩
set_option maxRecDepth 100000 in
theorem cd_X3_roundText : aj_cd yX3_roundText cX3_roundText 1 (some (.object "java/lang/String")) 0 := ⟨(aj_i1 233 rfl rfl), (aj_i1 1 rfl rfl), by decide +kernel⟩
set_option maxRecDepth 100000 in
theorem cv_X3_roundText : aj_cv yX3_roundText := ⟨(aj_i1 231 rfl rfl), (aj_i1 232 rfl rfl)⟩
set_option maxRecDepth 100000 in
theorem fl_RX3_189 : aj_FL RX3 189 2 3 := ⟨by decide, by decide, (aj_i1 70 rfl rfl)⟩
set_option maxRecDepth 100000 in
theorem ml_RX3_192 : Cond.methodLink RX3 192 yX3_textOf ∈ aj_TB := (aj_i1 234 rfl rfl)
set_option maxRecDepth 100000 in
theorem cd_X3_isStar : aj_cd yX3_isStar cX3_isStar 1 (some .boolean) 0 := ⟨(aj_i3 89 rfl rfl), (aj_i1 1 rfl rfl), by decide +kernel⟩
set_option maxRecDepth 100000 in
theorem cv_X3_isStar : aj_cv yX3_isStar := ⟨(aj_i3 87 rfl rfl), (aj_i3 88 rfl rfl)⟩
set_option maxRecDepth 100000 in
theorem ml_RX3_196 : Cond.methodLink RX3 196 yX1_isRoundStar ∈ aj_TB := (aj_i3 90 rfl rfl)
set_option maxRecDepth 100000 in
theorem cd_X3_starArea : aj_cd yX3_starArea cX3_starArea 1 (some .int) 0 := ⟨(aj_i3 112 rfl rfl), (aj_i1 1 rfl rfl), by decide +kernel⟩
set_option maxRecDepth 100000 in
theorem cv_X3_starArea : aj_cv yX3_starArea := ⟨(aj_i3 110 rfl rfl), (aj_i3 111 rfl rfl)⟩
set_option maxRecDepth 100000 in
theorem ml_RX3_199 : Cond.methodLink RX3 199 yX1_areaOfStar ∈ aj_TB := (aj_i3 113 rfl rfl)
set_option maxRecDepth 100000 in
theorem cd_X3_hullCount : aj_cd yX3_hullCount cX3_hullCount 1 (some .int) 0 := ⟨(aj_i3 121 rfl rfl), (aj_i1 1 rfl rfl), by decide +kernel⟩
set_option maxRecDepth 100000 in
theorem cv_X3_hullCount : aj_cv yX3_hullCount := ⟨(aj_i3 119 rfl rfl), (aj_i3 120 rfl rfl)⟩
set_option maxRecDepth 100000 in
theorem fl_RX3_202 : aj_FL RX3 202 2 6 := ⟨by decide, by decide, (aj_i1 76 rfl rfl)⟩
set_option maxRecDepth 100000 in
theorem cd_X3_hullText : aj_cd yX3_hullText cX3_hullText 1 (some (.object "java/lang/String")) 0 := ⟨(aj_i3 125 rfl rfl), (aj_i1 1 rfl rfl), by decide +kernel⟩
set_option maxRecDepth 100000 in
theorem cv_X3_hullText : aj_cv yX3_hullText := ⟨(aj_i3 123 rfl rfl), (aj_i3 124 rfl rfl)⟩
set_option maxRecDepth 100000 in
theorem fl_RX3_205 : aj_FL RX3 205 2 5 := ⟨by decide, by decide, (aj_i1 74 rfl rfl)⟩
set_option maxRecDepth 100000 in
theorem cd_X3_hullArea : aj_cd yX3_hullArea cX3_hullArea 1 (some .int) 0 := ⟨(aj_i3 129 rfl rfl), (aj_i1 1 rfl rfl), by decide +kernel⟩
set_option maxRecDepth 100000 in
theorem cv_X3_hullArea : aj_cv yX3_hullArea := ⟨(aj_i3 127 rfl rfl), (aj_i3 128 rfl rfl)⟩
set_option maxRecDepth 100000 in
theorem cd_X3_rounds : aj_cd yX3_rounds cX3_rounds 1 (some .int) 0 := ⟨(aj_i3 133 rfl rfl), (aj_i1 1 rfl rfl), by decide +kernel⟩
set_option maxRecDepth 100000 in
theorem cv_X3_rounds : aj_cv yX3_rounds := ⟨(aj_i3 131 rfl rfl), (aj_i3 132 rfl rfl)⟩
set_option maxRecDepth 100000 in
theorem ml_RX3_208 : Cond.methodLink RX3 208 yX1_isCentreOnWalk ∈ aj_TB := (aj_i3 134 rfl rfl)
set_option maxRecDepth 100000 in
theorem ml_RX3_211 : Cond.methodLink RX3 211 yX1_windings ∈ aj_TB := (aj_i3 142 rfl rfl)
set_option maxRecDepth 100000 in
theorem cd_X3_textOf : aj_cd yX3_textOf cX3_textOf 4 (some (.object "java/lang/String")) 2 := ⟨(aj_i1 236 rfl rfl), (aj_i1 1 rfl rfl), by decide +kernel⟩
set_option maxRecDepth 100000 in
theorem sv_X3_textOf : Cond.static yX3_textOf ∈ aj_TB := (aj_i1 235 rfl rfl)
set_option maxRecDepth 100000 in
theorem nw_RX3_214 : aj_NW RX3 214 1 := ⟨by decide, (aj_i1 237 rfl rfl), (aj_i1 238 rfl rfl), (aj_i1 15 rfl rfl)⟩
set_option maxRecDepth 100000 in
theorem ml_RX3_216 : Cond.methodLink RX3 216 yJ4_init_da8c8 ∈ aj_TB := (aj_i1 239 rfl rfl)
set_option maxRecDepth 100000 in
theorem ml_RX3_217 : Cond.methodLink RX3 217 yJ4_append_cf468 ∈ aj_TB := (aj_i2 29 rfl rfl)
set_option maxRecDepth 100000 in
theorem ml_RX3_221 : Cond.methodLink RX3 221 yJ4_append_bf812 ∈ aj_TB := (aj_i2 124 rfl rfl)
set_option maxRecDepth 100000 in
theorem ml_RX3_224 : Cond.methodLink RX3 224 yJ4_toString_0e30d ∈ aj_TB := (aj_i2 158 rfl rfl)
set_option maxRecDepth 100000 in
theorem cd_X3_house : aj_cd yX3_house cX3_house 2 (some .int) 1 := ⟨(aj_i4 110 rfl rfl), (aj_i1 1 rfl rfl), by decide +kernel⟩
set_option maxRecDepth 100000 in
theorem cv_X3_house : aj_cv yX3_house := ⟨(aj_i4 108 rfl rfl), (aj_i4 109 rfl rfl)⟩
set_option maxRecDepth 100000 in
theorem fl_RX3_228 : aj_FL RX3 228 4 9 := ⟨by decide, by decide, (aj_i1 108 rfl rfl)⟩
set_option maxRecDepth 100000 in
theorem cd_X3_knock : aj_cd yX3_knock cX3_knock 1 (some .int) 0 := ⟨(aj_i3 153 rfl rfl), (aj_i1 1 rfl rfl), by decide +kernel⟩
set_option maxRecDepth 100000 in
theorem cv_X3_knock : aj_cv yX3_knock := ⟨(aj_i3 151 rfl rfl), (aj_i3 152 rfl rfl)⟩
set_option maxRecDepth 100000 in
theorem cd_X3_isSound : aj_cd yX3_isSound cX3_isSound 1 (some .boolean) 0 := ⟨(aj_i3 157 rfl rfl), (aj_i1 1 rfl rfl), by decide +kernel⟩
set_option maxRecDepth 100000 in
theorem cv_X3_isSound : aj_cv yX3_isSound := ⟨(aj_i3 155 rfl rfl), (aj_i3 156 rfl rfl)⟩
set_option maxRecDepth 100000 in
theorem ml_RX3_231 : Cond.methodLink RX3 231 yX3_areAnglesSound ∈ aj_TB := (aj_i3 158 rfl rfl)
set_option maxRecDepth 100000 in
theorem ml_RX3_234 : Cond.methodLink RX3 234 yX1_isRoundSound ∈ aj_TB := (aj_i3 217 rfl rfl)
set_option maxRecDepth 100000 in
theorem ml_RX3_237 : Cond.methodLink RX3 237 yX1_isHullSound ∈ aj_TB := (aj_i3 221 rfl rfl)
set_option maxRecDepth 100000 in
theorem ml_RX3_240 : Cond.methodLink RX3 240 yX1_isStarSound ∈ aj_TB := (aj_i3 225 rfl rfl)
set_option maxRecDepth 100000 in
theorem cd_X3_areAnglesSound : aj_cd yX3_areAnglesSound cX3_areAnglesSound 3 (some .boolean) 0 := ⟨(aj_i3 161 rfl rfl), (aj_i1 1 rfl rfl), by decide +kernel⟩
set_option maxRecDepth 100000 in
theorem cv_X3_areAnglesSound : aj_cv yX3_areAnglesSound := ⟨(aj_i3 160 rfl rfl), (aj_in 14 (by decide +kernel) rfl)⟩
set_option maxRecDepth 100000 in
theorem ml_RX3_243 : Cond.methodLink RX3 243 yX3_isPairSound ∈ aj_TB := (aj_i3 184 rfl rfl)
set_option maxRecDepth 100000 in
theorem cd_X3_isPairSound : aj_cd yX3_isPairSound cX3_isPairSound 6 (some .boolean) 2 := ⟨(aj_i3 187 rfl rfl), (aj_i1 1 rfl rfl), by decide +kernel⟩
set_option maxRecDepth 100000 in
theorem cv_X3_isPairSound : aj_cv yX3_isPairSound := ⟨(aj_i3 186 rfl rfl), (aj_in 15 (by decide +kernel) rfl)⟩
set_option maxRecDepth 100000 in
theorem ml_RX3_247 : Cond.methodLink RX3 247 yX0_compareDigits ∈ aj_TB := (aj_i3 197 rfl rfl)
set_option maxRecDepth 100000 in
theorem ml_RX3_250 : Cond.methodLink RX3 250 yX0_sideBetween ∈ aj_TB := (aj_i3 209 rfl rfl)
set_option maxRecDepth 100000 in
theorem cd_X3_digest : aj_cd yX3_digest cX3_digest 5 (some .long) 0 := ⟨(aj_i3 235 rfl rfl), (aj_i1 1 rfl rfl), by decide +kernel⟩
set_option maxRecDepth 100000 in
theorem cv_X3_digest : aj_cv yX3_digest := ⟨(aj_i3 233 rfl rfl), (aj_i3 234 rfl rfl)⟩
set_option maxRecDepth 100000 in
theorem kc_RX3_254 : Cond.constantLong RX3 254 (7682) ∈ aj_TB := (aj_i3 236 rfl rfl)
set_option maxRecDepth 100000 in
theorem ml_RX3_256 : Cond.methodLink RX3 256 yX3_withCell ∈ aj_TB := (aj_i3 237 rfl rfl)
set_option maxRecDepth 100000 in
theorem ml_RX3_260 : Cond.methodLink RX3 260 yX3_order ∈ aj_TB := (aj_i4 82 rfl rfl)
set_option maxRecDepth 100000 in
theorem ml_RX3_263 : Cond.methodLink RX3 263 yX3_with ∈ aj_TB := (aj_i4 24 rfl rfl)
set_option maxRecDepth 100000 in
theorem ml_RX3_267 : Cond.methodLink RX3 267 yX3_like ∈ aj_TB := (aj_i4 86 rfl rfl)
set_option maxRecDepth 100000 in
theorem ml_RX3_270 : Cond.methodLink RX3 270 yX3_side ∈ aj_TB := (aj_i4 91 rfl rfl)
set_option maxRecDepth 100000 in
theorem ml_RX3_273 : Cond.methodLink RX3 273 yX3_withField ∈ aj_TB := (aj_i4 95 rfl rfl)
set_option maxRecDepth 100000 in
theorem ml_RX3_277 : Cond.methodLink RX3 277 yX3_house ∈ aj_TB := (aj_i4 107 rfl rfl)
set_option maxRecDepth 100000 in
theorem ml_RX3_280 : Cond.methodLink RX3 280 yX3_isSound ∈ aj_TB := (aj_i4 111 rfl rfl)
set_option maxRecDepth 100000 in
theorem cd_X3_withCell : aj_cd yX3_withCell cX3_withCell 6 (some .long) 2 := ⟨(aj_i4 0 rfl rfl), (aj_i1 1 rfl rfl), by decide +kernel⟩
set_option maxRecDepth 100000 in
theorem cv_X3_withCell : aj_cv yX3_withCell := ⟨(aj_i3 239 rfl rfl), (aj_in 16 (by decide +kernel) rfl)⟩
set_option maxRecDepth 100000 in
theorem ml_RX3_283 : Cond.methodLink RX3 283 yX3_across ∈ aj_TB := (aj_i4 1 rfl rfl)
set_option maxRecDepth 100000 in
theorem ml_RX3_285 : Cond.methodLink RX3 285 yX3_up ∈ aj_TB := (aj_i4 28 rfl rfl)
set_option maxRecDepth 100000 in
theorem ml_RX3_287 : Cond.methodLink RX3 287 yX3_signs ∈ aj_TB := (aj_i4 32 rfl rfl)
set_option maxRecDepth 100000 in
theorem ml_RX3_289 : Cond.methodLink RX3 289 yX3_upper ∈ aj_TB := (aj_i4 36 rfl rfl)
set_option maxRecDepth 100000 in
theorem ml_RX3_292 : Cond.methodLink RX3 292 yX3_lower ∈ aj_TB := (aj_i4 40 rfl rfl)
set_option maxRecDepth 100000 in
theorem ml_RX3_295 : Cond.methodLink RX3 295 yX3_grade ∈ aj_TB := (aj_i4 58 rfl rfl)
set_option maxRecDepth 100000 in
theorem ml_RX3_298 : Cond.methodLink RX3 298 yX3_eighth ∈ aj_TB := (aj_i4 71 rfl rfl)
set_option maxRecDepth 100000 in
theorem ml_RX3_301 : Cond.methodLink RX3 301 yX3_find ∈ aj_TB := (aj_i4 78 rfl rfl)
set_option maxRecDepth 100000 in
theorem cd_X3_withField : aj_cd yX3_withField cX3_withField 6 (some .long) 1 := ⟨(aj_i4 98 rfl rfl), (aj_i1 1 rfl rfl), by decide +kernel⟩
set_option maxRecDepth 100000 in
theorem cv_X3_withField : aj_cv yX3_withField := ⟨(aj_i4 97 rfl rfl), (aj_in 17 (by decide +kernel) rfl)⟩
set_option maxRecDepth 100000 in
theorem ml_RX3_305 : Cond.methodLink RX3 305 yX3_centreAt ∈ aj_TB := (aj_i4 99 rfl rfl)
set_option maxRecDepth 100000 in
theorem ml_RX3_309 : Cond.methodLink RX3 309 yX3_withRow ∈ aj_TB := (aj_i4 100 rfl rfl)
set_option maxRecDepth 100000 in
theorem ml_RX3_313 : Cond.methodLink RX3 313 yX3_isStar ∈ aj_TB := (aj_i4 103 rfl rfl)
set_option maxRecDepth 100000 in
theorem ml_RX3_316 : Cond.methodLink RX3 316 yX3_starArea ∈ aj_TB := (aj_i4 104 rfl rfl)
set_option maxRecDepth 100000 in
theorem ml_RX3_319 : Cond.methodLink RX3 319 yX3_hullArea ∈ aj_TB := (aj_i4 105 rfl rfl)
set_option maxRecDepth 100000 in
theorem ml_RX3_322 : Cond.methodLink RX3 322 yX3_rounds ∈ aj_TB := (aj_i4 106 rfl rfl)
set_option maxRecDepth 100000 in
theorem cd_X3_withRow : aj_cd yX3_withRow cX3_withRow 7 (some .long) 3 := ⟨(aj_i4 102 rfl rfl), (aj_i1 1 rfl rfl), by decide +kernel⟩
set_option maxRecDepth 100000 in
theorem sv_X3_withRow : Cond.static yX3_withRow ∈ aj_TB := (aj_i4 101 rfl rfl)
set_option maxRecDepth 100000 in
theorem cd_X3_with : aj_cd yX3_with cX3_with 4 (some .long) 2 := ⟨(aj_i4 26 rfl rfl), (aj_i1 1 rfl rfl), by decide +kernel⟩
set_option maxRecDepth 100000 in
theorem sv_X3_with : Cond.static yX3_with ∈ aj_TB := (aj_i4 25 rfl rfl)
set_option maxRecDepth 100000 in
theorem kc_RX3_325 : Cond.constantLong RX3 325 (31) ∈ aj_TB := (aj_i4 27 rfl rfl)
set_option maxRecDepth 100000 in
theorem cd_X3_checkCell : aj_cd yX3_checkCell cX3_checkCell 1 none 1 := ⟨(aj_i4 7 rfl rfl), (aj_i1 1 rfl rfl), by decide +kernel⟩
set_option maxRecDepth 100000 in
theorem sv_X3_checkCell : Cond.static yX3_checkCell ∈ aj_TB := (aj_i4 6 rfl rfl)
-- call? Raywalk Method java/lang/IndexOutOfBoundsException."<init>":(Ljava/lang/String;)V
set_option maxRecDepth 100000 in
theorem cd_X3_checkPlace : aj_cd yX3_checkPlace cX3_checkPlace 2 none 1 := ⟨(aj_i4 182 rfl rfl), (aj_i1 1 rfl rfl), by decide +kernel⟩
set_option maxRecDepth 100000 in
theorem cv_X3_checkPlace : aj_cv yX3_checkPlace := ⟨(aj_i4 181 rfl rfl), (aj_in 21 (by decide +kernel) rfl)⟩
set_option maxRecDepth 100000 in
theorem cd_X3_checkSpot : aj_cd yX3_checkSpot cX3_checkSpot 2 none 2 := ⟨(aj_i5 15 rfl rfl), (aj_i1 1 rfl rfl), by decide +kernel⟩
set_option maxRecDepth 100000 in
theorem sv_X3_checkSpot : Cond.static yX3_checkSpot ∈ aj_TB := (aj_i5 14 rfl rfl)
set_option maxRecDepth 100000 in
theorem cd_X3_checkBetween : aj_cd yX3_checkBetween cX3_checkBetween 3 none 3 := ⟨(aj_i4 64 rfl rfl), (aj_i1 1 rfl rfl), by decide +kernel⟩
set_option maxRecDepth 100000 in
theorem sv_X3_checkBetween : Cond.static yX3_checkBetween ∈ aj_TB := (aj_i4 63 rfl rfl)
-- call? Raywalk Method java/lang/IllegalArgumentException."<init>":(Ljava/lang/String;)V
set_option maxRecDepth 100000 in
theorem cd_X3_isCoordinate : aj_cd yX3_isCoordinate cX3_isCoordinate 1 (some .boolean) 1 := ⟨(aj_i4 160 rfl rfl), (aj_i1 1 rfl rfl), by decide +kernel⟩
set_option maxRecDepth 100000 in
theorem sv_X3_isCoordinate : Cond.static yX3_isCoordinate ∈ aj_TB := (aj_i4 159 rfl rfl)
set_option maxRecDepth 100000 in
theorem cd_X3_signOf : aj_cd yX3_signOf cX3_signOf 2 (some .int) 1 := ⟨(aj_i3 108 rfl rfl), (aj_i1 1 rfl rfl), by decide +kernel⟩
set_option maxRecDepth 100000 in
theorem sv_X3_signOf : Cond.static yX3_signOf ∈ aj_TB := (aj_i3 107 rfl rfl)
set_option maxRecDepth 100000 in
theorem cd_X5_init : aj_cd yX5_init cX5_init 2 none 0 := ⟨(aj_i5 95 rfl rfl), (aj_i1 4 rfl rfl), by decide +kernel⟩
set_option maxRecDepth 100000 in
theorem iv_X5_init : Cond.instanceMethod yX5_init ∈ aj_TB := (aj_i5 94 rfl rfl)
set_option maxRecDepth 100000 in
theorem ml_RX5_3 : Cond.methodLink RX5 3 Lib.objectInit ∈ aj_TB := (aj_i5 96 rfl rfl)
set_option maxRecDepth 100000 in
theorem fl_RX5_9 : aj_FL RX5 9 6 1 := ⟨by decide, by decide, (aj_i5 98 rfl rfl)⟩
set_option maxRecDepth 100000 in
theorem fl_RX5_13 : aj_FL RX5 13 6 2 := ⟨by decide, by decide, (aj_i5 99 rfl rfl)⟩
set_option maxRecDepth 100000 in
theorem fl_RX5_16 : aj_FL RX5 16 6 3 := ⟨by decide, by decide, (aj_i5 100 rfl rfl)⟩
set_option maxRecDepth 100000 in
theorem fl_RX5_19 : aj_FL RX5 19 6 4 := ⟨by decide, by decide, (aj_i5 101 rfl rfl)⟩
set_option maxRecDepth 100000 in
theorem fl_RX5_23 : aj_FL RX5 23 6 5 := ⟨by decide, by decide, (aj_i5 102 rfl rfl)⟩
set_option maxRecDepth 100000 in
theorem fl_RX5_26 : aj_FL RX5 26 6 6 := ⟨by decide, by decide, (aj_i5 103 rfl rfl)⟩
set_option maxRecDepth 100000 in
theorem fl_RX5_29 : aj_FL RX5 29 6 10 := ⟨by decide, by decide, (aj_i5 107 rfl rfl)⟩
set_option maxRecDepth 100000 in
theorem cd_X5_thrown : aj_cd yX5_thrown cX5_thrown 1 (some .int) 0 := ⟨(aj_i5 134 rfl rfl), (aj_i1 4 rfl rfl), by decide +kernel⟩
set_option maxRecDepth 100000 in
theorem cv_X5_thrown : aj_cv yX5_thrown := ⟨(aj_i5 132 rfl rfl), (aj_i5 133 rfl rfl)⟩
set_option maxRecDepth 100000 in
theorem fl_RX5_32 : aj_FL RX5 32 6 0 := ⟨by decide, by decide, (aj_i5 97 rfl rfl)⟩
set_option maxRecDepth 100000 in
theorem cd_X5_refuse : aj_cd yX5_refuse cX5_refuse 3 (some .boolean) 2 := ⟨(aj_i5 152 rfl rfl), (aj_i1 4 rfl rfl), by decide +kernel⟩
set_option maxRecDepth 100000 in
theorem cv_X5_refuse : aj_cv yX5_refuse := ⟨(aj_i5 151 rfl rfl), (aj_in 23 (by decide +kernel) rfl)⟩
set_option maxRecDepth 100000 in
theorem cd_X5_start : aj_cd yX5_start cX5_start 3 (some .boolean) 2 := ⟨(aj_i5 148 rfl rfl), (aj_i1 4 rfl rfl), by decide +kernel⟩
set_option maxRecDepth 100000 in
theorem cv_X5_start : aj_cv yX5_start := ⟨(aj_i5 147 rfl rfl), (aj_in 22 (by decide +kernel) rfl)⟩
set_option maxRecDepth 100000 in
theorem ml_RX5_36 : Cond.methodLink RX5 36 yX5_refuse ∈ aj_TB := (aj_i5 149 rfl rfl)
set_option maxRecDepth 100000 in
theorem cd_X5_isIn : aj_cd yX5_isIn cX5_isIn 3 (some .boolean) 3 := ⟨(aj_i5 144 rfl rfl), (aj_i1 4 rfl rfl), by decide +kernel⟩
set_option maxRecDepth 100000 in
theorem sv_X5_isIn : Cond.static yX5_isIn ∈ aj_TB := (aj_i5 143 rfl rfl)
set_option maxRecDepth 100000 in
theorem cd_X5_isNoCell : aj_cd yX5_isNoCell cX5_isNoCell 1 (some .boolean) 1 := ⟨(aj_i5 141 rfl rfl), (aj_i1 4 rfl rfl), by decide +kernel⟩
set_option maxRecDepth 100000 in
theorem sv_X5_isNoCell : Cond.static yX5_isNoCell ∈ aj_TB := (aj_i5 140 rfl rfl)
set_option maxRecDepth 100000 in
theorem ml_RX5_40 : Cond.methodLink RX5 40 yX5_isIn ∈ aj_TB := (aj_i5 142 rfl rfl)
set_option maxRecDepth 100000 in
theorem cd_X5_isNoAt : aj_cd yX5_isNoAt cX5_isNoAt 2 (some .boolean) 2 := ⟨(aj_i6 107 rfl rfl), (aj_i1 4 rfl rfl), by decide +kernel⟩
set_option maxRecDepth 100000 in
theorem sv_X5_isNoAt : Cond.static yX5_isNoAt ∈ aj_TB := (aj_i6 106 rfl rfl)
set_option maxRecDepth 100000 in
theorem cd_X5_isNoPlace : aj_cd yX5_isNoPlace cX5_isNoPlace 2 (some .boolean) 1 := ⟨(aj_i5 230 rfl rfl), (aj_i1 4 rfl rfl), by decide +kernel⟩
set_option maxRecDepth 100000 in
theorem cv_X5_isNoPlace : aj_cv yX5_isNoPlace := ⟨(aj_i5 229 rfl rfl), (aj_in 29 (by decide +kernel) rfl)⟩
set_option maxRecDepth 100000 in
theorem fl_RX5_44 : aj_FL RX5 44 6 7 := ⟨by decide, by decide, (aj_i5 104 rfl rfl)⟩
set_option maxRecDepth 100000 in
theorem cd_X5_one : aj_cd yX5_one cX5_one 1 (some .int) 1 := ⟨(aj_i5 162 rfl rfl), (aj_i1 4 rfl rfl), by decide +kernel⟩
set_option maxRecDepth 100000 in
theorem sv_X5_one : Cond.static yX5_one ∈ aj_TB := (aj_i5 161 rfl rfl)
set_option maxRecDepth 100000 in
theorem cd_X5_cross : aj_cd yX5_cross cX5_cross 4 (some .int) 4 := ⟨(aj_i5 179 rfl rfl), (aj_i1 4 rfl rfl), by decide +kernel⟩
set_option maxRecDepth 100000 in
theorem sv_X5_cross : Cond.static yX5_cross ∈ aj_TB := (aj_i5 178 rfl rfl)
set_option maxRecDepth 100000 in
theorem cd_X5_dot : aj_cd yX5_dot cX5_dot 4 (some .int) 4 := ⟨(aj_i5 182 rfl rfl), (aj_i1 4 rfl rfl), by decide +kernel⟩
set_option maxRecDepth 100000 in
theorem sv_X5_dot : Cond.static yX5_dot ∈ aj_TB := (aj_i5 181 rfl rfl)
set_option maxRecDepth 100000 in
theorem cd_X5_sign : aj_cd yX5_sign cX5_sign 2 (some .int) 2 := ⟨(aj_i5 159 rfl rfl), (aj_i1 4 rfl rfl), by decide +kernel⟩
set_option maxRecDepth 100000 in
theorem sv_X5_sign : Cond.static yX5_sign ∈ aj_TB := (aj_i5 158 rfl rfl)
set_option maxRecDepth 100000 in
theorem ml_RX5_47 : Cond.methodLink RX5 47 yX5_one ∈ aj_TB := (aj_i5 160 rfl rfl)
set_option maxRecDepth 100000 in
theorem cd_X5_orderOf : aj_cd yX5_orderOf cX5_orderOf 7 (some .int) 6 := ⟨(aj_i5 176 rfl rfl), (aj_i1 4 rfl rfl), by decide +kernel⟩
set_option maxRecDepth 100000 in
theorem sv_X5_orderOf : Cond.static yX5_orderOf ∈ aj_TB := (aj_i5 175 rfl rfl)
set_option maxRecDepth 100000 in
theorem ml_RX5_51 : Cond.methodLink RX5 51 yX5_cross ∈ aj_TB := (aj_i5 177 rfl rfl)
set_option maxRecDepth 100000 in
theorem ml_RX5_55 : Cond.methodLink RX5 55 yX5_dot ∈ aj_TB := (aj_i5 180 rfl rfl)
set_option maxRecDepth 100000 in
theorem cd_X5_wayOrder : aj_cd yX5_wayOrder cX5_wayOrder 4 (some .int) 4 := ⟨(aj_i6 180 rfl rfl), (aj_i1 4 rfl rfl), by decide +kernel⟩
set_option maxRecDepth 100000 in
theorem sv_X5_wayOrder : Cond.static yX5_wayOrder ∈ aj_TB := (aj_i6 179 rfl rfl)
set_option maxRecDepth 100000 in
theorem ml_RX5_58 : Cond.methodLink RX5 58 yX5_orderOf ∈ aj_TB := (aj_i5 174 rfl rfl)
set_option maxRecDepth 100000 in
theorem cd_X5_part : aj_cd yX5_part cX5_part 6 (some .long) 3 := ⟨(aj_i5 199 rfl rfl), (aj_i1 4 rfl rfl), by decide +kernel⟩
set_option maxRecDepth 100000 in
theorem sv_X5_part : Cond.static yX5_part ∈ aj_TB := (aj_i5 198 rfl rfl)
set_option maxRecDepth 100000 in
theorem cd_X5_arc : aj_cd yX5_arc cX5_arc 11 (some .long) 2 := ⟨(aj_i5 195 rfl rfl), (aj_i1 4 rfl rfl), by decide +kernel⟩
set_option maxRecDepth 100000 in
theorem sv_X5_arc : Cond.static yX5_arc ∈ aj_TB := (aj_i5 194 rfl rfl)
set_option maxRecDepth 100000 in
theorem kc_RX5_62 : Cond.constantLong RX5 62 (1152921504606846976) ∈ aj_TB := (aj_i5 196 rfl rfl)
set_option maxRecDepth 100000 in
theorem ml_RX5_64 : Cond.methodLink RX5 64 yX5_part ∈ aj_TB := (aj_i5 197 rfl rfl)
set_option maxRecDepth 100000 in
theorem cd_X5_slant : aj_cd yX5_slant cX5_slant 6 (some .long) 2 := ⟨(aj_i5 192 rfl rfl), (aj_i1 4 rfl rfl), by decide +kernel⟩
set_option maxRecDepth 100000 in
theorem sv_X5_slant : Cond.static yX5_slant ∈ aj_TB := (aj_i5 191 rfl rfl)
set_option maxRecDepth 100000 in
theorem ml_RX5_68 : Cond.methodLink RX5 68 yJ9_abs_0f7a4 ∈ aj_TB := (aj_i5 187 rfl rfl)
set_option maxRecDepth 100000 in
theorem ml_RX5_74 : Cond.methodLink RX5 74 yX5_arc ∈ aj_TB := (aj_i5 193 rfl rfl)
set_option maxRecDepth 100000 in
theorem kc_RX5_78 : Cond.constantLong RX5 78 (1811004864519280710) ∈ aj_TB := (aj_i5 200 rfl rfl)
set_option maxRecDepth 100000 in
theorem kc_RX5_80 : Cond.constantLong RX5 80 (3622009729038561421) ∈ aj_TB := (aj_i5 201 rfl rfl)
set_option maxRecDepth 100000 in
theorem cd_X5_lookOf : aj_cd yX5_lookOf cX5_lookOf 3 (some .int) 3 := ⟨(aj_i5 165 rfl rfl), (aj_i1 4 rfl rfl), by decide +kernel⟩
set_option maxRecDepth 100000 in
theorem sv_X5_lookOf : Cond.static yX5_lookOf ∈ aj_TB := (aj_i5 164 rfl rfl)
set_option maxRecDepth 100000 in
theorem cd_X5_sizeOf : aj_cd yX5_sizeOf cX5_sizeOf 3 (some .long) 3 := ⟨(aj_i5 185 rfl rfl), (aj_i1 4 rfl rfl), by decide +kernel⟩
set_option maxRecDepth 100000 in
theorem sv_X5_sizeOf : Cond.static yX5_sizeOf ∈ aj_TB := (aj_i5 184 rfl rfl)
set_option maxRecDepth 100000 in
theorem kc_RX5_82 : Cond.constantLong RX5 82 (1811004864519280640) ∈ aj_TB := (aj_i5 186 rfl rfl)
set_option maxRecDepth 100000 in
theorem ml_RX5_84 : Cond.methodLink RX5 84 yX5_slant ∈ aj_TB := (aj_i5 190 rfl rfl)
set_option maxRecDepth 100000 in
theorem ml_RX5_88 : Cond.methodLink RX5 88 yX5_lookOf ∈ aj_TB := (aj_i5 163 rfl rfl)
set_option maxRecDepth 100000 in
theorem kc_RX5_92 : Cond.constantLong RX5 92 (3622009729038561280) ∈ aj_TB := (aj_i5 202 rfl rfl)
set_option maxRecDepth 100000 in
theorem cd_X5_gradeOf : aj_cd yX5_gradeOf cX5_gradeOf 4 (some .int) 3 := ⟨(aj_i6 41 rfl rfl), (aj_i1 4 rfl rfl), by decide +kernel⟩
set_option maxRecDepth 100000 in
theorem sv_X5_gradeOf : Cond.static yX5_gradeOf ∈ aj_TB := (aj_i6 40 rfl rfl)
set_option maxRecDepth 100000 in
theorem cd_X5_look : aj_cd yX5_look cX5_look 2 (some .int) 1 := ⟨(aj_i5 169 rfl rfl), (aj_i1 4 rfl rfl), by decide +kernel⟩
set_option maxRecDepth 100000 in
theorem cv_X5_look : aj_cv yX5_look := ⟨(aj_i5 168 rfl rfl), (aj_in 25 (by decide +kernel) rfl)⟩
set_option maxRecDepth 100000 in
theorem cd_X5_upSignOf : aj_cd yX5_upSignOf cX5_upSignOf 2 (some .int) 1 := ⟨(aj_i5 173 rfl rfl), (aj_i1 4 rfl rfl), by decide +kernel⟩
set_option maxRecDepth 100000 in
theorem cv_X5_upSignOf : aj_cv yX5_upSignOf := ⟨(aj_i5 172 rfl rfl), (aj_in 26 (by decide +kernel) rfl)⟩
set_option maxRecDepth 100000 in
theorem cd_X5_isNull : aj_cd yX5_isNull cX5_isNull 2 (some .boolean) 1 := ⟨(aj_i6 73 rfl rfl), (aj_i1 4 rfl rfl), by decide +kernel⟩
set_option maxRecDepth 100000 in
theorem cv_X5_isNull : aj_cv yX5_isNull := ⟨(aj_i6 72 rfl rfl), (aj_in 37 (by decide +kernel) rfl)⟩
set_option maxRecDepth 100000 in
theorem cd_X5_isZero : aj_cd yX5_isZero cX5_isZero 2 (some .boolean) 1 := ⟨(aj_i6 33 rfl rfl), (aj_i1 4 rfl rfl), by decide +kernel⟩
set_option maxRecDepth 100000 in
theorem cv_X5_isZero : aj_cv yX5_isZero := ⟨(aj_i6 32 rfl rfl), (aj_in 33 (by decide +kernel) rfl)⟩
set_option maxRecDepth 100000 in
theorem ml_RX5_94 : Cond.methodLink RX5 94 yX5_look ∈ aj_TB := (aj_i5 166 rfl rfl)
set_option maxRecDepth 100000 in
theorem cd_X5_orderAt : aj_cd yX5_orderAt cX5_orderAt 3 (some .int) 2 := ⟨(aj_i5 238 rfl rfl), (aj_i1 4 rfl rfl), by decide +kernel⟩
set_option maxRecDepth 100000 in
theorem cv_X5_orderAt : aj_cv yX5_orderAt := ⟨(aj_i5 237 rfl rfl), (aj_in 30 (by decide +kernel) rfl)⟩
set_option maxRecDepth 100000 in
theorem ml_RX5_97 : Cond.methodLink RX5 97 yX5_upSignOf ∈ aj_TB := (aj_i5 170 rfl rfl)
set_option maxRecDepth 100000 in
theorem cd_X5_isLike : aj_cd yX5_isLike cX5_isLike 3 (some .boolean) 2 := ⟨(aj_i6 57 rfl rfl), (aj_i1 4 rfl rfl), by decide +kernel⟩
set_option maxRecDepth 100000 in
theorem cv_X5_isLike : aj_cv yX5_isLike := ⟨(aj_i6 56 rfl rfl), (aj_in 35 (by decide +kernel) rfl)⟩
set_option maxRecDepth 100000 in
theorem ml_RX5_100 : Cond.methodLink RX5 100 yX5_isZero ∈ aj_TB := (aj_i6 30 rfl rfl)
set_option maxRecDepth 100000 in
theorem ml_RX5_104 : Cond.methodLink RX5 104 yX5_orderAt ∈ aj_TB := (aj_i5 235 rfl rfl)
set_option maxRecDepth 100000 in
theorem cd_X5_sideAt : aj_cd yX5_sideAt cX5_sideAt 3 (some .int) 2 := ⟨(aj_i6 69 rfl rfl), (aj_i1 4 rfl rfl), by decide +kernel⟩
set_option maxRecDepth 100000 in
theorem cv_X5_sideAt : aj_cv yX5_sideAt := ⟨(aj_i6 68 rfl rfl), (aj_in 36 (by decide +kernel) rfl)⟩
set_option maxRecDepth 100000 in
theorem ml_RX5_108 : Cond.methodLink RX5 108 yX5_isNull ∈ aj_TB := (aj_i6 70 rfl rfl)
set_option maxRecDepth 100000 in
theorem ml_RX5_111 : Cond.methodLink RX5 111 yJ6_signum_0f7a4 ∈ aj_TB := (aj_i6 74 rfl rfl)
set_option maxRecDepth 100000 in
theorem cd_X5_isNotAhead : aj_cd yX5_isNotAhead cX5_isNotAhead 4 (some .int) 3 := ⟨(aj_i6 88 rfl rfl), (aj_i1 4 rfl rfl), by decide +kernel⟩
set_option maxRecDepth 100000 in
theorem cv_X5_isNotAhead : aj_cv yX5_isNotAhead := ⟨(aj_i6 87 rfl rfl), (aj_in 39 (by decide +kernel) rfl)⟩
set_option maxRecDepth 100000 in
theorem cd_X5_eighthOf : aj_cd yX5_eighthOf cX5_eighthOf 4 (some .int) 1 := ⟨(aj_i6 84 rfl rfl), (aj_i1 4 rfl rfl), by decide +kernel⟩
set_option maxRecDepth 100000 in
theorem cv_X5_eighthOf : aj_cv yX5_eighthOf := ⟨(aj_i6 83 rfl rfl), (aj_in 38 (by decide +kernel) rfl)⟩
set_option maxRecDepth 100000 in
theorem ml_RX5_116 : Cond.methodLink RX5 116 yX5_isNotAhead ∈ aj_TB := (aj_i6 85 rfl rfl)
set_option maxRecDepth 100000 in
theorem cd_X5_upperOf : aj_cd yX5_upperOf cX5_upperOf 6 (some .int) 1 := ⟨(aj_i6 18 rfl rfl), (aj_i1 4 rfl rfl), by decide +kernel⟩
set_option maxRecDepth 100000 in
theorem cv_X5_upperOf : aj_cv yX5_upperOf := ⟨(aj_i6 17 rfl rfl), (aj_in 31 (by decide +kernel) rfl)⟩
set_option maxRecDepth 100000 in
theorem kc_RX5_119 : Cond.constant RX5 119 (1048576) ∈ aj_TB := (aj_i6 19 rfl rfl)
set_option maxRecDepth 100000 in
theorem cd_X5_lowerOf : aj_cd yX5_lowerOf cX5_lowerOf 2 (some .int) 1 := ⟨(aj_i6 27 rfl rfl), (aj_i1 4 rfl rfl), by decide +kernel⟩
set_option maxRecDepth 100000 in
theorem cv_X5_lowerOf : aj_cv yX5_lowerOf := ⟨(aj_i6 26 rfl rfl), (aj_in 32 (by decide +kernel) rfl)⟩
set_option maxRecDepth 100000 in
theorem kc_RX5_120 : Cond.constantLong RX5 120 (802078686650834) ∈ aj_TB := (aj_i6 28 rfl rfl)
set_option maxRecDepth 100000 in
theorem kc_RX5_122 : Cond.constantLong RX5 122 (2570638124657944) ∈ aj_TB := (aj_i6 29 rfl rfl)
set_option maxRecDepth 100000 in
theorem kc_RX5_124 : Cond.constant RX5 124 (1413754136) ∈ aj_TB := (aj_i6 34 rfl rfl)
set_option maxRecDepth 100000 in
theorem cd_X5_failed : aj_cd yX5_failed cX5_failed 1 (some .int) 0 := ⟨(aj_i5 218 rfl rfl), (aj_i1 4 rfl rfl), by decide +kernel⟩
set_option maxRecDepth 100000 in
theorem cv_X5_failed : aj_cv yX5_failed := ⟨(aj_i5 217 rfl rfl), (aj_in 28 (by decide +kernel) rfl)⟩
set_option maxRecDepth 100000 in
theorem cd_X5_move : aj_cd yX5_move cX5_move 9 (some .int) 5 := ⟨(aj_i5 156 rfl rfl), (aj_i1 4 rfl rfl), by decide +kernel⟩
set_option maxRecDepth 100000 in
theorem cv_X5_move : aj_cv yX5_move := ⟨(aj_i5 155 rfl rfl), (aj_in 24 (by decide +kernel) rfl)⟩
set_option maxRecDepth 100000 in
theorem ml_RX5_125 : Cond.methodLink RX5 125 yX5_sign ∈ aj_TB := (aj_i5 157 rfl rfl)
set_option maxRecDepth 100000 in
theorem ml_RX5_128 : Cond.methodLink RX5 128 yX5_sizeOf ∈ aj_TB := (aj_i5 183 rfl rfl)
set_option maxRecDepth 100000 in
theorem cd_X5_put : aj_cd yX5_put cX5_put 5 (some .int) 4 := ⟨(aj_i5 138 rfl rfl), (aj_i1 4 rfl rfl), by decide +kernel⟩
set_option maxRecDepth 100000 in
theorem cv_X5_put : aj_cv yX5_put := ⟨(aj_i5 136 rfl rfl), (aj_i5 137 rfl rfl)⟩
set_option maxRecDepth 100000 in
theorem ml_RX5_132 : Cond.methodLink RX5 132 yX5_isNoCell ∈ aj_TB := (aj_i5 139 rfl rfl)
set_option maxRecDepth 100000 in
theorem ml_RX5_135 : Cond.methodLink RX5 135 yX5_start ∈ aj_TB := (aj_i5 145 rfl rfl)
set_option maxRecDepth 100000 in
theorem ml_RX5_138 : Cond.methodLink RX5 138 yX5_move ∈ aj_TB := (aj_i5 153 rfl rfl)
set_option maxRecDepth 100000 in
theorem cd_X5_make : aj_cd yX5_make cX5_make 7 (some .int) 2 := ⟨(aj_i5 206 rfl rfl), (aj_i1 4 rfl rfl), by decide +kernel⟩
set_option maxRecDepth 100000 in
theorem cv_X5_make : aj_cv yX5_make := ⟨(aj_i5 204 rfl rfl), (aj_i5 205 rfl rfl)⟩
set_option maxRecDepth 100000 in
theorem cd_X5_moveTo : aj_cd yX5_moveTo cX5_moveTo 6 (some .int) 5 := ⟨(aj_i5 214 rfl rfl), (aj_i1 4 rfl rfl), by decide +kernel⟩
set_option maxRecDepth 100000 in
theorem cv_X5_moveTo : aj_cv yX5_moveTo := ⟨(aj_i5 213 rfl rfl), (aj_in 27 (by decide +kernel) rfl)⟩
set_option maxRecDepth 100000 in
theorem ml_RX5_142 : Cond.methodLink RX5 142 yX5_failed ∈ aj_TB := (aj_i5 215 rfl rfl)
set_option maxRecDepth 100000 in
theorem cd_X5_stretch : aj_cd yX5_stretch cX5_stretch 3 (some .int) 2 := ⟨(aj_i5 210 rfl rfl), (aj_i1 4 rfl rfl), by decide +kernel⟩
set_option maxRecDepth 100000 in
theorem cv_X5_stretch : aj_cv yX5_stretch := ⟨(aj_i5 208 rfl rfl), (aj_i5 209 rfl rfl)⟩
set_option maxRecDepth 100000 in
theorem ml_RX5_146 : Cond.methodLink RX5 146 yX5_moveTo ∈ aj_TB := (aj_i5 211 rfl rfl)
set_option maxRecDepth 100000 in
theorem cd_X5_addSteps : aj_cd yX5_addSteps cX5_addSteps 5 (some .int) 3 := ⟨(aj_i5 222 rfl rfl), (aj_i1 4 rfl rfl), by decide +kernel⟩
set_option maxRecDepth 100000 in
theorem cv_X5_addSteps : aj_cv yX5_addSteps := ⟨(aj_i5 220 rfl rfl), (aj_i5 221 rfl rfl)⟩
set_option maxRecDepth 100000 in
theorem cd_X5_takeStep : aj_cd yX5_takeStep cX5_takeStep 4 (some .int) 3 := ⟨(aj_i5 226 rfl rfl), (aj_i1 4 rfl rfl), by decide +kernel⟩
set_option maxRecDepth 100000 in
theorem cv_X5_takeStep : aj_cv yX5_takeStep := ⟨(aj_i5 224 rfl rfl), (aj_i5 225 rfl rfl)⟩
set_option maxRecDepth 100000 in
theorem ml_RX5_149 : Cond.methodLink RX5 149 yX5_isNoPlace ∈ aj_TB := (aj_i5 227 rfl rfl)
set_option maxRecDepth 100000 in
theorem cd_X5_sortSteps : aj_cd yX5_sortSteps cX5_sortSteps 10 (some .int) 1 := ⟨(aj_i5 234 rfl rfl), (aj_i1 4 rfl rfl), by decide +kernel⟩
set_option maxRecDepth 100000 in
theorem cv_X5_sortSteps : aj_cv yX5_sortSteps := ⟨(aj_i5 232 rfl rfl), (aj_i5 233 rfl rfl)⟩
set_option maxRecDepth 100000 in
theorem cd_X5_across : aj_cd yX5_across cX5_across 2 (some .int) 1 := ⟨(aj_i6 2 rfl rfl), (aj_i1 4 rfl rfl), by decide +kernel⟩
set_option maxRecDepth 100000 in
theorem cv_X5_across : aj_cv yX5_across := ⟨(aj_i6 0 rfl rfl), (aj_i6 1 rfl rfl)⟩
set_option maxRecDepth 100000 in
theorem cd_X5_up : aj_cd yX5_up cX5_up 2 (some .int) 1 := ⟨(aj_i6 6 rfl rfl), (aj_i1 4 rfl rfl), by decide +kernel⟩
set_option maxRecDepth 100000 in
theorem cv_X5_up : aj_cv yX5_up := ⟨(aj_i6 4 rfl rfl), (aj_i6 5 rfl rfl)⟩
set_option maxRecDepth 100000 in
theorem cd_X5_signs : aj_cd yX5_signs cX5_signs 2 (some .int) 1 := ⟨(aj_i6 10 rfl rfl), (aj_i1 4 rfl rfl), by decide +kernel⟩
set_option maxRecDepth 100000 in
theorem cv_X5_signs : aj_cv yX5_signs := ⟨(aj_i6 8 rfl rfl), (aj_i6 9 rfl rfl)⟩
set_option maxRecDepth 100000 in
theorem cd_X5_upper : aj_cd yX5_upper cX5_upper 2 (some .int) 1 := ⟨(aj_i6 14 rfl rfl), (aj_i1 4 rfl rfl), by decide +kernel⟩
set_option maxRecDepth 100000 in
theorem cv_X5_upper : aj_cv yX5_upper := ⟨(aj_i6 12 rfl rfl), (aj_i6 13 rfl rfl)⟩
set_option maxRecDepth 100000 in
theorem ml_RX5_152 : Cond.methodLink RX5 152 yX5_upperOf ∈ aj_TB := (aj_i6 15 rfl rfl)
set_option maxRecDepth 100000 in
theorem cd_X5_lower : aj_cd yX5_lower cX5_lower 2 (some .int) 1 := ⟨(aj_i6 23 rfl rfl), (aj_i1 4 rfl rfl), by decide +kernel⟩
set_option maxRecDepth 100000 in
theorem cv_X5_lower : aj_cv yX5_lower := ⟨(aj_i6 21 rfl rfl), (aj_i6 22 rfl rfl)⟩
set_option maxRecDepth 100000 in
theorem ml_RX5_155 : Cond.methodLink RX5 155 yX5_lowerOf ∈ aj_TB := (aj_i6 24 rfl rfl)
set_option maxRecDepth 100000 in
theorem cd_X5_grade : aj_cd yX5_grade cX5_grade 3 (some .int) 2 := ⟨(aj_i6 38 rfl rfl), (aj_i1 4 rfl rfl), by decide +kernel⟩
set_option maxRecDepth 100000 in
theorem cv_X5_grade : aj_cv yX5_grade := ⟨(aj_i6 36 rfl rfl), (aj_i6 37 rfl rfl)⟩
set_option maxRecDepth 100000 in
theorem ml_RX5_158 : Cond.methodLink RX5 158 yX5_gradeOf ∈ aj_TB := (aj_i6 39 rfl rfl)
set_option maxRecDepth 100000 in
theorem cd_X5_startTwo : aj_cd yX5_startTwo cX5_startTwo 3 (some .boolean) 2 := ⟨(aj_i6 49 rfl rfl), (aj_i1 4 rfl rfl), by decide +kernel⟩
set_option maxRecDepth 100000 in
theorem cv_X5_startTwo : aj_cv yX5_startTwo := ⟨(aj_i6 48 rfl rfl), (aj_in 34 (by decide +kernel) rfl)⟩
set_option maxRecDepth 100000 in
theorem cd_X5_order : aj_cd yX5_order cX5_order 4 (some .int) 3 := ⟨(aj_i6 45 rfl rfl), (aj_i1 4 rfl rfl), by decide +kernel⟩
set_option maxRecDepth 100000 in
theorem cv_X5_order : aj_cv yX5_order := ⟨(aj_i6 43 rfl rfl), (aj_i6 44 rfl rfl)⟩
set_option maxRecDepth 100000 in
theorem ml_RX5_162 : Cond.methodLink RX5 162 yX5_startTwo ∈ aj_TB := (aj_i6 46 rfl rfl)
set_option maxRecDepth 100000 in
theorem cd_X5_like : aj_cd yX5_like cX5_like 3 (some .boolean) 2 := ⟨(aj_i6 53 rfl rfl), (aj_i1 4 rfl rfl), by decide +kernel⟩
set_option maxRecDepth 100000 in
theorem cv_X5_like : aj_cv yX5_like := ⟨(aj_i6 51 rfl rfl), (aj_i6 52 rfl rfl)⟩
set_option maxRecDepth 100000 in
theorem ml_RX5_166 : Cond.methodLink RX5 166 yX5_isLike ∈ aj_TB := (aj_i6 54 rfl rfl)
set_option maxRecDepth 100000 in
theorem cd_X5_same : aj_cd yX5_same cX5_same 4 (some .boolean) 3 := ⟨(aj_i6 61 rfl rfl), (aj_i1 4 rfl rfl), by decide +kernel⟩
set_option maxRecDepth 100000 in
theorem cv_X5_same : aj_cv yX5_same := ⟨(aj_i6 59 rfl rfl), (aj_i6 60 rfl rfl)⟩
set_option maxRecDepth 100000 in
theorem cd_X5_side : aj_cd yX5_side cX5_side 3 (some .int) 2 := ⟨(aj_i6 65 rfl rfl), (aj_i1 4 rfl rfl), by decide +kernel⟩
set_option maxRecDepth 100000 in
theorem cv_X5_side : aj_cv yX5_side := ⟨(aj_i6 63 rfl rfl), (aj_i6 64 rfl rfl)⟩
set_option maxRecDepth 100000 in
theorem ml_RX5_169 : Cond.methodLink RX5 169 yX5_sideAt ∈ aj_TB := (aj_i6 66 rfl rfl)
set_option maxRecDepth 100000 in
theorem cd_X5_eighth : aj_cd yX5_eighth cX5_eighth 2 (some .int) 1 := ⟨(aj_i6 80 rfl rfl), (aj_i1 4 rfl rfl), by decide +kernel⟩
set_option maxRecDepth 100000 in
theorem cv_X5_eighth : aj_cv yX5_eighth := ⟨(aj_i6 78 rfl rfl), (aj_i6 79 rfl rfl)⟩
set_option maxRecDepth 100000 in
theorem ml_RX5_172 : Cond.methodLink RX5 172 yX5_eighthOf ∈ aj_TB := (aj_i6 81 rfl rfl)
set_option maxRecDepth 100000 in
theorem cd_X5_rule : aj_cd yX5_rule cX5_rule 3 (some .int) 2 := ⟨(aj_i6 92 rfl rfl), (aj_i1 4 rfl rfl), by decide +kernel⟩
set_option maxRecDepth 100000 in
theorem cv_X5_rule : aj_cv yX5_rule := ⟨(aj_i6 90 rfl rfl), (aj_i6 91 rfl rfl)⟩
set_option maxRecDepth 100000 in
theorem cd_X5_found : aj_cd yX5_found cX5_found 4 (some .int) 2 := ⟨(aj_i6 100 rfl rfl), (aj_i1 4 rfl rfl), by decide +kernel⟩
set_option maxRecDepth 100000 in
theorem cv_X5_found : aj_cv yX5_found := ⟨(aj_i6 99 rfl rfl), (aj_in 40 (by decide +kernel) rfl)⟩
set_option maxRecDepth 100000 in
theorem cd_X5_find : aj_cd yX5_find cX5_find 3 (some .int) 2 := ⟨(aj_i6 96 rfl rfl), (aj_i1 4 rfl rfl), by decide +kernel⟩
set_option maxRecDepth 100000 in
theorem cv_X5_find : aj_cv yX5_find := ⟨(aj_i6 94 rfl rfl), (aj_i6 95 rfl rfl)⟩
set_option maxRecDepth 100000 in
theorem ml_RX5_175 : Cond.methodLink RX5 175 yX5_found ∈ aj_TB := (aj_i6 97 rfl rfl)
set_option maxRecDepth 100000 in
theorem cd_X5_at : aj_cd yX5_at cX5_at 4 (some .int) 2 := ⟨(aj_i6 111 rfl rfl), (aj_i1 4 rfl rfl), by decide +kernel⟩
set_option maxRecDepth 100000 in
theorem cv_X5_at : aj_cv yX5_at := ⟨(aj_i6 110 rfl rfl), (aj_in 41 (by decide +kernel) rfl)⟩
set_option maxRecDepth 100000 in
theorem cd_X5_addPlace : aj_cd yX5_addPlace cX5_addPlace 3 (some .int) 2 := ⟨(aj_i6 104 rfl rfl), (aj_i1 4 rfl rfl), by decide +kernel⟩
set_option maxRecDepth 100000 in
theorem cv_X5_addPlace : aj_cv yX5_addPlace := ⟨(aj_i6 102 rfl rfl), (aj_i6 103 rfl rfl)⟩
set_option maxRecDepth 100000 in
theorem ml_RX5_179 : Cond.methodLink RX5 179 yX5_isNoAt ∈ aj_TB := (aj_i6 105 rfl rfl)
set_option maxRecDepth 100000 in
theorem ml_RX5_182 : Cond.methodLink RX5 182 yX5_at ∈ aj_TB := (aj_i6 108 rfl rfl)
set_option maxRecDepth 100000 in
theorem cd_X5_removePlace : aj_cd yX5_removePlace cX5_removePlace 3 (some .int) 1 := ⟨(aj_i6 115 rfl rfl), (aj_i1 4 rfl rfl), by decide +kernel⟩
set_option maxRecDepth 100000 in
theorem cv_X5_removePlace : aj_cv yX5_removePlace := ⟨(aj_i6 113 rfl rfl), (aj_i6 114 rfl rfl)⟩
set_option maxRecDepth 100000 in
theorem cd_X5_movePlace : aj_cd yX5_movePlace cX5_movePlace 5 (some .int) 3 := ⟨(aj_i6 119 rfl rfl), (aj_i1 4 rfl rfl), by decide +kernel⟩
set_option maxRecDepth 100000 in
theorem cv_X5_movePlace : aj_cv yX5_movePlace := ⟨(aj_i6 117 rfl rfl), (aj_i6 118 rfl rfl)⟩
set_option maxRecDepth 100000 in
theorem cd_X5_centre : aj_cd yX5_centre cX5_centre 4 (some .int) 2 := ⟨(aj_i6 123 rfl rfl), (aj_i1 4 rfl rfl), by decide +kernel⟩
set_option maxRecDepth 100000 in
theorem cv_X5_centre : aj_cv yX5_centre := ⟨(aj_i6 121 rfl rfl), (aj_i6 122 rfl rfl)⟩
set_option maxRecDepth 100000 in
theorem fl_RX5_185 : aj_FL RX5 185 6 8 := ⟨by decide, by decide, (aj_i5 105 rfl rfl)⟩
set_option maxRecDepth 100000 in
theorem fl_RX5_188 : aj_FL RX5 188 6 9 := ⟨by decide, by decide, (aj_i5 106 rfl rfl)⟩
set_option maxRecDepth 100000 in
theorem cd_X5_turnPlaces : aj_cd yX5_turnPlaces cX5_turnPlaces 3 (some .int) 0 := ⟨(aj_i6 127 rfl rfl), (aj_i1 4 rfl rfl), by decide +kernel⟩
set_option maxRecDepth 100000 in
theorem cv_X5_turnPlaces : aj_cv yX5_turnPlaces := ⟨(aj_i6 125 rfl rfl), (aj_i6 126 rfl rfl)⟩
set_option maxRecDepth 100000 in
theorem ml_RX5_191 : Cond.methodLink RX5 191 yX5_corners ∈ aj_TB := (aj_i6 128 rfl rfl)
set_option maxRecDepth 100000 in
theorem ml_RX5_195 : Cond.methodLink RX5 195 yX5_area ∈ aj_TB := (aj_i6 150 rfl rfl)
set_option maxRecDepth 100000 in
theorem cd_X5_mirrorPlaces : aj_cd yX5_mirrorPlaces cX5_mirrorPlaces 2 (some .int) 0 := ⟨(aj_i6 157 rfl rfl), (aj_i1 4 rfl rfl), by decide +kernel⟩
set_option maxRecDepth 100000 in
theorem cv_X5_mirrorPlaces : aj_cv yX5_mirrorPlaces := ⟨(aj_i6 155 rfl rfl), (aj_i6 156 rfl rfl)⟩
set_option maxRecDepth 100000 in
theorem cd_X5_places : aj_cd yX5_places cX5_places 1 (some .int) 0 := ⟨(aj_i6 161 rfl rfl), (aj_i1 4 rfl rfl), by decide +kernel⟩
set_option maxRecDepth 100000 in
theorem cv_X5_places : aj_cv yX5_places := ⟨(aj_i6 159 rfl rfl), (aj_i6 160 rfl rfl)⟩
set_option maxRecDepth 100000 in
theorem cd_X5_place : aj_cd yX5_place cX5_place 3 (some .int) 2 := ⟨(aj_i6 165 rfl rfl), (aj_i1 4 rfl rfl), by decide +kernel⟩
set_option maxRecDepth 100000 in
theorem cv_X5_place : aj_cv yX5_place := ⟨(aj_i6 163 rfl rfl), (aj_i6 164 rfl rfl)⟩
set_option maxRecDepth 100000 in
theorem cd_X5_centreAt : aj_cd yX5_centreAt cX5_centreAt 2 (some .int) 1 := ⟨(aj_i6 169 rfl rfl), (aj_i1 4 rfl rfl), by decide +kernel⟩
set_option maxRecDepth 100000 in
theorem cv_X5_centreAt : aj_cv yX5_centreAt := ⟨(aj_i6 167 rfl rfl), (aj_i6 168 rfl rfl)⟩
set_option maxRecDepth 100000 in
theorem cd_X5_bearing : aj_cd yX5_bearing cX5_bearing 5 (some .int) 3 := ⟨(aj_i6 173 rfl rfl), (aj_i1 4 rfl rfl), by decide +kernel⟩
set_option maxRecDepth 100000 in
theorem cv_X5_bearing : aj_cv yX5_bearing := ⟨(aj_i6 171 rfl rfl), (aj_i6 172 rfl rfl)⟩
set_option maxRecDepth 100000 in
theorem cd_X5_bearingOrder : aj_cd yX5_bearingOrder cX5_bearingOrder 4 (some .int) 3 := ⟨(aj_i6 177 rfl rfl), (aj_i1 4 rfl rfl), by decide +kernel⟩
set_option maxRecDepth 100000 in
theorem cv_X5_bearingOrder : aj_cv yX5_bearingOrder := ⟨(aj_i6 175 rfl rfl), (aj_i6 176 rfl rfl)⟩
set_option maxRecDepth 100000 in
theorem ml_RX5_199 : Cond.methodLink RX5 199 yX5_wayOrder ∈ aj_TB := (aj_i6 178 rfl rfl)
set_option maxRecDepth 100000 in
theorem cd_X5_left : aj_cd yX5_left cX5_left 4 (some .int) 3 := ⟨(aj_i6 184 rfl rfl), (aj_i1 4 rfl rfl), by decide +kernel⟩
set_option maxRecDepth 100000 in
theorem cv_X5_left : aj_cv yX5_left := ⟨(aj_i6 182 rfl rfl), (aj_i6 183 rfl rfl)⟩
set_option maxRecDepth 100000 in
theorem ml_RX5_202 : Cond.methodLink RX5 202 yX5_turn ∈ aj_TB := (aj_i6 140 rfl rfl)
set_option maxRecDepth 100000 in
theorem cd_X5_isOut : aj_cd yX5_isOut cX5_isOut 2 (some .boolean) 1 := ⟨(aj_i6 196 rfl rfl), (aj_i1 4 rfl rfl), by decide +kernel⟩
set_option maxRecDepth 100000 in
theorem cv_X5_isOut : aj_cv yX5_isOut := ⟨(aj_i6 195 rfl rfl), (aj_in 48 (by decide +kernel) rfl)⟩
set_option maxRecDepth 100000 in
theorem cd_X5_outs : aj_cd yX5_outs cX5_outs 3 (some .int) 0 := ⟨(aj_i6 192 rfl rfl), (aj_i1 4 rfl rfl), by decide +kernel⟩
set_option maxRecDepth 100000 in
theorem cv_X5_outs : aj_cv yX5_outs := ⟨(aj_i6 191 rfl rfl), (aj_in 47 (by decide +kernel) rfl)⟩
set_option maxRecDepth 100000 in
theorem ml_RX5_205 : Cond.methodLink RX5 205 yX5_isOut ∈ aj_TB := (aj_i6 193 rfl rfl)
set_option maxRecDepth 100000 in
theorem cd_X5_outOrder : aj_cd yX5_outOrder cX5_outOrder 3 (some .int) 2 := ⟨(aj_i6 208 rfl rfl), (aj_i1 4 rfl rfl), by decide +kernel⟩
set_option maxRecDepth 100000 in
theorem cv_X5_outOrder : aj_cv yX5_outOrder := ⟨(aj_i6 207 rfl rfl), (aj_in 50 (by decide +kernel) rfl)⟩
set_option maxRecDepth 100000 in
theorem cd_X5_outCross : aj_cd yX5_outCross cX5_outCross 3 (some .int) 2 := ⟨(aj_i6 234 rfl rfl), (aj_i1 4 rfl rfl), by decide +kernel⟩
set_option maxRecDepth 100000 in
theorem cv_X5_outCross : aj_cv yX5_outCross := ⟨(aj_i6 233 rfl rfl), (aj_in 53 (by decide +kernel) rfl)⟩
set_option maxRecDepth 100000 in
theorem cd_X5_far : aj_cd yX5_far cX5_far 2 (some .int) 1 := ⟨(aj_i6 212 rfl rfl), (aj_i1 4 rfl rfl), by decide +kernel⟩
set_option maxRecDepth 100000 in
theorem cv_X5_far : aj_cv yX5_far := ⟨(aj_i6 211 rfl rfl), (aj_in 51 (by decide +kernel) rfl)⟩
set_option maxRecDepth 100000 in
theorem cd_X5_round : aj_cd yX5_round cX5_round 6 (some (.array .int)) 0 := ⟨(aj_i6 204 rfl rfl), (aj_i1 4 rfl rfl), by decide +kernel⟩
set_option maxRecDepth 100000 in
theorem cv_X5_round : aj_cv yX5_round := ⟨(aj_i6 203 rfl rfl), (aj_in 49 (by decide +kernel) rfl)⟩
set_option maxRecDepth 100000 in
theorem ml_RX5_208 : Cond.methodLink RX5 208 yX5_outs ∈ aj_TB := (aj_i6 189 rfl rfl)
set_option maxRecDepth 100000 in
theorem ml_RX5_211 : Cond.methodLink RX5 211 yX5_outOrder ∈ aj_TB := (aj_i6 205 rfl rfl)
set_option maxRecDepth 100000 in
theorem ml_RX5_214 : Cond.methodLink RX5 214 yX5_far ∈ aj_TB := (aj_i6 209 rfl rfl)
set_option maxRecDepth 100000 in
theorem cd_X5_text : aj_cd yX5_text cX5_text 3 (some (.object "java/lang/String")) 1 := ⟨(aj_i6 215 rfl rfl), (aj_i1 4 rfl rfl), by decide +kernel⟩
set_option maxRecDepth 100000 in
theorem sv_X5_text : Cond.static yX5_text ∈ aj_TB := (aj_i6 214 rfl rfl)
set_option maxRecDepth 100000 in
theorem nw_RX5_217 : aj_NW RX5 217 1 := ⟨by decide, (aj_i6 216 rfl rfl), (aj_i1 238 rfl rfl), (aj_i1 15 rfl rfl)⟩
set_option maxRecDepth 100000 in
theorem ml_RX5_219 : Cond.methodLink RX5 219 yJ4_init_da8c8 ∈ aj_TB := (aj_i6 217 rfl rfl)
set_option maxRecDepth 100000 in
theorem ml_RX5_224 : Cond.methodLink RX5 224 yJ4_append_15ec4 ∈ aj_TB := (aj_i6 220 rfl rfl)
set_option maxRecDepth 100000 in
theorem ml_RX5_228 : Cond.methodLink RX5 228 yJ4_append_bf812 ∈ aj_TB := (aj_i6 221 rfl rfl)
set_option maxRecDepth 100000 in
theorem ml_RX5_231 : Cond.methodLink RX5 231 yJ4_toString_0e30d ∈ aj_TB := (aj_i6 222 rfl rfl)
set_option maxRecDepth 100000 in
theorem cd_X5_roundCount : aj_cd yX5_roundCount cX5_roundCount 1 (some .int) 0 := ⟨(aj_i6 188 rfl rfl), (aj_i1 4 rfl rfl), by decide +kernel⟩
set_option maxRecDepth 100000 in
theorem cv_X5_roundCount : aj_cv yX5_roundCount := ⟨(aj_i6 186 rfl rfl), (aj_i6 187 rfl rfl)⟩
set_option maxRecDepth 100000 in
theorem cd_X5_roundText : aj_cd yX5_roundText cX5_roundText 1 (some (.object "java/lang/String")) 0 := ⟨(aj_i6 200 rfl rfl), (aj_i1 4 rfl rfl), by decide +kernel⟩
set_option maxRecDepth 100000 in
theorem cv_X5_roundText : aj_cv yX5_roundText := ⟨(aj_i6 198 rfl rfl), (aj_i6 199 rfl rfl)⟩
set_option maxRecDepth 100000 in
theorem ml_RX5_235 : Cond.methodLink RX5 235 yX5_round ∈ aj_TB := (aj_i6 201 rfl rfl)
set_option maxRecDepth 100000 in
theorem ml_RX5_238 : Cond.methodLink RX5 238 yX5_text ∈ aj_TB := (aj_i6 213 rfl rfl)
set_option maxRecDepth 100000 in
theorem cd_X5_isStarred : aj_cd yX5_isStarred cX5_isStarred 5 (some .boolean) 1 := ⟨(aj_i6 230 rfl rfl), (aj_i1 4 rfl rfl), by decide +kernel⟩
set_option maxRecDepth 100000 in
theorem cv_X5_isStarred : aj_cv yX5_isStarred := ⟨(aj_i6 229 rfl rfl), (aj_in 52 (by decide +kernel) rfl)⟩
set_option maxRecDepth 100000 in
theorem ml_RX5_242 : Cond.methodLink RX5 242 yX5_outCross ∈ aj_TB := (aj_i6 231 rfl rfl)
set_option maxRecDepth 100000 in
theorem cd_X5_isStar : aj_cd yX5_isStar cX5_isStar 1 (some .boolean) 0 := ⟨(aj_i6 226 rfl rfl), (aj_i1 4 rfl rfl), by decide +kernel⟩
set_option maxRecDepth 100000 in
theorem cv_X5_isStar : aj_cv yX5_isStar := ⟨(aj_i6 224 rfl rfl), (aj_i6 225 rfl rfl)⟩
set_option maxRecDepth 100000 in
theorem ml_RX5_245 : Cond.methodLink RX5 245 yX5_isStarred ∈ aj_TB := (aj_i6 227 rfl rfl)
set_option maxRecDepth 100000 in
theorem cd_X5_swept : aj_cd yX5_swept cX5_swept 4 (some .int) 1 := ⟨(aj_i7 2 rfl rfl), (aj_i1 4 rfl rfl), by decide +kernel⟩
set_option maxRecDepth 100000 in
theorem cv_X5_swept : aj_cv yX5_swept := ⟨(aj_i7 1 rfl rfl), (aj_in 54 (by decide +kernel) rfl)⟩
set_option maxRecDepth 100000 in
theorem cd_X5_starArea : aj_cd yX5_starArea cX5_starArea 1 (some .int) 0 := ⟨(aj_i6 238 rfl rfl), (aj_i1 4 rfl rfl), by decide +kernel⟩
set_option maxRecDepth 100000 in
theorem cv_X5_starArea : aj_cv yX5_starArea := ⟨(aj_i6 236 rfl rfl), (aj_i6 237 rfl rfl)⟩
set_option maxRecDepth 100000 in
theorem ml_RX5_249 : Cond.methodLink RX5 249 yX5_swept ∈ aj_TB := (aj_i6 239 rfl rfl)
set_option maxRecDepth 100000 in
theorem cd_X5_turn : aj_cd yX5_turn cX5_turn 4 (some .int) 3 := ⟨(aj_i6 143 rfl rfl), (aj_i1 4 rfl rfl), by decide +kernel⟩
set_option maxRecDepth 100000 in
theorem cv_X5_turn : aj_cv yX5_turn := ⟨(aj_i6 142 rfl rfl), (aj_in 45 (by decide +kernel) rfl)⟩
set_option maxRecDepth 100000 in
theorem cd_X5_isRim : aj_cd yX5_isRim cX5_isRim 5 (some .boolean) 2 := ⟨(aj_i6 139 rfl rfl), (aj_i1 4 rfl rfl), by decide +kernel⟩
set_option maxRecDepth 100000 in
theorem cv_X5_isRim : aj_cv yX5_isRim := ⟨(aj_i6 138 rfl rfl), (aj_in 44 (by decide +kernel) rfl)⟩
set_option maxRecDepth 100000 in
theorem cd_X5_isCorner : aj_cd yX5_isCorner cX5_isCorner 3 (some .boolean) 1 := ⟨(aj_i6 135 rfl rfl), (aj_i1 4 rfl rfl), by decide +kernel⟩
set_option maxRecDepth 100000 in
theorem cv_X5_isCorner : aj_cv yX5_isCorner := ⟨(aj_i6 134 rfl rfl), (aj_in 43 (by decide +kernel) rfl)⟩
set_option maxRecDepth 100000 in
theorem ml_RX5_252 : Cond.methodLink RX5 252 yX5_isRim ∈ aj_TB := (aj_i6 136 rfl rfl)
set_option maxRecDepth 100000 in
theorem cd_X5_corners : aj_cd yX5_corners cX5_corners 7 (some (.array .int)) 0 := ⟨(aj_i6 131 rfl rfl), (aj_i1 4 rfl rfl), by decide +kernel⟩
set_option maxRecDepth 100000 in
theorem cv_X5_corners : aj_cv yX5_corners := ⟨(aj_i6 130 rfl rfl), (aj_in 42 (by decide +kernel) rfl)⟩
set_option maxRecDepth 100000 in
theorem ml_RX5_255 : Cond.methodLink RX5 255 yX5_isCorner ∈ aj_TB := (aj_i6 132 rfl rfl)
set_option maxRecDepth 100000 in
theorem ml_RX5_258 : Cond.methodLink RX5 258 yJ6_bitCount_0f7a4 ∈ aj_TB := (aj_i6 144 rfl rfl)
set_option maxRecDepth 100000 in
theorem cd_X5_hullCount : aj_cd yX5_hullCount cX5_hullCount 1 (some .int) 0 := ⟨(aj_i7 6 rfl rfl), (aj_i1 4 rfl rfl), by decide +kernel⟩
set_option maxRecDepth 100000 in
theorem cv_X5_hullCount : aj_cv yX5_hullCount := ⟨(aj_i7 4 rfl rfl), (aj_i7 5 rfl rfl)⟩
set_option maxRecDepth 100000 in
theorem cd_X5_hullText : aj_cd yX5_hullText cX5_hullText 1 (some (.object "java/lang/String")) 0 := ⟨(aj_i7 10 rfl rfl), (aj_i1 4 rfl rfl), by decide +kernel⟩
set_option maxRecDepth 100000 in
theorem cv_X5_hullText : aj_cv yX5_hullText := ⟨(aj_i7 8 rfl rfl), (aj_i7 9 rfl rfl)⟩
set_option maxRecDepth 100000 in
theorem cd_X5_area : aj_cd yX5_area cX5_area 5 (some .int) 1 := ⟨(aj_i6 153 rfl rfl), (aj_i1 4 rfl rfl), by decide +kernel⟩
set_option maxRecDepth 100000 in
theorem cv_X5_area : aj_cv yX5_area := ⟨(aj_i6 152 rfl rfl), (aj_in 46 (by decide +kernel) rfl)⟩
set_option maxRecDepth 100000 in
theorem cd_X5_hullArea : aj_cd yX5_hullArea cX5_hullArea 1 (some .int) 0 := ⟨(aj_i7 14 rfl rfl), (aj_i1 4 rfl rfl), by decide +kernel⟩
set_option maxRecDepth 100000 in
theorem cv_X5_hullArea : aj_cv yX5_hullArea := ⟨(aj_i7 12 rfl rfl), (aj_i7 13 rfl rfl)⟩
set_option maxRecDepth 100000 in
theorem cd_X5_roundsTold : aj_cd yX5_roundsTold cX5_roundsTold 5 (some .int) 0 := ⟨(aj_i7 22 rfl rfl), (aj_i1 4 rfl rfl), by decide +kernel⟩
set_option maxRecDepth 100000 in
theorem cv_X5_roundsTold : aj_cv yX5_roundsTold := ⟨(aj_i7 21 rfl rfl), (aj_in 55 (by decide +kernel) rfl)⟩
set_option maxRecDepth 100000 in
theorem cd_X5_rounds : aj_cd yX5_rounds cX5_rounds 1 (some .int) 0 := ⟨(aj_i7 18 rfl rfl), (aj_i1 4 rfl rfl), by decide +kernel⟩
set_option maxRecDepth 100000 in
theorem cv_X5_rounds : aj_cv yX5_rounds := ⟨(aj_i7 16 rfl rfl), (aj_i7 17 rfl rfl)⟩
set_option maxRecDepth 100000 in
theorem ml_RX5_261 : Cond.methodLink RX5 261 yX5_roundsTold ∈ aj_TB := (aj_i7 19 rfl rfl)
set_option maxRecDepth 100000 in
theorem cd_X5_house : aj_cd yX5_house cX5_house 2 (some .int) 1 := ⟨(aj_i7 26 rfl rfl), (aj_i1 4 rfl rfl), by decide +kernel⟩
set_option maxRecDepth 100000 in
theorem cv_X5_house : aj_cv yX5_house := ⟨(aj_i7 24 rfl rfl), (aj_i7 25 rfl rfl)⟩
set_option maxRecDepth 100000 in
theorem cd_X5_knock : aj_cd yX5_knock cX5_knock 1 (some .int) 0 := ⟨(aj_i7 30 rfl rfl), (aj_i1 4 rfl rfl), by decide +kernel⟩
set_option maxRecDepth 100000 in
theorem cv_X5_knock : aj_cv yX5_knock := ⟨(aj_i7 28 rfl rfl), (aj_i7 29 rfl rfl)⟩
set_option maxRecDepth 100000 in
theorem cd_X5_isSound : aj_cd yX5_isSound cX5_isSound 1 (some .boolean) 0 := ⟨(aj_i7 34 rfl rfl), (aj_i1 4 rfl rfl), by decide +kernel⟩
set_option maxRecDepth 100000 in
theorem cv_X5_isSound : aj_cv yX5_isSound := ⟨(aj_i7 32 rfl rfl), (aj_i7 33 rfl rfl)⟩
set_option maxRecDepth 100000 in
theorem cd_X5_add : aj_cd yX5_add cX5_add 4 (some .long) 2 := ⟨(aj_i7 46 rfl rfl), (aj_i1 4 rfl rfl), by decide +kernel⟩
set_option maxRecDepth 100000 in
theorem sv_X5_add : Cond.static yX5_add ∈ aj_TB := (aj_i7 45 rfl rfl)
set_option maxRecDepth 100000 in
theorem kc_RX5_264 : Cond.constantLong RX5 264 (31) ∈ aj_TB := (aj_i7 47 rfl rfl)
set_option maxRecDepth 100000 in
theorem cd_X5_addCells : aj_cd yX5_addCells cX5_addCells 7 (some .long) 1 := ⟨(aj_i7 43 rfl rfl), (aj_i1 4 rfl rfl), by decide +kernel⟩
set_option maxRecDepth 100000 in
theorem cv_X5_addCells : aj_cv yX5_addCells := ⟨(aj_i7 42 rfl rfl), (aj_in 56 (by decide +kernel) rfl)⟩
set_option maxRecDepth 100000 in
theorem ml_RX5_266 : Cond.methodLink RX5 266 yX5_add ∈ aj_TB := (aj_i7 44 rfl rfl)
set_option maxRecDepth 100000 in
theorem cd_X5_digest : aj_cd yX5_digest cX5_digest 9 (some .long) 0 := ⟨(aj_i7 38 rfl rfl), (aj_i1 4 rfl rfl), by decide +kernel⟩
set_option maxRecDepth 100000 in
theorem cv_X5_digest : aj_cv yX5_digest := ⟨(aj_i7 36 rfl rfl), (aj_i7 37 rfl rfl)⟩
set_option maxRecDepth 100000 in
theorem kc_RX5_269 : Cond.constantLong RX5 269 (7682) ∈ aj_TB := (aj_i7 39 rfl rfl)
set_option maxRecDepth 100000 in
theorem ml_RX5_271 : Cond.methodLink RX5 271 yX5_addCells ∈ aj_TB := (aj_i7 40 rfl rfl)
set_option maxRecDepth 100000 in
theorem cd_X0_between : aj_cd yX0_between cX0_between 8 (some .long) 2 := ⟨(aj_i3 174 rfl rfl), (aj_i1 12 rfl rfl), by decide +kernel⟩
set_option maxRecDepth 100000 in
theorem sv_X0_between : Cond.static yX0_between ∈ aj_TB := (aj_i3 173 rfl rfl)
set_option maxRecDepth 100000 in
theorem ml_RX0_9 : Cond.methodLink RX0 9 yX0_arc ∈ aj_TB := (aj_i3 175 rfl rfl)
set_option maxRecDepth 100000 in
theorem kc_RX0_13 : Cond.constantLong RX0 13 (1811004864519280711) ∈ aj_TB := (aj_i3 182 rfl rfl)
set_option maxRecDepth 100000 in
theorem kc_RX0_15 : Cond.constantLong RX0 15 (3622009729038561421) ∈ aj_TB := (aj_i3 183 rfl rfl)
set_option maxRecDepth 100000 in
theorem cd_X0_arc : aj_cd yX0_arc cX0_arc 11 (some .long) 2 := ⟨(aj_i3 177 rfl rfl), (aj_i1 12 rfl rfl), by decide +kernel⟩
set_option maxRecDepth 100000 in
theorem sv_X0_arc : Cond.static yX0_arc ∈ aj_TB := (aj_i3 176 rfl rfl)
set_option maxRecDepth 100000 in
theorem kc_RX0_17 : Cond.constantLong RX0 17 (1152921504606846976) ∈ aj_TB := (aj_i3 178 rfl rfl)
set_option maxRecDepth 100000 in
theorem ml_RX0_19 : Cond.methodLink RX0 19 yX0_timesQuotient ∈ aj_TB := (aj_i3 179 rfl rfl)
set_option maxRecDepth 100000 in
theorem cd_X0_timesQuotient : aj_cd yX0_timesQuotient cX0_timesQuotient 6 (some .long) 3 := ⟨(aj_i3 181 rfl rfl), (aj_i1 12 rfl rfl), by decide +kernel⟩
set_option maxRecDepth 100000 in
theorem sv_X0_timesQuotient : Cond.static yX0_timesQuotient ∈ aj_TB := (aj_i3 180 rfl rfl)
set_option maxRecDepth 100000 in
theorem cd_X0_roundDown : aj_cd yX0_roundDown cX0_roundDown 3 (some .int) 2 := ⟨(aj_i4 70 rfl rfl), (aj_i1 12 rfl rfl), by decide +kernel⟩
set_option maxRecDepth 100000 in
theorem sv_X0_roundDown : Cond.static yX0_roundDown ∈ aj_TB := (aj_i4 69 rfl rfl)
set_option maxRecDepth 100000 in
theorem cd_X0_exponentAndHead : aj_cd yX0_exponentAndHead cX0_exponentAndHead 4 (some .int) 1 := ⟨(aj_i3 194 rfl rfl), (aj_i1 12 rfl rfl), by decide +kernel⟩
set_option maxRecDepth 100000 in
theorem sv_X0_exponentAndHead : Cond.static yX0_exponentAndHead ∈ aj_TB := (aj_i3 193 rfl rfl)
set_option maxRecDepth 100000 in
theorem kc_RX0_23 : Cond.constant RX0 23 (1048576) ∈ aj_TB := (aj_i3 195 rfl rfl)
set_option maxRecDepth 100000 in
theorem cd_X0_compareDigits : aj_cd yX0_compareDigits cX0_compareDigits 2 (some .int) 2 := ⟨(aj_i3 199 rfl rfl), (aj_i1 12 rfl rfl), by decide +kernel⟩
set_option maxRecDepth 100000 in
theorem sv_X0_compareDigits : Cond.static yX0_compareDigits ∈ aj_TB := (aj_i3 198 rfl rfl)
set_option maxRecDepth 100000 in
theorem ml_RX0_24 : Cond.methodLink RX0 24 yX0_rankOf ∈ aj_TB := (aj_i3 200 rfl rfl)
set_option maxRecDepth 100000 in
theorem ml_RX0_28 : (RX0, 28, yX3_signOf, RX3) ∈ aj_NM := by decide +kernel
set_option maxRecDepth 100000 in
theorem cd_X0_rankOf : aj_cd yX0_rankOf cX0_rankOf 1 (some .int) 1 := ⟨(aj_i3 202 rfl rfl), (aj_i1 12 rfl rfl), by decide +kernel⟩
set_option maxRecDepth 100000 in
theorem sv_X0_rankOf : Cond.static yX0_rankOf ∈ aj_TB := (aj_i3 201 rfl rfl)
set_option maxRecDepth 100000 in
theorem kc_RX0_34 : Cond.constant RX0 34 (2147483647) ∈ aj_TB := (aj_i3 203 rfl rfl)
set_option maxRecDepth 100000 in
theorem cd_X0_sideBetween : aj_cd yX0_sideBetween cX0_sideBetween 8 (some .int) 2 := ⟨(aj_i3 211 rfl rfl), (aj_i1 12 rfl rfl), by decide +kernel⟩
set_option maxRecDepth 100000 in
theorem sv_X0_sideBetween : Cond.static yX0_sideBetween ∈ aj_TB := (aj_i3 210 rfl rfl)
set_option maxRecDepth 100000 in
theorem kc_RX0_35 : Cond.constantLong RX0 35 (3622009729038561280) ∈ aj_TB := (aj_i3 212 rfl rfl)
set_option maxRecDepth 100000 in
theorem kc_RX0_37 : Cond.constantLong RX0 37 (7244019458077122560) ∈ aj_TB := (aj_i3 213 rfl rfl)
set_option maxRecDepth 100000 in
theorem kc_RX0_39 : Cond.constantLong RX0 39 (-3622009729038561280) ∈ aj_TB := (aj_i3 214 rfl rfl)
set_option maxRecDepth 100000 in
theorem kc_RX0_41 : Cond.constantLong RX0 41 (1099511627776) ∈ aj_TB := (aj_i3 215 rfl rfl)
set_option maxRecDepth 100000 in
theorem cd_X1_init : aj_cd yX1_init cX1_init 1 none 0 := ⟨(aj_i1 59 rfl rfl), (aj_i1 3 rfl rfl), by decide +kernel⟩
set_option maxRecDepth 100000 in
theorem iv_X1_init : Cond.instanceMethod yX1_init ∈ aj_TB := (aj_i1 58 rfl rfl)
set_option maxRecDepth 100000 in
theorem ml_RX1_3 : Cond.methodLink RX1 3 Lib.objectInit ∈ aj_TB := (aj_i1 60 rfl rfl)
set_option maxRecDepth 100000 in
theorem fl_RX1_9 : aj_FL RX1 9 2 0 := ⟨by decide, by decide, (aj_i1 63 rfl rfl)⟩
set_option maxRecDepth 100000 in
theorem fl_RX1_13 : aj_FL RX1 13 2 1 := ⟨by decide, by decide, (aj_i1 65 rfl rfl)⟩
set_option maxRecDepth 100000 in
theorem fl_RX1_16 : aj_FL RX1 16 2 3 := ⟨by decide, by decide, (aj_i1 69 rfl rfl)⟩
set_option maxRecDepth 100000 in
theorem fl_RX1_19 : aj_FL RX1 19 2 5 := ⟨by decide, by decide, (aj_i1 73 rfl rfl)⟩
set_option maxRecDepth 100000 in
theorem nw_RX1_22 : aj_NW RX1 22 3 := ⟨by decide, (aj_i1 61 rfl rfl), (aj_i1 33 rfl rfl), (aj_i1 2 rfl rfl)⟩
set_option maxRecDepth 100000 in
theorem ml_RX1_24 : (RX1, 24, yX2_init, RX3) ∈ aj_NM := by decide +kernel
set_option maxRecDepth 100000 in
theorem fl_RX1_25 : aj_FL RX1 25 2 7 := ⟨by decide, by decide, (aj_i1 77 rfl rfl)⟩
set_option maxRecDepth 100000 in
theorem fl_RX1_29 : aj_FL RX1 29 2 8 := ⟨by decide, by decide, (aj_i1 78 rfl rfl)⟩
set_option maxRecDepth 100000 in
theorem cd_X1_numberAt : aj_cd yX1_numberAt cX1_numberAt 4 (some .int) 2 := ⟨(aj_i5 19 rfl rfl), (aj_i1 3 rfl rfl), by decide +kernel⟩
set_option maxRecDepth 100000 in
theorem cv_X1_numberAt : aj_cv yX1_numberAt := ⟨(aj_i5 17 rfl rfl), (aj_i5 18 rfl rfl)⟩
set_option maxRecDepth 100000 in
theorem fl_RX1_32 : aj_FL RX1 32 2 2 := ⟨by decide, by decide, (aj_i1 67 rfl rfl)⟩
set_option maxRecDepth 100000 in
theorem cd_X1_add : aj_cd yX1_add cX1_add 4 (some .int) 2 := ⟨(aj_i5 23 rfl rfl), (aj_i1 3 rfl rfl), by decide +kernel⟩
set_option maxRecDepth 100000 in
theorem cv_X1_add : aj_cv yX1_add := ⟨(aj_i5 21 rfl rfl), (aj_i5 22 rfl rfl)⟩
set_option maxRecDepth 100000 in
theorem ml_RX1_36 : Cond.methodLink RX1 36 yX1_lay ∈ aj_TB := (aj_i1 158 rfl rfl)
set_option maxRecDepth 100000 in
theorem cd_X1_drop : aj_cd yX1_drop cX1_drop 3 none 1 := ⟨(aj_i5 34 rfl rfl), (aj_i1 3 rfl rfl), by decide +kernel⟩
set_option maxRecDepth 100000 in
theorem cv_X1_drop : aj_cv yX1_drop := ⟨(aj_i5 32 rfl rfl), (aj_i5 33 rfl rfl)⟩
set_option maxRecDepth 100000 in
theorem cd_X1_moveTo : aj_cd yX1_moveTo cX1_moveTo 4 (some .boolean) 3 := ⟨(aj_i5 45 rfl rfl), (aj_i1 3 rfl rfl), by decide +kernel⟩
set_option maxRecDepth 100000 in
theorem cv_X1_moveTo : aj_cv yX1_moveTo := ⟨(aj_i5 43 rfl rfl), (aj_i5 44 rfl rfl)⟩
set_option maxRecDepth 100000 in
theorem cd_X1_turnAll : aj_cd yX1_turnAll cX1_turnAll 3 none 0 := ⟨(aj_i1 157 rfl rfl), (aj_i1 3 rfl rfl), by decide +kernel⟩
set_option maxRecDepth 100000 in
theorem cv_X1_turnAll : aj_cv yX1_turnAll := ⟨(aj_i1 155 rfl rfl), (aj_i1 156 rfl rfl)⟩
set_option maxRecDepth 100000 in
theorem cd_X1_mirrorAll : aj_cd yX1_mirrorAll cX1_mirrorAll 2 none 0 := ⟨(aj_i1 217 rfl rfl), (aj_i1 3 rfl rfl), by decide +kernel⟩
set_option maxRecDepth 100000 in
theorem cv_X1_mirrorAll : aj_cv yX1_mirrorAll := ⟨(aj_i1 215 rfl rfl), (aj_i1 216 rfl rfl)⟩
set_option maxRecDepth 100000 in
theorem cd_X1_stepBetween : aj_cd yX1_stepBetween cX1_stepBetween 4 none 3 := ⟨(aj_i4 187 rfl rfl), (aj_i1 3 rfl rfl), by decide +kernel⟩
set_option maxRecDepth 100000 in
theorem cv_X1_stepBetween : aj_cv yX1_stepBetween := ⟨(aj_i4 185 rfl rfl), (aj_i4 186 rfl rfl)⟩
set_option maxRecDepth 100000 in
theorem ml_RX1_39 : Cond.methodLink RX1 39 yX2_become ∈ aj_TB := (aj_i1 178 rfl rfl)
set_option maxRecDepth 100000 in
theorem cd_X1_cross : aj_cd yX1_cross cX1_cross 4 (some .int) 3 := ⟨(aj_i1 202 rfl rfl), (aj_i1 3 rfl rfl), by decide +kernel⟩
set_option maxRecDepth 100000 in
theorem cv_X1_cross : aj_cv yX1_cross := ⟨(aj_i1 200 rfl rfl), (aj_i1 201 rfl rfl)⟩
set_option maxRecDepth 100000 in
theorem cd_X1_dot : aj_cd yX1_dot cX1_dot 4 (some .int) 3 := ⟨(aj_i3 141 rfl rfl), (aj_i1 3 rfl rfl), by decide +kernel⟩
set_option maxRecDepth 100000 in
theorem cv_X1_dot : aj_cv yX1_dot := ⟨(aj_i3 140 rfl rfl), (aj_in 12 (by decide +kernel) rfl)⟩
set_option maxRecDepth 100000 in
theorem cd_X1_distance : aj_cd yX1_distance cX1_distance 5 (some .int) 2 := ⟨(aj_i1 169 rfl rfl), (aj_i1 3 rfl rfl), by decide +kernel⟩
set_option maxRecDepth 100000 in
theorem cv_X1_distance : aj_cv yX1_distance := ⟨(aj_i1 168 rfl rfl), (aj_in 3 (by decide +kernel) rfl)⟩
set_option maxRecDepth 100000 in
theorem cd_X1_following : aj_cd yX1_following cX1_following 2 (some .int) 2 := ⟨(aj_i1 209 rfl rfl), (aj_i1 3 rfl rfl), by decide +kernel⟩
set_option maxRecDepth 100000 in
theorem sv_X1_following : Cond.static yX1_following ∈ aj_TB := (aj_i1 208 rfl rfl)
set_option maxRecDepth 100000 in
theorem cd_X1_lay : aj_cd yX1_lay cX1_lay 1 none 0 := ⟨(aj_i1 161 rfl rfl), (aj_i1 3 rfl rfl), by decide +kernel⟩
set_option maxRecDepth 100000 in
theorem cv_X1_lay : aj_cv yX1_lay := ⟨(aj_i1 160 rfl rfl), (aj_in 1 (by decide +kernel) rfl)⟩
set_option maxRecDepth 100000 in
theorem ml_RX1_43 : Cond.methodLink RX1 43 yX1_layRound ∈ aj_TB := (aj_i1 162 rfl rfl)
set_option maxRecDepth 100000 in
theorem ml_RX1_46 : Cond.methodLink RX1 46 yX1_layHull ∈ aj_TB := (aj_i1 183 rfl rfl)
set_option maxRecDepth 100000 in
theorem cd_X1_layRound : aj_cd yX1_layRound cX1_layRound 3 none 0 := ⟨(aj_i1 165 rfl rfl), (aj_i1 3 rfl rfl), by decide +kernel⟩
set_option maxRecDepth 100000 in
theorem cv_X1_layRound : aj_cv yX1_layRound := ⟨(aj_i1 164 rfl rfl), (aj_in 2 (by decide +kernel) rfl)⟩
set_option maxRecDepth 100000 in
theorem fl_RX1_49 : aj_FL RX1 49 2 4 := ⟨by decide, by decide, (aj_i1 71 rfl rfl)⟩
set_option maxRecDepth 100000 in
theorem ml_RX1_52 : Cond.methodLink RX1 52 yX1_distance ∈ aj_TB := (aj_i1 166 rfl rfl)
set_option maxRecDepth 100000 in
theorem ml_RX1_56 : Cond.methodLink RX1 56 yX1_comesBefore ∈ aj_TB := (aj_i1 170 rfl rfl)
set_option maxRecDepth 100000 in
theorem cd_X1_takeSteps : aj_cd yX1_takeSteps cX1_takeSteps 4 none 3 := ⟨(aj_i1 177 rfl rfl), (aj_i1 3 rfl rfl), by decide +kernel⟩
set_option maxRecDepth 100000 in
theorem cv_X1_takeSteps : aj_cv yX1_takeSteps := ⟨(aj_i1 176 rfl rfl), (aj_in 5 (by decide +kernel) rfl)⟩
set_option maxRecDepth 100000 in
theorem cd_X1_orderFrom : aj_cd yX1_orderFrom cX1_orderFrom 4 (some .int) 3 := ⟨(aj_i5 77 rfl rfl), (aj_i1 3 rfl rfl), by decide +kernel⟩
set_option maxRecDepth 100000 in
theorem cv_X1_orderFrom : aj_cv yX1_orderFrom := ⟨(aj_i5 75 rfl rfl), (aj_i5 76 rfl rfl)⟩
set_option maxRecDepth 100000 in
theorem ml_RX1_60 : Cond.methodLink RX1 60 yX1_takeSteps ∈ aj_TB := (aj_i1 174 rfl rfl)
set_option maxRecDepth 100000 in
theorem ml_RX1_63 : Cond.methodLink RX1 63 yX2_orderTo ∈ aj_TB := (aj_i1 182 rfl rfl)
set_option maxRecDepth 100000 in
theorem cd_X1_comesBefore : aj_cd yX1_comesBefore cX1_comesBefore 4 (some .boolean) 2 := ⟨(aj_i1 173 rfl rfl), (aj_i1 3 rfl rfl), by decide +kernel⟩
set_option maxRecDepth 100000 in
theorem cv_X1_comesBefore : aj_cv yX1_comesBefore := ⟨(aj_i1 172 rfl rfl), (aj_in 4 (by decide +kernel) rfl)⟩
set_option maxRecDepth 100000 in
theorem cd_X1_layHull : aj_cd yX1_layHull cX1_layHull 4 none 0 := ⟨(aj_i1 186 rfl rfl), (aj_i1 3 rfl rfl), by decide +kernel⟩
set_option maxRecDepth 100000 in
theorem cv_X1_layHull : aj_cv yX1_layHull := ⟨(aj_i1 185 rfl rfl), (aj_in 6 (by decide +kernel) rfl)⟩
set_option maxRecDepth 100000 in
theorem fl_RX1_67 : aj_FL RX1 67 2 6 := ⟨by decide, by decide, (aj_i1 75 rfl rfl)⟩
set_option maxRecDepth 100000 in
theorem ml_RX1_70 : Cond.methodLink RX1 70 yX1_lowest ∈ aj_TB := (aj_i1 187 rfl rfl)
set_option maxRecDepth 100000 in
theorem ml_RX1_74 : Cond.methodLink RX1 74 yX1_cornerAfter ∈ aj_TB := (aj_i1 191 rfl rfl)
set_option maxRecDepth 100000 in
theorem cd_X1_lowest : aj_cd yX1_lowest cX1_lowest 3 (some .int) 0 := ⟨(aj_i1 190 rfl rfl), (aj_i1 3 rfl rfl), by decide +kernel⟩
set_option maxRecDepth 100000 in
theorem cv_X1_lowest : aj_cv yX1_lowest := ⟨(aj_i1 189 rfl rfl), (aj_in 7 (by decide +kernel) rfl)⟩
set_option maxRecDepth 100000 in
theorem cd_X1_cornerAfter : aj_cd yX1_cornerAfter cX1_cornerAfter 4 (some .int) 1 := ⟨(aj_i1 194 rfl rfl), (aj_i1 3 rfl rfl), by decide +kernel⟩
set_option maxRecDepth 100000 in
theorem cv_X1_cornerAfter : aj_cv yX1_cornerAfter := ⟨(aj_i1 193 rfl rfl), (aj_in 8 (by decide +kernel) rfl)⟩
set_option maxRecDepth 100000 in
theorem ml_RX1_78 : Cond.methodLink RX1 78 yX1_isOutside ∈ aj_TB := (aj_i1 195 rfl rfl)
set_option maxRecDepth 100000 in
theorem cd_X1_isOutside : aj_cd yX1_isOutside cX1_isOutside 5 (some .boolean) 3 := ⟨(aj_i1 198 rfl rfl), (aj_i1 3 rfl rfl), by decide +kernel⟩
set_option maxRecDepth 100000 in
theorem cv_X1_isOutside : aj_cv yX1_isOutside := ⟨(aj_i1 197 rfl rfl), (aj_in 9 (by decide +kernel) rfl)⟩
set_option maxRecDepth 100000 in
theorem ml_RX1_82 : Cond.methodLink RX1 82 yX1_cross ∈ aj_TB := (aj_i1 199 rfl rfl)
set_option maxRecDepth 100000 in
theorem cd_X1_takeRoundSteps : aj_cd yX1_takeRoundSteps cX1_takeRoundSteps 2 none 1 := ⟨(aj_i3 97 rfl rfl), (aj_i1 3 rfl rfl), by decide +kernel⟩
set_option maxRecDepth 100000 in
theorem cv_X1_takeRoundSteps : aj_cv yX1_takeRoundSteps := ⟨(aj_i3 96 rfl rfl), (aj_in 11 (by decide +kernel) rfl)⟩
set_option maxRecDepth 100000 in
theorem ml_RX1_86 : Cond.methodLink RX1 86 yX1_following ∈ aj_TB := (aj_i1 207 rfl rfl)
set_option maxRecDepth 100000 in
theorem cd_X1_isRoundStar : aj_cd yX1_isRoundStar cX1_isRoundStar 3 (some .boolean) 0 := ⟨(aj_i3 93 rfl rfl), (aj_i1 3 rfl rfl), by decide +kernel⟩
set_option maxRecDepth 100000 in
theorem cv_X1_isRoundStar : aj_cv yX1_isRoundStar := ⟨(aj_i3 91 rfl rfl), (aj_i3 92 rfl rfl)⟩
set_option maxRecDepth 100000 in
theorem ml_RX1_89 : Cond.methodLink RX1 89 yX1_takeRoundSteps ∈ aj_TB := (aj_i3 94 rfl rfl)
set_option maxRecDepth 100000 in
theorem ml_RX1_93 : Cond.methodLink RX1 93 yX2_sideOf ∈ aj_TB := (aj_i3 98 rfl rfl)
set_option maxRecDepth 100000 in
theorem cd_X1_areaOfStar : aj_cd yX1_areaOfStar cX1_areaOfStar 3 (some .int) 0 := ⟨(aj_i3 116 rfl rfl), (aj_i1 3 rfl rfl), by decide +kernel⟩
set_option maxRecDepth 100000 in
theorem cv_X1_areaOfStar : aj_cv yX1_areaOfStar := ⟨(aj_i3 114 rfl rfl), (aj_i3 115 rfl rfl)⟩
set_option maxRecDepth 100000 in
theorem ml_RX1_96 : Cond.methodLink RX1 96 yX2_crossWith ∈ aj_TB := (aj_i3 117 rfl rfl)
set_option maxRecDepth 100000 in
theorem cd_X1_areaOfHull : aj_cd yX1_areaOfHull cX1_areaOfHull 5 (some .int) 0 := ⟨(aj_i1 206 rfl rfl), (aj_i1 3 rfl rfl), by decide +kernel⟩
set_option maxRecDepth 100000 in
theorem cv_X1_areaOfHull : aj_cv yX1_areaOfHull := ⟨(aj_i1 204 rfl rfl), (aj_i1 205 rfl rfl)⟩
set_option maxRecDepth 100000 in
theorem cd_X1_isCentreOnWalk : aj_cd yX1_isCentreOnWalk cX1_isCentreOnWalk 3 (some .boolean) 0 := ⟨(aj_i3 137 rfl rfl), (aj_i1 3 rfl rfl), by decide +kernel⟩
set_option maxRecDepth 100000 in
theorem cv_X1_isCentreOnWalk : aj_cv yX1_isCentreOnWalk := ⟨(aj_i3 135 rfl rfl), (aj_i3 136 rfl rfl)⟩
set_option maxRecDepth 100000 in
theorem ml_RX1_99 : Cond.methodLink RX1 99 yX1_dot ∈ aj_TB := (aj_i3 138 rfl rfl)
set_option maxRecDepth 100000 in
theorem cd_X1_windings : aj_cd yX1_windings cX1_windings 3 (some .int) 0 := ⟨(aj_i3 145 rfl rfl), (aj_i1 3 rfl rfl), by decide +kernel⟩
set_option maxRecDepth 100000 in
theorem cv_X1_windings : aj_cv yX1_windings := ⟨(aj_i3 143 rfl rfl), (aj_i3 144 rfl rfl)⟩
set_option maxRecDepth 100000 in
theorem ml_RX1_102 : Cond.methodLink RX1 102 yX1_windingOf ∈ aj_TB := (aj_i3 146 rfl rfl)
set_option maxRecDepth 100000 in
theorem cd_X1_windingOf : aj_cd yX1_windingOf cX1_windingOf 6 (some .int) 2 := ⟨(aj_i3 149 rfl rfl), (aj_i1 3 rfl rfl), by decide +kernel⟩
set_option maxRecDepth 100000 in
theorem cv_X1_windingOf : aj_cv yX1_windingOf := ⟨(aj_i3 148 rfl rfl), (aj_in 13 (by decide +kernel) rfl)⟩
set_option maxRecDepth 100000 in
theorem cd_X1_isRoundSound : aj_cd yX1_isRoundSound cX1_isRoundSound 2 (some .boolean) 0 := ⟨(aj_i3 220 rfl rfl), (aj_i1 3 rfl rfl), by decide +kernel⟩
set_option maxRecDepth 100000 in
theorem cv_X1_isRoundSound : aj_cv yX1_isRoundSound := ⟨(aj_i3 218 rfl rfl), (aj_i3 219 rfl rfl)⟩
set_option maxRecDepth 100000 in
theorem cd_X1_isHullSound : aj_cd yX1_isHullSound cX1_isHullSound 4 (some .boolean) 0 := ⟨(aj_i3 224 rfl rfl), (aj_i1 3 rfl rfl), by decide +kernel⟩
set_option maxRecDepth 100000 in
theorem cv_X1_isHullSound : aj_cv yX1_isHullSound := ⟨(aj_i3 222 rfl rfl), (aj_i3 223 rfl rfl)⟩
set_option maxRecDepth 100000 in
theorem cd_X1_isStarSound : aj_cd yX1_isStarSound cX1_isStarSound 2 (some .boolean) 0 := ⟨(aj_i3 228 rfl rfl), (aj_i1 3 rfl rfl), by decide +kernel⟩
set_option maxRecDepth 100000 in
theorem cv_X1_isStarSound : aj_cv yX1_isStarSound := ⟨(aj_i3 226 rfl rfl), (aj_i3 227 rfl rfl)⟩
set_option maxRecDepth 100000 in
theorem ml_RX1_105 : Cond.methodLink RX1 105 yX1_isRoundStar ∈ aj_TB := (aj_i3 229 rfl rfl)
set_option maxRecDepth 100000 in
theorem ml_RX1_109 : Cond.methodLink RX1 109 yX1_areaOfStar ∈ aj_TB := (aj_i3 230 rfl rfl)
set_option maxRecDepth 100000 in
theorem ml_RX1_112 : Cond.methodLink RX1 112 yX1_areaOfHull ∈ aj_TB := (aj_i3 231 rfl rfl)
set_option maxRecDepth 100000 in
theorem cd_X2_init : aj_cd yX2_init cX2_init 1 none 0 := ⟨(aj_i1 36 rfl rfl), (aj_i1 2 rfl rfl), by decide +kernel⟩
set_option maxRecDepth 100000 in
theorem iv_X2_init : Cond.instanceMethod yX2_init ∈ aj_TB := (aj_i1 35 rfl rfl)
set_option maxRecDepth 100000 in
theorem ml_RX2_1 : Cond.methodLink RX2 1 Lib.objectInit ∈ aj_TB := (aj_i1 37 rfl rfl)
set_option maxRecDepth 100000 in
theorem fl_RX2_7 : aj_FL RX2 7 3 0 := ⟨by decide, by decide, (aj_i1 38 rfl rfl)⟩
set_option maxRecDepth 100000 in
theorem fl_RX2_13 : aj_FL RX2 13 3 3 := ⟨by decide, by decide, (aj_i1 44 rfl rfl)⟩
set_option maxRecDepth 100000 in
theorem cd_X2_become : aj_cd yX2_become cX2_become 4 none 3 := ⟨(aj_i1 181 rfl rfl), (aj_i1 2 rfl rfl), by decide +kernel⟩
set_option maxRecDepth 100000 in
theorem cv_X2_become : aj_cv yX2_become := ⟨(aj_i1 179 rfl rfl), (aj_i1 180 rfl rfl)⟩
set_option maxRecDepth 100000 in
theorem fl_RX2_16 : aj_FL RX2 16 3 1 := ⟨by decide, by decide, (aj_i1 40 rfl rfl)⟩
set_option maxRecDepth 100000 in
theorem fl_RX2_19 : aj_FL RX2 19 3 2 := ⟨by decide, by decide, (aj_i1 42 rfl rfl)⟩
set_option maxRecDepth 100000 in
theorem cd_X2_becomeByRule : aj_cd yX2_becomeByRule cX2_becomeByRule 4 none 2 := ⟨(aj_i4 145 rfl rfl), (aj_i1 2 rfl rfl), by decide +kernel⟩
set_option maxRecDepth 100000 in
theorem cv_X2_becomeByRule : aj_cv yX2_becomeByRule := ⟨(aj_i4 143 rfl rfl), (aj_i4 144 rfl rfl)⟩
set_option maxRecDepth 100000 in
theorem ml_RX2_22 : Cond.methodLink RX2 22 yX2_become ∈ aj_TB := (aj_i4 146 rfl rfl)
set_option maxRecDepth 100000 in
theorem cd_X2_isNull : aj_cd yX2_isNull cX2_isNull 1 (some .boolean) 0 := ⟨(aj_i3 208 rfl rfl), (aj_i1 2 rfl rfl), by decide +kernel⟩
set_option maxRecDepth 100000 in
theorem cv_X2_isNull : aj_cv yX2_isNull := ⟨(aj_i3 206 rfl rfl), (aj_i3 207 rfl rfl)⟩
set_option maxRecDepth 100000 in
theorem cd_X2_isUpper : aj_cd yX2_isUpper cX2_isUpper 1 (some .boolean) 0 := ⟨(aj_i1 145 rfl rfl), (aj_i1 2 rfl rfl), by decide +kernel⟩
set_option maxRecDepth 100000 in
theorem cv_X2_isUpper : aj_cv yX2_isUpper := ⟨(aj_i1 143 rfl rfl), (aj_i1 144 rfl rfl)⟩
set_option maxRecDepth 100000 in
theorem cd_X2_isTwinOf : aj_cd yX2_isTwinOf cX2_isTwinOf 2 (some .boolean) 1 := ⟨(aj_i1 149 rfl rfl), (aj_i1 2 rfl rfl), by decide +kernel⟩
set_option maxRecDepth 100000 in
theorem cv_X2_isTwinOf : aj_cv yX2_isTwinOf := ⟨(aj_i1 147 rfl rfl), (aj_i1 148 rfl rfl)⟩
set_option maxRecDepth 100000 in
theorem cd_X2_isOfNoSize : aj_cd yX2_isOfNoSize cX2_isOfNoSize 1 (some .boolean) 0 := ⟨(aj_i3 169 rfl rfl), (aj_i1 2 rfl rfl), by decide +kernel⟩
set_option maxRecDepth 100000 in
theorem cv_X2_isOfNoSize : aj_cv yX2_isOfNoSize := ⟨(aj_i3 167 rfl rfl), (aj_i3 168 rfl rfl)⟩
set_option maxRecDepth 100000 in
theorem cd_X2_isDiagonal : aj_cd yX2_isDiagonal cX2_isDiagonal 1 (some .boolean) 0 := ⟨(aj_i4 51 rfl rfl), (aj_i1 2 rfl rfl), by decide +kernel⟩
set_option maxRecDepth 100000 in
theorem cv_X2_isDiagonal : aj_cv yX2_isDiagonal := ⟨(aj_i4 49 rfl rfl), (aj_i4 50 rfl rfl)⟩
set_option maxRecDepth 100000 in
theorem cd_X2_isFixed : aj_cd yX2_isFixed cX2_isFixed 1 (some .boolean) 0 := ⟨(aj_i4 47 rfl rfl), (aj_i1 2 rfl rfl), by decide +kernel⟩
set_option maxRecDepth 100000 in
theorem cv_X2_isFixed : aj_cv yX2_isFixed := ⟨(aj_i4 45 rfl rfl), (aj_i4 46 rfl rfl)⟩
set_option maxRecDepth 100000 in
theorem ml_RX2_26 : Cond.methodLink RX2 26 yX2_isDiagonal ∈ aj_TB := (aj_i4 48 rfl rfl)
set_option maxRecDepth 100000 in
theorem cd_X2_orderTo : aj_cd yX2_orderTo cX2_orderTo 3 (some .int) 1 := ⟨(aj_i1 141 rfl rfl), (aj_i1 2 rfl rfl), by decide +kernel⟩
set_option maxRecDepth 100000 in
theorem cv_X2_orderTo : aj_cv yX2_orderTo := ⟨(aj_i1 139 rfl rfl), (aj_i1 140 rfl rfl)⟩
set_option maxRecDepth 100000 in
theorem ml_RX2_30 : Cond.methodLink RX2 30 yX2_isUpper ∈ aj_TB := (aj_i1 142 rfl rfl)
set_option maxRecDepth 100000 in
theorem cd_X2_crossWith : aj_cd yX2_crossWith cX2_crossWith 2 (some .int) 1 := ⟨(aj_i3 105 rfl rfl), (aj_i1 2 rfl rfl), by decide +kernel⟩
set_option maxRecDepth 100000 in
theorem cv_X2_crossWith : aj_cv yX2_crossWith := ⟨(aj_i3 103 rfl rfl), (aj_i3 104 rfl rfl)⟩
set_option maxRecDepth 100000 in
theorem cd_X2_sideOf : aj_cd yX2_sideOf cX2_sideOf 2 (some .int) 1 := ⟨(aj_i3 101 rfl rfl), (aj_i1 2 rfl rfl), by decide +kernel⟩
set_option maxRecDepth 100000 in
theorem cv_X2_sideOf : aj_cv yX2_sideOf := ⟨(aj_i3 99 rfl rfl), (aj_i3 100 rfl rfl)⟩
set_option maxRecDepth 100000 in
theorem ml_RX2_33 : Cond.methodLink RX2 33 yX2_crossWith ∈ aj_TB := (aj_i3 102 rfl rfl)
set_option maxRecDepth 100000 in
theorem ml_RX2_37 : (RX2, 37, yX3_signOf, RX3) ∈ aj_NM := by decide +kernel
set_option maxRecDepth 100000 in
theorem cd_X2_angle : aj_cd yX2_angle cX2_angle 3 (some .long) 0 := ⟨(aj_i3 165 rfl rfl), (aj_i1 2 rfl rfl), by decide +kernel⟩
set_option maxRecDepth 100000 in
theorem cv_X2_angle : aj_cv yX2_angle := ⟨(aj_i3 163 rfl rfl), (aj_i3 164 rfl rfl)⟩
set_option maxRecDepth 100000 in
theorem ml_RX2_43 : Cond.methodLink RX2 43 yX2_isOfNoSize ∈ aj_TB := (aj_i3 166 rfl rfl)
set_option maxRecDepth 100000 in
theorem kc_RX2_48 : Cond.constantLong RX2 48 (3622009729038561280) ∈ aj_TB := (aj_i3 170 rfl rfl)
set_option maxRecDepth 100000 in
theorem kc_RX2_50 : Cond.constantLong RX2 50 (1811004864519280640) ∈ aj_TB := (aj_i3 171 rfl rfl)
set_option maxRecDepth 100000 in
theorem ml_RX2_52 : Cond.methodLink RX2 52 yX0_between ∈ aj_TB := (aj_i3 172 rfl rfl)
set_option maxRecDepth 100000 in
theorem cd_X2_firstDigits : aj_cd yX2_firstDigits cX2_firstDigits 4 (some .int) 1 := ⟨(aj_i3 191 rfl rfl), (aj_i1 2 rfl rfl), by decide +kernel⟩
set_option maxRecDepth 100000 in
theorem cv_X2_firstDigits : aj_cv yX2_firstDigits := ⟨(aj_i3 189 rfl rfl), (aj_i3 190 rfl rfl)⟩
set_option maxRecDepth 100000 in
theorem ml_RX2_56 : Cond.methodLink RX2 56 yX0_exponentAndHead ∈ aj_TB := (aj_i3 192 rfl rfl)
set_option maxRecDepth 100000 in
theorem kc_RX2_59 : Cond.constant RX2 59 (-2147483648) ∈ aj_TB := (aj_i3 196 rfl rfl)
set_option maxRecDepth 100000 in
theorem cd_X2_lastDigits : aj_cd yX2_lastDigits cX2_lastDigits 2 (some .int) 0 := ⟨(aj_i4 55 rfl rfl), (aj_i1 2 rfl rfl), by decide +kernel⟩
set_option maxRecDepth 100000 in
theorem cv_X2_lastDigits : aj_cv yX2_lastDigits := ⟨(aj_i4 53 rfl rfl), (aj_i4 54 rfl rfl)⟩
set_option maxRecDepth 100000 in
theorem kc_RX2_60 : Cond.constantLong RX2 60 (802078686650834) ∈ aj_TB := (aj_i4 56 rfl rfl)
set_option maxRecDepth 100000 in
theorem kc_RX2_62 : Cond.constantLong RX2 62 (2570638124657944) ∈ aj_TB := (aj_i4 57 rfl rfl)
set_option maxRecDepth 100000 in
theorem cd_L_put : aj_cw yL_put cL_put 7 (some .int) [(0, 15, 18, 19), (0, 15, 22, 21)] 6 := ⟨(aj_i4 124 rfl rfl), (aj_i1 0 rfl rfl), (aj_i4 123 rfl rfl), by decide +kernel⟩
set_option maxRecDepth 100000 in
theorem ml_RL_7 : Cond.methodLink RL 7 yX3_put ∈ aj_TB := (aj_i4 127 rfl rfl)
set_option maxRecDepth 100000 in
theorem fl_RL_13 : aj_FN RL 13 5 0 RL := by unfold aj_FN; decide +kernel
set_option maxRecDepth 100000 in
theorem cd_L_make : aj_cw yL_make cL_make 5 (some .int) [(0, 11, 14, 19), (0, 11, 18, 21)] 4 := ⟨(aj_i4 137 rfl rfl), (aj_i1 0 rfl rfl), (aj_i4 136 rfl rfl), by decide +kernel⟩
set_option maxRecDepth 100000 in
theorem ml_RL_23 : Cond.methodLink RL 23 yX3_make ∈ aj_TB := (aj_i4 138 rfl rfl)
set_option maxRecDepth 100000 in
theorem cd_L_stretch : aj_cw yL_stretch cL_stretch 5 (some .int) [(0, 11, 14, 19), (0, 11, 18, 21)] 4 := ⟨(aj_i4 149 rfl rfl), (aj_i1 0 rfl rfl), (aj_i4 148 rfl rfl), by decide +kernel⟩
set_option maxRecDepth 100000 in
theorem ml_RL_27 : Cond.methodLink RL 27 yX3_stretch ∈ aj_TB := (aj_i4 150 rfl rfl)
set_option maxRecDepth 100000 in
theorem cd_L_addSteps : aj_cw yL_addSteps cL_addSteps 6 (some .int) [(0, 13, 16, 19)] 5 := ⟨(aj_i4 167 rfl rfl), (aj_i1 0 rfl rfl), (aj_i4 166 rfl rfl), by decide +kernel⟩
set_option maxRecDepth 100000 in
theorem ml_RL_30 : Cond.methodLink RL 30 yX3_addSteps ∈ aj_TB := (aj_i4 168 rfl rfl)
set_option maxRecDepth 100000 in
theorem cd_L_takeStep : aj_cw yL_takeStep cL_takeStep 6 (some .int) [(0, 13, 16, 19)] 5 := ⟨(aj_i4 174 rfl rfl), (aj_i1 0 rfl rfl), (aj_i4 173 rfl rfl), by decide +kernel⟩
set_option maxRecDepth 100000 in
theorem ml_RL_34 : Cond.methodLink RL 34 yX3_takeStep ∈ aj_TB := (aj_i4 175 rfl rfl)
set_option maxRecDepth 100000 in
theorem cd_L_across : aj_cw yL_across cL_across 4 (some .int) [(0, 10, 13, 19)] 3 := ⟨(aj_i4 190 rfl rfl), (aj_i1 0 rfl rfl), (aj_i4 189 rfl rfl), by decide +kernel⟩
set_option maxRecDepth 100000 in
theorem ml_RL_37 : Cond.methodLink RL 37 yX3_across ∈ aj_TB := (aj_i4 191 rfl rfl)
set_option maxRecDepth 100000 in
theorem cd_L_up : aj_cw yL_up cL_up 4 (some .int) [(0, 10, 13, 19)] 3 := ⟨(aj_i4 194 rfl rfl), (aj_i1 0 rfl rfl), (aj_i4 193 rfl rfl), by decide +kernel⟩
set_option maxRecDepth 100000 in
theorem ml_RL_41 : Cond.methodLink RL 41 yX3_up ∈ aj_TB := (aj_i4 195 rfl rfl)
set_option maxRecDepth 100000 in
theorem cd_L_signs : aj_cw yL_signs cL_signs 4 (some .int) [(0, 10, 13, 19)] 3 := ⟨(aj_i4 198 rfl rfl), (aj_i1 0 rfl rfl), (aj_i4 197 rfl rfl), by decide +kernel⟩
set_option maxRecDepth 100000 in
theorem ml_RL_44 : Cond.methodLink RL 44 yX3_signs ∈ aj_TB := (aj_i4 199 rfl rfl)
set_option maxRecDepth 100000 in
theorem cd_L_upper : aj_cw yL_upper cL_upper 4 (some .int) [(0, 10, 13, 19)] 3 := ⟨(aj_i4 202 rfl rfl), (aj_i1 0 rfl rfl), (aj_i4 201 rfl rfl), by decide +kernel⟩
set_option maxRecDepth 100000 in
theorem ml_RL_47 : Cond.methodLink RL 47 yX3_upper ∈ aj_TB := (aj_i4 203 rfl rfl)
set_option maxRecDepth 100000 in
theorem cd_L_lower : aj_cw yL_lower cL_lower 4 (some .int) [(0, 10, 13, 19)] 3 := ⟨(aj_i4 206 rfl rfl), (aj_i1 0 rfl rfl), (aj_i4 205 rfl rfl), by decide +kernel⟩
set_option maxRecDepth 100000 in
theorem ml_RL_50 : Cond.methodLink RL 50 yX3_lower ∈ aj_TB := (aj_i4 207 rfl rfl)
set_option maxRecDepth 100000 in
theorem cd_L_grade : aj_cw yL_grade cL_grade 5 (some .int) [(0, 11, 14, 19), (0, 11, 18, 21)] 4 := ⟨(aj_i4 210 rfl rfl), (aj_i1 0 rfl rfl), (aj_i4 209 rfl rfl), by decide +kernel⟩
set_option maxRecDepth 100000 in
theorem ml_RL_53 : Cond.methodLink RL 53 yX3_grade ∈ aj_TB := (aj_i4 211 rfl rfl)
set_option maxRecDepth 100000 in
theorem cd_L_order : aj_cw yL_order cL_order 6 (some .int) [(0, 13, 16, 19), (0, 13, 20, 21)] 5 := ⟨(aj_i4 214 rfl rfl), (aj_i1 0 rfl rfl), (aj_i4 213 rfl rfl), by decide +kernel⟩
set_option maxRecDepth 100000 in
theorem ml_RL_56 : Cond.methodLink RL 56 yX3_order ∈ aj_TB := (aj_i4 215 rfl rfl)
set_option maxRecDepth 100000 in
theorem cd_L_like : aj_cw yL_like cL_like 5 (some .int) [(0, 18, 21, 19)] 4 := ⟨(aj_i4 218 rfl rfl), (aj_i1 0 rfl rfl), (aj_i4 217 rfl rfl), by decide +kernel⟩
set_option maxRecDepth 100000 in
theorem ml_RL_59 : Cond.methodLink RL 59 yX3_like ∈ aj_TB := (aj_i4 219 rfl rfl)
set_option maxRecDepth 100000 in
theorem cd_L_same : aj_cw yL_same cL_same 6 (some .int) [(0, 20, 23, 19), (0, 20, 27, 21)] 5 := ⟨(aj_i4 222 rfl rfl), (aj_i1 0 rfl rfl), (aj_i4 221 rfl rfl), by decide +kernel⟩
set_option maxRecDepth 100000 in
theorem ml_RL_63 : Cond.methodLink RL 63 yX3_same ∈ aj_TB := (aj_i4 223 rfl rfl)
set_option maxRecDepth 100000 in
theorem cd_L_side : aj_cw yL_side cL_side 5 (some .int) [(0, 11, 14, 19)] 4 := ⟨(aj_i4 229 rfl rfl), (aj_i1 0 rfl rfl), (aj_i4 228 rfl rfl), by decide +kernel⟩
set_option maxRecDepth 100000 in
theorem ml_RL_67 : Cond.methodLink RL 67 yX3_side ∈ aj_TB := (aj_i4 230 rfl rfl)
set_option maxRecDepth 100000 in
theorem cd_L_eighth : aj_cw yL_eighth cL_eighth 4 (some .int) [(0, 10, 13, 19)] 3 := ⟨(aj_i4 233 rfl rfl), (aj_i1 0 rfl rfl), (aj_i4 232 rfl rfl), by decide +kernel⟩
set_option maxRecDepth 100000 in
theorem ml_RL_70 : Cond.methodLink RL 70 yX3_eighth ∈ aj_TB := (aj_i4 234 rfl rfl)
set_option maxRecDepth 100000 in
theorem cd_L_rule : aj_cw yL_rule cL_rule 5 (some .int) [(0, 11, 14, 19), (0, 11, 18, 21)] 4 := ⟨(aj_i4 237 rfl rfl), (aj_i1 0 rfl rfl), (aj_i4 236 rfl rfl), by decide +kernel⟩
set_option maxRecDepth 100000 in
theorem ml_RL_73 : Cond.methodLink RL 73 yX3_rule ∈ aj_TB := (aj_i4 238 rfl rfl)
set_option maxRecDepth 100000 in
theorem cd_L_find : aj_cw yL_find cL_find 5 (some .int) [(0, 11, 14, 19)] 4 := ⟨(aj_i5 4 rfl rfl), (aj_i1 0 rfl rfl), (aj_i5 3 rfl rfl), by decide +kernel⟩
set_option maxRecDepth 100000 in
theorem ml_RL_76 : Cond.methodLink RL 76 yX3_find ∈ aj_TB := (aj_i5 5 rfl rfl)
set_option maxRecDepth 100000 in
theorem cd_L_addPlace : aj_cw yL_addPlace cL_addPlace 5 (some .int) [(0, 11, 14, 21)] 4 := ⟨(aj_i5 8 rfl rfl), (aj_i1 0 rfl rfl), (aj_i5 7 rfl rfl), by decide +kernel⟩
set_option maxRecDepth 100000 in
theorem ml_RL_80 : Cond.methodLink RL 80 yX3_addPlace ∈ aj_TB := (aj_i5 9 rfl rfl)
set_option maxRecDepth 100000 in
theorem cd_L_removePlace : aj_cw yL_removePlace cL_removePlace 4 (some .int) [(0, 10, 13, 19)] 3 := ⟨(aj_i5 26 rfl rfl), (aj_i1 0 rfl rfl), (aj_i5 25 rfl rfl), by decide +kernel⟩
set_option maxRecDepth 100000 in
theorem ml_RL_83 : Cond.methodLink RL 83 yX3_removePlace ∈ aj_TB := (aj_i5 27 rfl rfl)
set_option maxRecDepth 100000 in
theorem cd_L_movePlace : aj_cw yL_movePlace cL_movePlace 6 (some .int) [(0, 13, 16, 19), (0, 13, 20, 21)] 5 := ⟨(aj_i5 37 rfl rfl), (aj_i1 0 rfl rfl), (aj_i5 36 rfl rfl), by decide +kernel⟩
set_option maxRecDepth 100000 in
theorem ml_RL_86 : Cond.methodLink RL 86 yX3_movePlace ∈ aj_TB := (aj_i5 38 rfl rfl)
set_option maxRecDepth 100000 in
theorem cd_L_centre : aj_cw yL_centre cL_centre 5 (some .int) [(0, 11, 14, 21)] 4 := ⟨(aj_i5 48 rfl rfl), (aj_i1 0 rfl rfl), (aj_i5 47 rfl rfl), by decide +kernel⟩
set_option maxRecDepth 100000 in
theorem ml_RL_89 : Cond.methodLink RL 89 yX3_centre ∈ aj_TB := (aj_i5 49 rfl rfl)
set_option maxRecDepth 100000 in
theorem cd_L_place : aj_cw yL_place cL_place 5 (some .int) [(0, 11, 14, 19)] 4 := ⟨(aj_i5 55 rfl rfl), (aj_i1 0 rfl rfl), (aj_i5 54 rfl rfl), by decide +kernel⟩
set_option maxRecDepth 100000 in
theorem ml_RL_92 : Cond.methodLink RL 92 yX3_place ∈ aj_TB := (aj_i5 56 rfl rfl)
set_option maxRecDepth 100000 in
theorem cd_L_bearing : aj_cw yL_bearing cL_bearing 6 (some .int) [(0, 13, 16, 19), (0, 13, 20, 21)] 5 := ⟨(aj_i5 62 rfl rfl), (aj_i1 0 rfl rfl), (aj_i5 61 rfl rfl), by decide +kernel⟩
set_option maxRecDepth 100000 in
theorem ml_RL_95 : Cond.methodLink RL 95 yX3_bearing ∈ aj_TB := (aj_i5 63 rfl rfl)
set_option maxRecDepth 100000 in
theorem cd_L_bearingOrder : aj_cw yL_bearingOrder cL_bearingOrder 6 (some .int) [(0, 13, 16, 19)] 5 := ⟨(aj_i5 69 rfl rfl), (aj_i1 0 rfl rfl), (aj_i5 68 rfl rfl), by decide +kernel⟩
set_option maxRecDepth 100000 in
theorem ml_RL_98 : Cond.methodLink RL 98 yX3_bearingOrder ∈ aj_TB := (aj_i5 70 rfl rfl)
set_option maxRecDepth 100000 in
theorem cd_L_left : aj_cw yL_left cL_left 6 (some .int) [(0, 13, 16, 19)] 5 := ⟨(aj_i5 80 rfl rfl), (aj_i1 0 rfl rfl), (aj_i5 79 rfl rfl), by decide +kernel⟩
set_option maxRecDepth 100000 in
theorem ml_RL_101 : Cond.methodLink RL 101 yX3_left ∈ aj_TB := (aj_i5 81 rfl rfl)
set_option maxRecDepth 100000 in
theorem cd_L_house : aj_cw yL_house cL_house 4 (some .int) [(0, 10, 13, 21)] 3 := ⟨(aj_i5 89 rfl rfl), (aj_i1 0 rfl rfl), (aj_i5 88 rfl rfl), by decide +kernel⟩
set_option maxRecDepth 100000 in
theorem ml_RL_104 : Cond.methodLink RL 104 yX3_house ∈ aj_TB := (aj_i5 90 rfl rfl)
set_option maxRecDepth 100000 in
theorem cd_X4_init : aj_cd yX4_init cX4_init 1 none 0 := ⟨(aj_i4 116 rfl rfl), (aj_i1 5 rfl rfl), by decide +kernel⟩
set_option maxRecDepth 100000 in
theorem iv_X4_init : Cond.instanceMethod yX4_init ∈ aj_TB := (aj_i4 115 rfl rfl)
set_option maxRecDepth 100000 in
theorem ml_RX4_1 : Cond.methodLink RX4 1 Lib.objectInit ∈ aj_TB := (aj_i4 117 rfl rfl)
set_option maxRecDepth 100000 in
theorem ob_init : Cond.instanceMethod Lib.objectInit ∈ aj_TB ∧ Cond.code Lib.objectInit ⟨#[0xb1]⟩ 1 none ∈ aj_TB := ⟨(aj_i1 29 rfl rfl), (aj_i1 30 rfl rfl)⟩
set_option maxRecDepth 100000 in
theorem ob_abs : Cond.static Lib.Math.abs.name ∈ aj_TB ∧ Cond.initialized "java/lang/Math" ∈ aj_TB ∧ Cond.code Lib.Math.abs.name Lib.Math.abs.code 1 (some .int) ∈ aj_TB := ⟨(aj_i5 188 rfl rfl), (aj_i1 11 rfl rfl), (aj_i5 189 rfl rfl)⟩
set_option maxRecDepth 100000 in
theorem ac_int : Cond.arrayClass .int ∈ aj_TB := (aj_i1 98 rfl rfl)
set_option maxRecDepth 100000 in
theorem ac_long : Cond.arrayClass .long ∈ aj_TB := (aj_i1 54 rfl rfl)
set_option maxRecDepth 100000 in
theorem cl_L_19 : Cond.classLink RL 19 "java/lang/IndexOutOfBoundsException" ∈ aj_TB := (aj_i4 125 rfl rfl)
set_option maxRecDepth 100000 in
theorem cl_L_21 : Cond.classLink RL 21 "java/lang/IllegalArgumentException" ∈ aj_TB := (aj_i4 126 rfl rfl)
