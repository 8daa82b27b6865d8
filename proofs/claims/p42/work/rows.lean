section
-- ===== PART A: goes FIRST, ahead of the names: the tables' words, and 'selects' of the private methods out of them =====
/-- a private method of a class that the tables say can be made, by its rows of tables_1 -/
def lw_okq (q : MethodName × Nat) : Prop := (q.1.cls ≠ "java/lang/invoke/MethodHandle" ∧ q.1.cls ≠ "java/lang/invoke/VarHandle") ∧ Cond.instantiable q.1.cls q.2 ∈ tables_1 ∧ Cond.privateMethod q.1 ∈ tables_1 ∧ Cond.instanceMethod q.1 ∈ tables_1
theorem lw_p0 : lw_okq (⟨"Raywalk", "sinkIntoSorted", "(IZ)V"⟩, 10) := ⟨⟨by decide +kernel, by decide +kernel⟩, List.mem_of_getElem? (i := 24) (by decide +kernel), List.mem_of_getElem? (i := 135) (by decide +kernel), List.mem_of_getElem? (i := 136) (by decide +kernel)⟩
theorem lw_p1 : lw_okq (⟨"Raywalk$Field", "lay", "()V"⟩, 9) := ⟨⟨by decide +kernel, by decide +kernel⟩, List.mem_of_getElem? (i := 56) (by decide +kernel), List.mem_of_getElem? (i := 159) (by decide +kernel), List.mem_of_getElem? (i := 160) (by decide +kernel)⟩
theorem lw_p2 : lw_okq (⟨"Raywalk$Field", "layRound", "()V"⟩, 9) := ⟨⟨by decide +kernel, by decide +kernel⟩, List.mem_of_getElem? (i := 56) (by decide +kernel), List.mem_of_getElem? (i := 163) (by decide +kernel), List.mem_of_getElem? (i := 164) (by decide +kernel)⟩
theorem lw_p3 : lw_okq (⟨"Raywalk$Field", "distance", "(II)I"⟩, 9) := ⟨⟨by decide +kernel, by decide +kernel⟩, List.mem_of_getElem? (i := 56) (by decide +kernel), List.mem_of_getElem? (i := 167) (by decide +kernel), List.mem_of_getElem? (i := 168) (by decide +kernel)⟩
theorem lw_p4 : lw_okq (⟨"Raywalk$Field", "comesBefore", "(II)Z"⟩, 9) := ⟨⟨by decide +kernel, by decide +kernel⟩, List.mem_of_getElem? (i := 56) (by decide +kernel), List.mem_of_getElem? (i := 171) (by decide +kernel), List.mem_of_getElem? (i := 172) (by decide +kernel)⟩
theorem lw_p5 : lw_okq (⟨"Raywalk$Field", "takeSteps", "(III)V"⟩, 9) := ⟨⟨by decide +kernel, by decide +kernel⟩, List.mem_of_getElem? (i := 56) (by decide +kernel), List.mem_of_getElem? (i := 175) (by decide +kernel), List.mem_of_getElem? (i := 176) (by decide +kernel)⟩
theorem lw_p6 : lw_okq (⟨"Raywalk$Field", "layHull", "()V"⟩, 9) := ⟨⟨by decide +kernel, by decide +kernel⟩, List.mem_of_getElem? (i := 56) (by decide +kernel), List.mem_of_getElem? (i := 184) (by decide +kernel), List.mem_of_getElem? (i := 185) (by decide +kernel)⟩
theorem lw_p7 : lw_okq (⟨"Raywalk$Field", "lowest", "()I"⟩, 9) := ⟨⟨by decide +kernel, by decide +kernel⟩, List.mem_of_getElem? (i := 56) (by decide +kernel), List.mem_of_getElem? (i := 188) (by decide +kernel), List.mem_of_getElem? (i := 189) (by decide +kernel)⟩
theorem lw_p8 : lw_okq (⟨"Raywalk$Field", "cornerAfter", "(I)I"⟩, 9) := ⟨⟨by decide +kernel, by decide +kernel⟩, List.mem_of_getElem? (i := 56) (by decide +kernel), List.mem_of_getElem? (i := 192) (by decide +kernel), List.mem_of_getElem? (i := 193) (by decide +kernel)⟩
theorem lw_p9 : lw_okq (⟨"Raywalk$Field", "isOutside", "(III)Z"⟩, 9) := ⟨⟨by decide +kernel, by decide +kernel⟩, List.mem_of_getElem? (i := 56) (by decide +kernel), List.mem_of_getElem? (i := 196) (by decide +kernel), List.mem_of_getElem? (i := 197) (by decide +kernel)⟩
theorem lw_p10 : lw_okq (⟨"java/lang/Throwable", "fillInStackTrace", "(I)Ljava/lang/Throwable;"⟩, 6) := ⟨⟨by decide +kernel, by decide +kernel⟩, List.mem_of_getElem? (i := 472) (by decide +kernel), List.mem_of_getElem? (i := 470) (by decide +kernel), List.mem_of_getElem? (i := 471) (by decide +kernel)⟩
theorem lw_p11 : lw_okq (⟨"Raywalk$Field", "takeRoundSteps", "(I)V"⟩, 9) := ⟨⟨by decide +kernel, by decide +kernel⟩, List.mem_of_getElem? (i := 56) (by decide +kernel), List.mem_of_getElem? (i := 575) (by decide +kernel), List.mem_of_getElem? (i := 576) (by decide +kernel)⟩
theorem lw_p12 : lw_okq (⟨"Raywalk$Field", "dot", "(III)I"⟩, 9) := ⟨⟨by decide +kernel, by decide +kernel⟩, List.mem_of_getElem? (i := 56) (by decide +kernel), List.mem_of_getElem? (i := 619) (by decide +kernel), List.mem_of_getElem? (i := 620) (by decide +kernel)⟩
theorem lw_p13 : lw_okq (⟨"Raywalk$Field", "windingOf", "(II)I"⟩, 9) := ⟨⟨by decide +kernel, by decide +kernel⟩, List.mem_of_getElem? (i := 56) (by decide +kernel), List.mem_of_getElem? (i := 627) (by decide +kernel), List.mem_of_getElem? (i := 628) (by decide +kernel)⟩
theorem lw_p14 : lw_okq (⟨"Raywalk", "areAnglesSound", "()Z"⟩, 10) := ⟨⟨by decide +kernel, by decide +kernel⟩, List.mem_of_getElem? (i := 24) (by decide +kernel), List.mem_of_getElem? (i := 639) (by decide +kernel), List.mem_of_getElem? (i := 640) (by decide +kernel)⟩
theorem lw_p15 : lw_okq (⟨"Raywalk", "isPairSound", "(II)Z"⟩, 10) := ⟨⟨by decide +kernel, by decide +kernel⟩, List.mem_of_getElem? (i := 24) (by decide +kernel), List.mem_of_getElem? (i := 665) (by decide +kernel), List.mem_of_getElem? (i := 666) (by decide +kernel)⟩
def lw_privs_1 : List (MethodName × Nat) := [(⟨"Raywalk", "sinkIntoSorted", "(IZ)V"⟩, 10), (⟨"Raywalk$Field", "lay", "()V"⟩, 9), (⟨"Raywalk$Field", "layRound", "()V"⟩, 9), (⟨"Raywalk$Field", "distance", "(II)I"⟩, 9), (⟨"Raywalk$Field", "comesBefore", "(II)Z"⟩, 9), (⟨"Raywalk$Field", "takeSteps", "(III)V"⟩, 9), (⟨"Raywalk$Field", "layHull", "()V"⟩, 9), (⟨"Raywalk$Field", "lowest", "()I"⟩, 9), (⟨"Raywalk$Field", "cornerAfter", "(I)I"⟩, 9), (⟨"Raywalk$Field", "isOutside", "(III)Z"⟩, 9), (⟨"java/lang/Throwable", "fillInStackTrace", "(I)Ljava/lang/Throwable;"⟩, 6), (⟨"Raywalk$Field", "takeRoundSteps", "(I)V"⟩, 9), (⟨"Raywalk$Field", "dot", "(III)I"⟩, 9), (⟨"Raywalk$Field", "windingOf", "(II)I"⟩, 9), (⟨"Raywalk", "areAnglesSound", "()Z"⟩, 10), (⟨"Raywalk", "isPairSound", "(II)Z"⟩, 10)]
theorem lw_r1 : ∀ q ∈ lw_privs_1, lw_okq q := List.forall_mem_cons.mpr ⟨lw_p0, List.forall_mem_cons.mpr ⟨lw_p1, List.forall_mem_cons.mpr ⟨lw_p2, List.forall_mem_cons.mpr ⟨lw_p3, List.forall_mem_cons.mpr ⟨lw_p4, List.forall_mem_cons.mpr ⟨lw_p5, List.forall_mem_cons.mpr ⟨lw_p6, List.forall_mem_cons.mpr ⟨lw_p7, List.forall_mem_cons.mpr ⟨lw_p8, List.forall_mem_cons.mpr ⟨lw_p9, List.forall_mem_cons.mpr ⟨lw_p10, List.forall_mem_cons.mpr ⟨lw_p11, List.forall_mem_cons.mpr ⟨lw_p12, List.forall_mem_cons.mpr ⟨lw_p13, List.forall_mem_cons.mpr ⟨lw_p14, List.forall_mem_cons.mpr ⟨lw_p15, fun _ h => absurd h List.not_mem_nil⟩⟩⟩⟩⟩⟩⟩⟩⟩⟩⟩⟩⟩⟩⟩⟩
theorem lw_p16 : lw_okq (⟨"Raywalk", "withCell", "(JI)J"⟩, 10) := ⟨⟨by decide +kernel, by decide +kernel⟩, List.mem_of_getElem? (i := 24) (by decide +kernel), List.mem_of_getElem? (i := 718) (by decide +kernel), List.mem_of_getElem? (i := 719) (by decide +kernel)⟩
theorem lw_p17 : lw_okq (⟨"Raywalk", "withField", "(J)J"⟩, 10) := ⟨⟨by decide +kernel, by decide +kernel⟩, List.mem_of_getElem? (i := 24) (by decide +kernel), List.mem_of_getElem? (i := 816) (by decide +kernel), List.mem_of_getElem? (i := 817) (by decide +kernel)⟩
theorem lw_p18 : lw_okq (⟨"Raywalk", "comeTo", "(I)I"⟩, 10) := ⟨⟨by decide +kernel, by decide +kernel⟩, List.mem_of_getElem? (i := 24) (by decide +kernel), List.mem_of_getElem? (i := 852) (by decide +kernel), List.mem_of_getElem? (i := 853) (by decide +kernel)⟩
theorem lw_p19 : lw_okq (⟨"Raywalk", "comeOrRefuse", "(IIII)I"⟩, 10) := ⟨⟨by decide +kernel, by decide +kernel⟩, List.mem_of_getElem? (i := 24) (by decide +kernel), List.mem_of_getElem? (i := 875) (by decide +kernel), List.mem_of_getElem? (i := 876) (by decide +kernel)⟩
theorem lw_p20 : lw_okq (⟨"Raywalk", "refuse", "()I"⟩, 10) := ⟨⟨by decide +kernel, by decide +kernel⟩, List.mem_of_getElem? (i := 24) (by decide +kernel), List.mem_of_getElem? (i := 882) (by decide +kernel), List.mem_of_getElem? (i := 883) (by decide +kernel)⟩
theorem lw_p21 : lw_okq (⟨"Raywalk", "checkPlace", "(I)V"⟩, 10) := ⟨⟨by decide +kernel, by decide +kernel⟩, List.mem_of_getElem? (i := 24) (by decide +kernel), List.mem_of_getElem? (i := 900) (by decide +kernel), List.mem_of_getElem? (i := 901) (by decide +kernel)⟩
theorem lw_p22 : lw_okq (⟨"RaywalkModel", "start", "(ZI)Z"⟩, 11) := ⟨⟨by decide +kernel, by decide +kernel⟩, List.mem_of_getElem? (i := 1052) (by decide +kernel), List.mem_of_getElem? (i := 1102) (by decide +kernel), List.mem_of_getElem? (i := 1103) (by decide +kernel)⟩
theorem lw_p23 : lw_okq (⟨"RaywalkModel", "refuse", "(ZI)Z"⟩, 11) := ⟨⟨by decide +kernel, by decide +kernel⟩, List.mem_of_getElem? (i := 1052) (by decide +kernel), List.mem_of_getElem? (i := 1106) (by decide +kernel), List.mem_of_getElem? (i := 1107) (by decide +kernel)⟩
theorem lw_p24 : lw_okq (⟨"RaywalkModel", "move", "(IIIII)I"⟩, 11) := ⟨⟨by decide +kernel, by decide +kernel⟩, List.mem_of_getElem? (i := 1052) (by decide +kernel), List.mem_of_getElem? (i := 1110) (by decide +kernel), List.mem_of_getElem? (i := 1111) (by decide +kernel)⟩
theorem lw_p25 : lw_okq (⟨"RaywalkModel", "look", "(I)I"⟩, 11) := ⟨⟨by decide +kernel, by decide +kernel⟩, List.mem_of_getElem? (i := 1052) (by decide +kernel), List.mem_of_getElem? (i := 1123) (by decide +kernel), List.mem_of_getElem? (i := 1124) (by decide +kernel)⟩
theorem lw_p26 : lw_okq (⟨"RaywalkModel", "upSignOf", "(I)I"⟩, 11) := ⟨⟨by decide +kernel, by decide +kernel⟩, List.mem_of_getElem? (i := 1052) (by decide +kernel), List.mem_of_getElem? (i := 1127) (by decide +kernel), List.mem_of_getElem? (i := 1128) (by decide +kernel)⟩
theorem lw_p27 : lw_okq (⟨"RaywalkModel", "moveTo", "(IIIII)I"⟩, 11) := ⟨⟨by decide +kernel, by decide +kernel⟩, List.mem_of_getElem? (i := 1052) (by decide +kernel), List.mem_of_getElem? (i := 1168) (by decide +kernel), List.mem_of_getElem? (i := 1169) (by decide +kernel)⟩
theorem lw_p28 : lw_okq (⟨"RaywalkModel", "failed", "()I"⟩, 11) := ⟨⟨by decide +kernel, by decide +kernel⟩, List.mem_of_getElem? (i := 1052) (by decide +kernel), List.mem_of_getElem? (i := 1172) (by decide +kernel), List.mem_of_getElem? (i := 1173) (by decide +kernel)⟩
theorem lw_p29 : lw_okq (⟨"RaywalkModel", "isNoPlace", "(I)Z"⟩, 11) := ⟨⟨by decide +kernel, by decide +kernel⟩, List.mem_of_getElem? (i := 1052) (by decide +kernel), List.mem_of_getElem? (i := 1184) (by decide +kernel), List.mem_of_getElem? (i := 1185) (by decide +kernel)⟩
theorem lw_p30 : lw_okq (⟨"RaywalkModel", "orderAt", "(II)I"⟩, 11) := ⟨⟨by decide +kernel, by decide +kernel⟩, List.mem_of_getElem? (i := 1052) (by decide +kernel), List.mem_of_getElem? (i := 1192) (by decide +kernel), List.mem_of_getElem? (i := 1193) (by decide +kernel)⟩
theorem lw_p31 : lw_okq (⟨"RaywalkModel", "upperOf", "(I)I"⟩, 11) := ⟨⟨by decide +kernel, by decide +kernel⟩, List.mem_of_getElem? (i := 1052) (by decide +kernel), List.mem_of_getElem? (i := 1212) (by decide +kernel), List.mem_of_getElem? (i := 1213) (by decide +kernel)⟩
def lw_privs_2 : List (MethodName × Nat) := [(⟨"Raywalk", "withCell", "(JI)J"⟩, 10), (⟨"Raywalk", "withField", "(J)J"⟩, 10), (⟨"Raywalk", "comeTo", "(I)I"⟩, 10), (⟨"Raywalk", "comeOrRefuse", "(IIII)I"⟩, 10), (⟨"Raywalk", "refuse", "()I"⟩, 10), (⟨"Raywalk", "checkPlace", "(I)V"⟩, 10), (⟨"RaywalkModel", "start", "(ZI)Z"⟩, 11), (⟨"RaywalkModel", "refuse", "(ZI)Z"⟩, 11), (⟨"RaywalkModel", "move", "(IIIII)I"⟩, 11), (⟨"RaywalkModel", "look", "(I)I"⟩, 11), (⟨"RaywalkModel", "upSignOf", "(I)I"⟩, 11), (⟨"RaywalkModel", "moveTo", "(IIIII)I"⟩, 11), (⟨"RaywalkModel", "failed", "()I"⟩, 11), (⟨"RaywalkModel", "isNoPlace", "(I)Z"⟩, 11), (⟨"RaywalkModel", "orderAt", "(II)I"⟩, 11), (⟨"RaywalkModel", "upperOf", "(I)I"⟩, 11)]
theorem lw_r2 : ∀ q ∈ lw_privs_2, lw_okq q := List.forall_mem_cons.mpr ⟨lw_p16, List.forall_mem_cons.mpr ⟨lw_p17, List.forall_mem_cons.mpr ⟨lw_p18, List.forall_mem_cons.mpr ⟨lw_p19, List.forall_mem_cons.mpr ⟨lw_p20, List.forall_mem_cons.mpr ⟨lw_p21, List.forall_mem_cons.mpr ⟨lw_p22, List.forall_mem_cons.mpr ⟨lw_p23, List.forall_mem_cons.mpr ⟨lw_p24, List.forall_mem_cons.mpr ⟨lw_p25, List.forall_mem_cons.mpr ⟨lw_p26, List.forall_mem_cons.mpr ⟨lw_p27, List.forall_mem_cons.mpr ⟨lw_p28, List.forall_mem_cons.mpr ⟨lw_p29, List.forall_mem_cons.mpr ⟨lw_p30, List.forall_mem_cons.mpr ⟨lw_p31, fun _ h => absurd h List.not_mem_nil⟩⟩⟩⟩⟩⟩⟩⟩⟩⟩⟩⟩⟩⟩⟩⟩
theorem lw_p32 : lw_okq (⟨"RaywalkModel", "lowerOf", "(I)I"⟩, 11) := ⟨⟨by decide +kernel, by decide +kernel⟩, List.mem_of_getElem? (i := 1052) (by decide +kernel), List.mem_of_getElem? (i := 1221) (by decide +kernel), List.mem_of_getElem? (i := 1222) (by decide +kernel)⟩
theorem lw_p33 : lw_okq (⟨"RaywalkModel", "isZero", "(I)Z"⟩, 11) := ⟨⟨by decide +kernel, by decide +kernel⟩, List.mem_of_getElem? (i := 1052) (by decide +kernel), List.mem_of_getElem? (i := 1227) (by decide +kernel), List.mem_of_getElem? (i := 1228) (by decide +kernel)⟩
theorem lw_p34 : lw_okq (⟨"RaywalkModel", "startTwo", "(II)Z"⟩, 11) := ⟨⟨by decide +kernel, by decide +kernel⟩, List.mem_of_getElem? (i := 1052) (by decide +kernel), List.mem_of_getElem? (i := 1243) (by decide +kernel), List.mem_of_getElem? (i := 1244) (by decide +kernel)⟩
theorem lw_p35 : lw_okq (⟨"RaywalkModel", "isLike", "(II)Z"⟩, 11) := ⟨⟨by decide +kernel, by decide +kernel⟩, List.mem_of_getElem? (i := 1052) (by decide +kernel), List.mem_of_getElem? (i := 1251) (by decide +kernel), List.mem_of_getElem? (i := 1252) (by decide +kernel)⟩
theorem lw_p36 : lw_okq (⟨"RaywalkModel", "sideAt", "(II)I"⟩, 11) := ⟨⟨by decide +kernel, by decide +kernel⟩, List.mem_of_getElem? (i := 1052) (by decide +kernel), List.mem_of_getElem? (i := 1263) (by decide +kernel), List.mem_of_getElem? (i := 1264) (by decide +kernel)⟩
theorem lw_p37 : lw_okq (⟨"RaywalkModel", "isNull", "(I)Z"⟩, 11) := ⟨⟨by decide +kernel, by decide +kernel⟩, List.mem_of_getElem? (i := 1052) (by decide +kernel), List.mem_of_getElem? (i := 1267) (by decide +kernel), List.mem_of_getElem? (i := 1268) (by decide +kernel)⟩
theorem lw_p38 : lw_okq (⟨"RaywalkModel", "eighthOf", "(I)I"⟩, 11) := ⟨⟨by decide +kernel, by decide +kernel⟩, List.mem_of_getElem? (i := 1052) (by decide +kernel), List.mem_of_getElem? (i := 1278) (by decide +kernel), List.mem_of_getElem? (i := 1279) (by decide +kernel)⟩
theorem lw_p39 : lw_okq (⟨"RaywalkModel", "isNotAhead", "(III)I"⟩, 11) := ⟨⟨by decide +kernel, by decide +kernel⟩, List.mem_of_getElem? (i := 1052) (by decide +kernel), List.mem_of_getElem? (i := 1282) (by decide +kernel), List.mem_of_getElem? (i := 1283) (by decide +kernel)⟩
theorem lw_p40 : lw_okq (⟨"RaywalkModel", "found", "(IZ)I"⟩, 11) := ⟨⟨by decide +kernel, by decide +kernel⟩, List.mem_of_getElem? (i := 1052) (by decide +kernel), List.mem_of_getElem? (i := 1294) (by decide +kernel), List.mem_of_getElem? (i := 1295) (by decide +kernel)⟩
theorem lw_p41 : lw_okq (⟨"RaywalkModel", "at", "(II)I"⟩, 11) := ⟨⟨by decide +kernel, by decide +kernel⟩, List.mem_of_getElem? (i := 1052) (by decide +kernel), List.mem_of_getElem? (i := 1305) (by decide +kernel), List.mem_of_getElem? (i := 1306) (by decide +kernel)⟩
theorem lw_p42 : lw_okq (⟨"RaywalkModel", "corners", "()[I"⟩, 11) := ⟨⟨by decide +kernel, by decide +kernel⟩, List.mem_of_getElem? (i := 1052) (by decide +kernel), List.mem_of_getElem? (i := 1325) (by decide +kernel), List.mem_of_getElem? (i := 1326) (by decide +kernel)⟩
theorem lw_p43 : lw_okq (⟨"RaywalkModel", "isCorner", "(I)Z"⟩, 11) := ⟨⟨by decide +kernel, by decide +kernel⟩, List.mem_of_getElem? (i := 1052) (by decide +kernel), List.mem_of_getElem? (i := 1329) (by decide +kernel), List.mem_of_getElem? (i := 1330) (by decide +kernel)⟩
theorem lw_p44 : lw_okq (⟨"RaywalkModel", "isRim", "(II)Z"⟩, 11) := ⟨⟨by decide +kernel, by decide +kernel⟩, List.mem_of_getElem? (i := 1052) (by decide +kernel), List.mem_of_getElem? (i := 1333) (by decide +kernel), List.mem_of_getElem? (i := 1334) (by decide +kernel)⟩
theorem lw_p45 : lw_okq (⟨"RaywalkModel", "turn", "(III)I"⟩, 11) := ⟨⟨by decide +kernel, by decide +kernel⟩, List.mem_of_getElem? (i := 1052) (by decide +kernel), List.mem_of_getElem? (i := 1337) (by decide +kernel), List.mem_of_getElem? (i := 1338) (by decide +kernel)⟩
theorem lw_p46 : lw_okq (⟨"RaywalkModel", "area", "([I)I"⟩, 11) := ⟨⟨by decide +kernel, by decide +kernel⟩, List.mem_of_getElem? (i := 1052) (by decide +kernel), List.mem_of_getElem? (i := 1347) (by decide +kernel), List.mem_of_getElem? (i := 1348) (by decide +kernel)⟩
theorem lw_p47 : lw_okq (⟨"RaywalkModel", "outs", "()I"⟩, 11) := ⟨⟨by decide +kernel, by decide +kernel⟩, List.mem_of_getElem? (i := 1052) (by decide +kernel), List.mem_of_getElem? (i := 1386) (by decide +kernel), List.mem_of_getElem? (i := 1387) (by decide +kernel)⟩
def lw_privs_3 : List (MethodName × Nat) := [(⟨"RaywalkModel", "lowerOf", "(I)I"⟩, 11), (⟨"RaywalkModel", "isZero", "(I)Z"⟩, 11), (⟨"RaywalkModel", "startTwo", "(II)Z"⟩, 11), (⟨"RaywalkModel", "isLike", "(II)Z"⟩, 11), (⟨"RaywalkModel", "sideAt", "(II)I"⟩, 11), (⟨"RaywalkModel", "isNull", "(I)Z"⟩, 11), (⟨"RaywalkModel", "eighthOf", "(I)I"⟩, 11), (⟨"RaywalkModel", "isNotAhead", "(III)I"⟩, 11), (⟨"RaywalkModel", "found", "(IZ)I"⟩, 11), (⟨"RaywalkModel", "at", "(II)I"⟩, 11), (⟨"RaywalkModel", "corners", "()[I"⟩, 11), (⟨"RaywalkModel", "isCorner", "(I)Z"⟩, 11), (⟨"RaywalkModel", "isRim", "(II)Z"⟩, 11), (⟨"RaywalkModel", "turn", "(III)I"⟩, 11), (⟨"RaywalkModel", "area", "([I)I"⟩, 11), (⟨"RaywalkModel", "outs", "()I"⟩, 11)]
theorem lw_r3 : ∀ q ∈ lw_privs_3, lw_okq q := List.forall_mem_cons.mpr ⟨lw_p32, List.forall_mem_cons.mpr ⟨lw_p33, List.forall_mem_cons.mpr ⟨lw_p34, List.forall_mem_cons.mpr ⟨lw_p35, List.forall_mem_cons.mpr ⟨lw_p36, List.forall_mem_cons.mpr ⟨lw_p37, List.forall_mem_cons.mpr ⟨lw_p38, List.forall_mem_cons.mpr ⟨lw_p39, List.forall_mem_cons.mpr ⟨lw_p40, List.forall_mem_cons.mpr ⟨lw_p41, List.forall_mem_cons.mpr ⟨lw_p42, List.forall_mem_cons.mpr ⟨lw_p43, List.forall_mem_cons.mpr ⟨lw_p44, List.forall_mem_cons.mpr ⟨lw_p45, List.forall_mem_cons.mpr ⟨lw_p46, List.forall_mem_cons.mpr ⟨lw_p47, fun _ h => absurd h List.not_mem_nil⟩⟩⟩⟩⟩⟩⟩⟩⟩⟩⟩⟩⟩⟩⟩⟩
theorem lw_p48 : lw_okq (⟨"RaywalkModel", "isOut", "(I)Z"⟩, 11) := ⟨⟨by decide +kernel, by decide +kernel⟩, List.mem_of_getElem? (i := 1052) (by decide +kernel), List.mem_of_getElem? (i := 1390) (by decide +kernel), List.mem_of_getElem? (i := 1391) (by decide +kernel)⟩
theorem lw_p49 : lw_okq (⟨"RaywalkModel", "round", "()[I"⟩, 11) := ⟨⟨by decide +kernel, by decide +kernel⟩, List.mem_of_getElem? (i := 1052) (by decide +kernel), List.mem_of_getElem? (i := 1398) (by decide +kernel), List.mem_of_getElem? (i := 1399) (by decide +kernel)⟩
theorem lw_p50 : lw_okq (⟨"RaywalkModel", "outOrder", "(II)I"⟩, 11) := ⟨⟨by decide +kernel, by decide +kernel⟩, List.mem_of_getElem? (i := 1052) (by decide +kernel), List.mem_of_getElem? (i := 1402) (by decide +kernel), List.mem_of_getElem? (i := 1403) (by decide +kernel)⟩
theorem lw_p51 : lw_okq (⟨"RaywalkModel", "far", "(I)I"⟩, 11) := ⟨⟨by decide +kernel, by decide +kernel⟩, List.mem_of_getElem? (i := 1052) (by decide +kernel), List.mem_of_getElem? (i := 1406) (by decide +kernel), List.mem_of_getElem? (i := 1407) (by decide +kernel)⟩
theorem lw_p52 : lw_okq (⟨"RaywalkModel", "isStarred", "([I)Z"⟩, 11) := ⟨⟨by decide +kernel, by decide +kernel⟩, List.mem_of_getElem? (i := 1052) (by decide +kernel), List.mem_of_getElem? (i := 1424) (by decide +kernel), List.mem_of_getElem? (i := 1425) (by decide +kernel)⟩
theorem lw_p53 : lw_okq (⟨"RaywalkModel", "outCross", "(II)I"⟩, 11) := ⟨⟨by decide +kernel, by decide +kernel⟩, List.mem_of_getElem? (i := 1052) (by decide +kernel), List.mem_of_getElem? (i := 1428) (by decide +kernel), List.mem_of_getElem? (i := 1429) (by decide +kernel)⟩
theorem lw_p54 : lw_okq (⟨"RaywalkModel", "swept", "([I)I"⟩, 11) := ⟨⟨by decide +kernel, by decide +kernel⟩, List.mem_of_getElem? (i := 1052) (by decide +kernel), List.mem_of_getElem? (i := 1436) (by decide +kernel), List.mem_of_getElem? (i := 1437) (by decide +kernel)⟩
theorem lw_p55 : lw_okq (⟨"RaywalkModel", "roundsTold", "()I"⟩, 11) := ⟨⟨by decide +kernel, by decide +kernel⟩, List.mem_of_getElem? (i := 1052) (by decide +kernel), List.mem_of_getElem? (i := 1456) (by decide +kernel), List.mem_of_getElem? (i := 1457) (by decide +kernel)⟩
theorem lw_p56 : lw_okq (⟨"RaywalkModel", "addCells", "(J)J"⟩, 11) := ⟨⟨by decide +kernel, by decide +kernel⟩, List.mem_of_getElem? (i := 1052) (by decide +kernel), List.mem_of_getElem? (i := 1477) (by decide +kernel), List.mem_of_getElem? (i := 1478) (by decide +kernel)⟩
def lw_privs_4 : List (MethodName × Nat) := [(⟨"RaywalkModel", "isOut", "(I)Z"⟩, 11), (⟨"RaywalkModel", "round", "()[I"⟩, 11), (⟨"RaywalkModel", "outOrder", "(II)I"⟩, 11), (⟨"RaywalkModel", "far", "(I)I"⟩, 11), (⟨"RaywalkModel", "isStarred", "([I)Z"⟩, 11), (⟨"RaywalkModel", "outCross", "(II)I"⟩, 11), (⟨"RaywalkModel", "swept", "([I)I"⟩, 11), (⟨"RaywalkModel", "roundsTold", "()I"⟩, 11), (⟨"RaywalkModel", "addCells", "(J)J"⟩, 11)]
theorem lw_r4 : ∀ q ∈ lw_privs_4, lw_okq q := List.forall_mem_cons.mpr ⟨lw_p48, List.forall_mem_cons.mpr ⟨lw_p49, List.forall_mem_cons.mpr ⟨lw_p50, List.forall_mem_cons.mpr ⟨lw_p51, List.forall_mem_cons.mpr ⟨lw_p52, List.forall_mem_cons.mpr ⟨lw_p53, List.forall_mem_cons.mpr ⟨lw_p54, List.forall_mem_cons.mpr ⟨lw_p55, List.forall_mem_cons.mpr ⟨lw_p56, fun _ h => absurd h List.not_mem_nil⟩⟩⟩⟩⟩⟩⟩⟩⟩
def lw_privs : List (MethodName × Nat) := lw_privs_1 ++ (lw_privs_2 ++ (lw_privs_3 ++ (lw_privs_4)))
def lw_tbl : List Cond := k2_sels lw_privs ++ tables_1
theorem lw_privs_ok : ∀ q ∈ lw_privs, lw_okq q := by
  show ∀ q ∈ lw_privs_1 ++ (lw_privs_2 ++ (lw_privs_3 ++ (lw_privs_4))), lw_okq q
  exact List.forall_mem_append.mpr ⟨lw_r1, List.forall_mem_append.mpr ⟨lw_r2, List.forall_mem_append.mpr ⟨lw_r3, lw_r4⟩⟩⟩
end
section
/-! ===== BEGIN words of one list among another's, by their places ===== -/
theorem goodIn_r {big : List Cond} (ws : List Cond) (ps : List Nat) (hp : ws = ps.filterMap (fun i => big[i]?)) (h : ws.all goodWord = true) : GoodIn big ws := by
  intro w hw
  have h1 := List.all_eq_true.mp h w hw
  rw [hp] at hw
  obtain ⟨i, -, hi⟩ := List.mem_filterMap.mp hw
  have hm : w ∈ big := by first | exact List.mem_of_getElem? hi | exact List.getElem?_mem hi
  exact ⟨hm, good_of_word h1⟩
theorem goodIn_app {big a b : List Cond} (ha : GoodIn big a) (hb : GoodIn big b) : GoodIn big (a ++ b) := fun w h => (List.mem_append.mp h).elim (ha w) (hb w)
theorem goodIn_ca {big a b : List Cond} {c : Cond} (ha : GoodIn big (c :: a)) (hb : GoodIn big b) : GoodIn big (c :: (a ++ b)) := fun w h => (List.mem_cons.mp h).elim (fun e => ha w (List.mem_cons.mpr (Or.inl e))) (fun h => (List.mem_append.mp h).elim (fun h => ha w (List.mem_cons.mpr (Or.inr h))) (hb w))
theorem goodIn_sub {big ws : List Cond} (hm : ∀ w ∈ ws, w ∈ big) (h : ws.all goodWord = true) : GoodIn big ws := fun w hw => ⟨hm w hw, good_of_word (List.all_eq_true.mp h w hw)⟩
/-! ===== END ===== -/
/-! ===== BEGIN exceptions that leave a method, and their catching by the caller (launches without stack traces) ===== -/
section VXA
/-! The laws vx_back, vx_callV, vx_callS, vx_callSW, vx_throw0, vx_throwS follow proofs of the library, with one case more: JvmDerived/Free/Laws.lean (Back.of_free), Shelf42/LK1.lean (callV, callS), Shelf/KitTraced.lean (throwNew0V, throwNewS). -/
/-- where a method has thrown q: the class by its name, the cell, what was written, the world -/
def vx_T (XC : String → State → State → Prop) (st : State) (q : Addr) (t : State) (mc ms : Nat) (free : Addr → Prop) : Prop :=
  ∃ (E : String) (ce : Cell) (L : List Loc), XC E st t ∧ t.heap[q]? = some ce ∧ ce.vm = .none ∧ st.vm.findClass E = some ce.cls ∧ st.WarmedH t.vm ∧ st.sameButNew ({ t with vm := st.vm } : State) L mc ms ∧ ∀ z ∈ L, free z.base
def vx_Q (Qc : Array Value → State → Outcome → State → Prop) (XC : String → State → State → Prop) (mc ms : Nat) (free : Addr → Prop) : Array Value → State → Outcome → State → Prop := fun a st o t =>
  (Qc a st o t ∧ ∃ L, FrameEnd st o t L mc ms ∧ ∀ q ∈ L, free q.base) ∨ ∃ q, o = .threw q ∧ vx_T XC st q t mc ms free
/-- a callee that returns or throws -/
def vx_Met (l : Launch) (y : MethodName) (ws : List Cond) (rm : Room) (Pc : Array Value → State → Prop) (Qc : Array Value → State → Outcome → State → Prop) (XC : String → State → State → Prop) (mc ms : Nat) (free : Addr → Prop) : Prop :=
  MetFree l y (headSpec ws rm) Pc (fun _ _ _ _ _ => True) (vx_Q Qc XC mc ms free)
def vx_Post (XC : String → State → State → Prop) (mc ms : Nat) (free : Addr → Prop) : Pt → Array Value → Addr → Pt → Prop := fun A a q B =>
  ∃ (g : JFrame) (mk : MethodId) (t : State) (L : List Loc) (E : String) (ce : Cell), B.U.heap = t.heap ∧ B.U.vm = t.vm ∧ XC E (A.U.calling g mk a) t ∧ t.heap[q]? = some ce ∧ ce.vm = .none ∧ A.U.vm.findClass E = some ce.cls ∧ B.locs = A.locs ++ L ∧ (∀ z ∈ L, free z.base) ∧ B.cells = A.cells + mc ∧ B.slots = A.slots + ms
def vx_Back (l : Launch) (R : Room) (p : Program) (e : Env) (below : List Frame) (s : State) (sargs : Array Value) (y : MethodName) (len W9 : Nat)
    (Pre : Pt → Array Value → Prop) (Post : Pt → Array Value → Option Value → Pt → Prop) (PostX : Pt → Array Value → Addr → Pt → Prop) : Prop :=
  ∀ (m : MethodId) (meth : Method) (c : Code) (A : Pt) (g : JFrame) (ig : Instr) (mk : MethodId) (a : Array Value),
    Stand p l e R s m sargs below meth c A.U A.locs A.cells A.slots → g.method = m → g.locals.size = c.maxLocals → decode c.code g.pc = .ok (ig, len) →
    2 * g.monitorRoom + (g.stack.map fun v => v.category).sum ≤ W9 → A.U.methodNamed? y = some mk → Pre A a →
    (∃ (v : Option Value) (B : Pt), Stand p l e R s m sargs below meth c B.U B.locs B.cells B.slots ∧ Post A a v B ∧
      Steps p.tables e below (doInvoke e (A.U.setTop g) [] mk a).1 (B.U.setTop { g with pc := g.pc + len, stack := v.toList ++ g.stack })) ∨
    (∃ (q : Addr) (B : Pt), Stand p l e R s m sargs below meth c B.U B.locs B.cells B.slots ∧ PostX A a q B ∧
      Steps p.tables e below (doInvoke e (A.U.setTop g) [] mk a).1 ((B.U.setTop g).pushFrame (.throwing q)))
section Payer
variable {l : Launch} {R : Room} {p : Program} {e : Env} {below : List Frame} {s : State} {sargs : Array Value} {y : MethodName} {len W9 : Nat}
theorem vx_back {ws : List Cond} {rm : Room} {Pc : Array Value → State → Prop} {Qc : Array Value → State → Outcome → State → Prop} {XC : String → State → State → Prop} {mc ms : Nat} {free : Addr → Prop} {bytes : ByteArray} {maxL : Nat} {ret : Option FieldType}
    (hM : vx_Met l y ws rm Pc Qc XC mc ms free) (hblind : FrameBlind Pc) (hrc : rm.cells = mc) (hrs : rm.slots = ms)
    (hframes : rm.frames + 1 ≤ R.frames) (hlocals : W9 + (maxL + 11) + rm.locals ≤ R.locals)
    (hws : ∀ w ∈ ws, ∀ a' U, s.WarmedH U.vm → w.before a' U = true) (hcode : Cond.code y bytes maxL ret ∈ ws) (hinit : ∀ a' U, s.WarmedH U.vm → (Cond.initialized y.cls).before a' U = true) :
    vx_Back l R p e below s sargs y len W9 (PreOf R mc ms Pc) (PostOf Qc mc ms free) (vx_Post XC mc ms free) := by
  intro m meth c A g ig mk a X hg hsize hdg hW hn hp
  have h1 : (headSpec ws rm).pre.before a A.U = true := atoms_intro fun w hw => hws w hw _ _ X.warmed
  have h2 : (Cond.code y bytes maxL ret).before a A.U = true := hws _ hcode _ _ X.warmed
  have h3 : (Cond.initialized y.cls).before a A.U = true := hinit _ _ X.warmed
  have h4 : A.cells + (headSpec ws rm).room.cells ≤ R.cells := by rw [show (headSpec ws rm).room.cells = mc from hrc]; exact hp.1
  have h5 : A.slots + (headSpec ws rm).room.slots ≤ R.slots := by rw [show (headSpec ws rm).room.slots = ms from hrs]; exact hp.2.1
  have hPc : Pc a (A.U.calling g mk a) := hblind _ _ _ _ hp.2.2
  obtain ⟨U, Ls, c0, s0⟩ := A
  dsimp only [Pt.U, Pt.locs, Pt.cells, Pt.slots] at h1 h2 h3 h4 h5 X hn hPc ⊢
  obtain ⟨methY, cY, hmY, hcY, -, hlY, -, -, -, -⟩ := Cond.code_spec hn h2
  obtain ⟨kY, hkY, -⟩ := className_of_methodNamed hn
  have hinitY : kY.init = .initialized := Cond.initialized_spec (findClass_of_methodNamed hn) hkY h3
  have h : At U g.method c below := by rw [hg]; exact X.here
  have hlocals9 : W9 + (maxL + 11) + (headSpec ws rm).room.locals ≤ R.locals := hlocals
  have happ : (headSpec ws rm).appliesLoose y e.platform (U.calling g mk a) = true :=
    Spec.appliesLoose_calling (g := g) h hdg hn hkY hinitY
      (X.room_calling (g := g) (R' := (headSpec ws rm).room) hsize hmY hcY hframes (by rw [hlY]; omega) h4 h5) h1
  obtain ⟨mid, hmid⟩ := h.above
  have hfr : (U.setTop g).frames = (.java g :: mid) ++ below := by rw [State.frames_setTop' g h.top, hmid]; rfl
  obtain ⟨o, s₂, hsteps, -, hend, hq⟩ := Steps.callFree hM p X.admits X.cas X.clock (acts := []) hfr happ hPc trivial
  have hq' : vx_Q Qc XC mc ms free a (U.calling g mk a) o s₂ := hq
  rw [State.frames_setTop' g h.top] at hend
  obtain ⟨g₀, hg0⟩ := Option.isSome_iff_exists.mp h.top
  obtain ⟨r, hr⟩ := State.topJava?_eq_some.mp hg0
  have hr' : (({ U with heap := s₂.heap, slotsUsed := s₂.slotsUsed } : State).setVm s₂.vm).frames = .java g₀ :: r := hr
  rcases hq' with ⟨hqc, L, hfe, hL⟩ | ⟨q, rfl, E, ce, L, hx, hce, hcv, hcl, hW₂, hsm, hL⟩
  · obtain ⟨⟨v, rfl⟩, hW₂, e2, q2, q3, q4, q5, q6⟩ := id hfe
    have e3 : s₂ = ({ (U.calling g mk a).setFrames s₂.frames with heap := s₂.heap, slotsUsed := s₂.slotsUsed } : State).setVm s₂.vm := by
      have : s₂ = ({ s₂ with vm := (U.calling g mk a).vm } : State).setVm s₂.vm := rfl
      rw [e2] at this
      exact this
    obtain ⟨c₂, i₂, len₂, hc₂, hd₂, hf₂⟩ := hend
    have hW' : U.WarmedH s₂.vm := hW₂
    have hcc : c₂ = c := by
      have h1 : s₂.code? g.method = U.code? g.method := by
        rw [State.code?_eq, State.code?_eq, hW'.alike.method?]
      exact Option.some.inj (hc₂.symm.trans (h1.trans h.code))
    subst hcc
    have hlen : len₂ = len := by rw [hdg] at hd₂; cases hd₂; rfl
    subst hlen
    have hs₂ : s₂ = (({ U with heap := s₂.heap, slotsUsed := s₂.slotsUsed } : State).setVm s₂.vm).setTop { g with pc := g.pc + len₂, stack := v.toList ++ g.stack } := by
      refine e3.trans ?_
      rw [hf₂, State.calling_eq h.top, State.setFrames_setFrames, State.setTop_of_frames _ hr', hr]
      rfl
    have hsame : U.sameButNew ({ U with heap := s₂.heap, slotsUsed := s₂.slotsUsed } : State) L mc ms := by
      refine ⟨?_, q2, q3, q4, q5, q6⟩
      obtain ⟨t, ht, -⟩ := State.frames_cons hr
      show ({ U with heap := s₂.heap, slotsUsed := s₂.slotsUsed } : State) = { U.setFrames U.frames with heap := s₂.heap, slotsUsed := s₂.slotsUsed }
      rw [State.setFrames_self ht]
    subst hg
    refine Or.inl ⟨v, ⟨(({ U with heap := s₂.heap, slotsUsed := s₂.slotsUsed } : State).setVm s₂.vm), Ls ++ L, c0 + mc, s0 + ms⟩,
      ⟨X.admits, X.cas, X.clock, X.frames, X.room, X.hears, X.method, X.code, (X.here.setHeapUsed s₂.heap s₂.slotsUsed).setVm hW'.alike, X.tail, State.WarmedH.trans X.warmed hW', X.limits, X.bytes, X.same.trans (hsame.setVm s.vm)⟩,
      ⟨g, mk, s₂, L, rfl, rfl, hqc, rfl, hL, rfl, rfl⟩, ?_⟩
    show Steps p.tables e below _ ((({ U with heap := s₂.heap, slotsUsed := s₂.slotsUsed } : State).setVm s₂.vm).setTop { g with pc := g.pc + len₂, stack := v.toList ++ g.stack })
    rw [← hs₂]
    exact hsteps
  · obtain ⟨e2, q2, q3, q4, q5, q6⟩ := id hsm
    have e3 : s₂ = ({ (U.calling g mk a).setFrames s₂.frames with heap := s₂.heap, slotsUsed := s₂.slotsUsed } : State).setVm s₂.vm := by
      have : s₂ = ({ s₂ with vm := (U.calling g mk a).vm } : State).setVm s₂.vm := rfl
      rw [e2] at this
      exact this
    have hf₂ : s₂.frames = .throwing q :: .java g :: U.frames.tail := hend
    have hW' : U.WarmedH s₂.vm := hW₂
    have hs₂ : s₂ = ((({ U with heap := s₂.heap, slotsUsed := s₂.slotsUsed } : State).setVm s₂.vm).setTop g).pushFrame (.throwing q) := by
      refine e3.trans ?_
      rw [hf₂, State.calling_eq h.top, State.setFrames_setFrames, State.pushFrame, State.frames_setTop _ hr', State.setTop_of_frames _ hr', State.setFrames_setFrames, hr]
      rfl
    have hsame : U.sameButNew ({ U with heap := s₂.heap, slotsUsed := s₂.slotsUsed } : State) L mc ms := by
      refine ⟨?_, q2, q3, q4, q5, q6⟩
      obtain ⟨t, ht, -⟩ := State.frames_cons hr
      show ({ U with heap := s₂.heap, slotsUsed := s₂.slotsUsed } : State) = { U.setFrames U.frames with heap := s₂.heap, slotsUsed := s₂.slotsUsed }
      rw [State.setFrames_self ht]
    subst hg
    refine Or.inr ⟨q, ⟨(({ U with heap := s₂.heap, slotsUsed := s₂.slotsUsed } : State).setVm s₂.vm), Ls ++ L, c0 + mc, s0 + ms⟩,
      ⟨X.admits, X.cas, X.clock, X.frames, X.room, X.hears, X.method, X.code, (X.here.setHeapUsed s₂.heap s₂.slotsUsed).setVm hW'.alike, X.tail, State.WarmedH.trans X.warmed hW', X.limits, X.bytes, X.same.trans (hsame.setVm s.vm)⟩,
      ⟨g, mk, s₂, L, E, ce, rfl, rfl, hx, hce, hcv, hcl, rfl, hL, rfl, rfl⟩, ?_⟩
    show Steps p.tables e below _ (((({ U with heap := s₂.heap, slotsUsed := s₂.slotsUsed } : State).setVm s₂.vm).setTop g).pushFrame (.throwing q))
    rw [← hs₂]
    exact hsteps
end Payer
section Calls
variable {p : Program} {l : Launch} {e : Env} {R : Room} {s : State} {m : MethodId} {args : Array Value} {below : List Frame} {meth : Method} {c : Code} {T : State} {locs : List Loc} {cells slots : Nat}
theorem vx_callV (X : Stand p l e R s m args below meth c T locs cells slots) (hexec : p.tables.exec = Jvm.exec) {own C : String} {index : Nat} {y : MethodName} {bytes : ByteArray} {maxL : Nat} {ret : Option FieldType}
    (hown : s.vm.findClass own = some m.cls) (hlink : (Cond.methodLink own index y).before args s = true) (hinst : (Cond.instanceMethod y).before args s = true) (hsel : (Cond.selects C y y).before args s = true)
    (hcode : (Cond.code y bytes maxL ret).before args s = true) (hy : y.cls ≠ "java/lang/invoke/MethodHandle" ∧ y.cls ≠ "java/lang/invoke/VarHandle")
    {W9 : Nat} {Pre : Pt → Array Value → Prop} {Post : Pt → Array Value → Option Value → Pt → Prop} {PostX : Pt → Array Value → Addr → Pt → Prop} (hK : vx_Back l R p e below s args y 3 W9 Pre Post PostX)
    {b : Addr} {cellB : Cell} (hcell : T.heap[b]? = some cellB) (hobj : cellB.vm.isStatics = false) (hcls : s.vm.findClass C = some cellB.cls)
    {g : JFrame} (hg : g.method = m) (hsize : g.locals.size = c.maxLocals) {argsL rest : List Value} (hlen : ∀ sig, parseMethodDescriptor y.desc = some sig → argsL.length = sig.parameters.length)
    (hstack : g.stack = argsL.reverse ++ .ref b :: rest) (hW : 2 * g.monitorRoom + (rest.map fun v => v.category).sum ≤ W9) (hdg : decode c.code g.pc = .ok (.invokevirtual index, 3))
    (hpre : ∀ vm₁, s.WarmedH vm₁ → Pre ⟨T.setVm vm₁, locs, cells, slots⟩ (Value.ref b :: argsL).toArray) :
    (∃ (v : Option Value) (vm₁ : Vm) (B : Pt), s.WarmedH vm₁ ∧ Stand p l e R s m args below meth c B.U B.locs B.cells B.slots ∧ Post ⟨T.setVm vm₁, locs, cells, slots⟩ (Value.ref b :: argsL).toArray v B ∧
      ∀ target, Steps p.tables e below (B.U.setTop { g with pc := g.pc + 3, stack := v.toList ++ rest }) target → Steps p.tables e below (T.setTop g) target) ∨
    (∃ (q : Addr) (vm₁ : Vm) (B : Pt), s.WarmedH vm₁ ∧ Stand p l e R s m args below meth c B.U B.locs B.cells B.slots ∧ PostX ⟨T.setVm vm₁, locs, cells, slots⟩ (Value.ref b :: argsL).toArray q B ∧
      Steps p.tables e below (T.setTop g) ((B.U.setTop { g with stack := rest }).pushFrame (.throwing q))) := by
  obtain ⟨mk, methM, hnamed, hmethM, hstM, habM⟩ := Cond.instanceMethod_spec hinst
  obtain ⟨methM', cM, hmethM', -, -, -, -, -, -, hsigM⟩ := Cond.code_spec hnamed hcode
  cases hmethM.symm.trans hmethM'
  obtain ⟨c2, r2, m2, q1, q2, q3, q4, kP, hkP, hkPi⟩ := Cond.selects_spec hsel
  cases hcls.symm.trans q1
  cases (State.methodFound?_of_named hnamed hy).symm.trans q2
  cases hnamed.symm.trans q3
  have hselP : selectMethod e.platform s.vm cellB.cls mk = .method mk := by rw [Launch.admits_selectMethod X.admits]; exact q4
  obtain ⟨vm₁, X₁, hstep₁⟩ := X.invokevirtual hexec hown hlink hnamed hmethM hstM hkP hkPi hy (a := b) (cell := cellB) hcell
    (fun z h => by rw [h] at hobj; cases hobj) hselP hmethM habM hkP hkPi (g := g) hg (argsL := argsL) (rest := rest) (hlen _ hsigM) hstack hdg
  rcases hK m meth c ⟨T.setVm vm₁, locs, cells, slots⟩ { g with stack := rest } (.invokevirtual index) mk (Value.ref b :: argsL).toArray X₁ hg hsize hdg hW (X₁.named hnamed) (hpre vm₁ X₁.warmed) with ⟨v, B, X', hpost, hsteps⟩ | ⟨q, B, X', hpost, hsteps⟩
  · exact Or.inl ⟨v, vm₁, B, X₁.warmed, X', hpost, fun target h => hstep₁ _ fun acts => by rw [doInvoke_state]; exact hsteps.trans h⟩
  · exact Or.inr ⟨q, vm₁, B, X₁.warmed, X', hpost, hstep₁ _ fun acts => by rw [doInvoke_state]; exact hsteps⟩
theorem vx_callS (X : Stand p l e R s m args below meth c T locs cells slots) (hexec : p.tables.exec = Jvm.exec) {own : String} {index : Nat} {y : MethodName} {bytes : ByteArray} {maxL : Nat} {ret : Option FieldType}
    (hown : s.vm.findClass own = some m.cls) (hlink : (Cond.methodLink own index y).before args s = true) (hstat : (Cond.static y).before args s = true) (hinit : (Cond.initialized y.cls).before args s = true)
    (hcode : (Cond.code y bytes maxL ret).before args s = true) (hy : y.cls ≠ "java/lang/invoke/MethodHandle" ∧ y.cls ≠ "java/lang/invoke/VarHandle")
    {W9 : Nat} {Pre : Pt → Array Value → Prop} {Post : Pt → Array Value → Option Value → Pt → Prop} {PostX : Pt → Array Value → Addr → Pt → Prop} (hK : vx_Back l R p e below s args y 3 W9 Pre Post PostX)
    {g : JFrame} (hg : g.method = m) (hsize : g.locals.size = c.maxLocals) {argsL rest : List Value} (hlen : ∀ sig, parseMethodDescriptor y.desc = some sig → argsL.length = sig.parameters.length)
    (hstack : g.stack = argsL.reverse ++ rest) (hW : 2 * g.monitorRoom + (rest.map fun v => v.category).sum ≤ W9) (hdg : decode c.code g.pc = .ok (.invokestatic index, 3))
    (hpre : ∀ vm₁, s.WarmedH vm₁ → Pre ⟨T.setVm vm₁, locs, cells, slots⟩ argsL.toArray) :
    (∃ (v : Option Value) (vm₁ : Vm) (B : Pt), s.WarmedH vm₁ ∧ Stand p l e R s m args below meth c B.U B.locs B.cells B.slots ∧ Post ⟨T.setVm vm₁, locs, cells, slots⟩ argsL.toArray v B ∧
      ∀ target, Steps p.tables e below (B.U.setTop { g with pc := g.pc + 3, stack := v.toList ++ rest }) target → Steps p.tables e below (T.setTop g) target) ∨
    (∃ (q : Addr) (vm₁ : Vm) (B : Pt), s.WarmedH vm₁ ∧ Stand p l e R s m args below meth c B.U B.locs B.cells B.slots ∧ PostX ⟨T.setVm vm₁, locs, cells, slots⟩ argsL.toArray q B ∧
      Steps p.tables e below (T.setTop g) ((B.U.setTop { g with stack := rest }).pushFrame (.throwing q))) := by
  obtain ⟨mk, hnamed⟩ := Cond.code_named hcode
  obtain ⟨methM, cM, hmethM, -, -, -, -, -, -, hsigM⟩ := Cond.code_spec hnamed hcode
  have hstatic : methM.isStatic = true := Cond.static_spec hnamed hmethM hstat
  obtain ⟨kP, hkP, -⟩ := className_of_methodNamed hnamed
  have hinitP : kP.init = .initialized := Cond.initialized_spec (findClass_of_methodNamed hnamed) hkP hinit
  obtain ⟨vm₁, X₁, hstep₁⟩ := X.invokestatic hexec hown hlink hnamed hmethM hstatic hkP hinitP hy (g := g) hg (argsL := argsL) (rest := rest) (hlen _ hsigM) hstack hdg
  rcases hK m meth c ⟨T.setVm vm₁, locs, cells, slots⟩ { g with stack := rest } (.invokestatic index) mk argsL.toArray X₁ hg hsize hdg hW (X₁.named hnamed) (hpre vm₁ X₁.warmed) with ⟨v, B, X', hpost, hsteps⟩ | ⟨q, B, X', hpost, hsteps⟩
  · exact Or.inl ⟨v, vm₁, B, X₁.warmed, X', hpost, fun target h => hstep₁ _ fun acts => by rw [doInvoke_state]; exact hsteps.trans h⟩
  · exact Or.inr ⟨q, vm₁, B, X₁.warmed, X', hpost, hstep₁ _ fun acts => by rw [doInvoke_state]; exact hsteps⟩
end Calls
theorem vx_cls {s : State} {T : State} {vm₁ : Vm} {E : String} {k : ClassId} (hW : s.WarmedH vm₁) (h : (T.setVm vm₁).vm.findClass E = some k) : s.vm.findClass E = some k := by
  have h1 : vm₁.findClass E = some k := h
  rw [hW.alike.findClass] at h1
  exact h1
/-- the method's frame g, with q thrown over it -/
def vx_W (p : Program) (l : Launch) (e : Env) (R : Room) (s : State) (m : MethodId) (args : Array Value) (below : List Frame) (meth : Method) (c : Code) (H : Heap) (locs : List Loc) (cells slots : Nat) (Q : State → Prop) (g : JFrame) (q : Addr) : Prop :=
  ∀ T : State, T.heap = H → Stand p l e R s m args below meth c T locs cells slots → ∃ t, Steps p.tables e below ((T.setTop g).pushFrame (.throwing q)) t ∧ Q t
def vx_Run (p : Program) (l : Launch) (e : Env) (R : Room) (s : State) (m : MethodId) (args : Array Value) (below : List Frame) (meth : Method) (c : Code) (H : Heap) (locs : List Loc) (cells slots mc ms : Nat) (g : JFrame) (rest : List Value) (Qa : State → Outcome → State → Prop) (XC : String → State → State → Prop) (free : Addr → Prop) : Prop :=
  ∀ T : State, T.heap = H → Stand p l e R s m args below meth c T locs cells slots →
    (∃ (v : Option Value) (st₀ t T' : State) (L : List Loc), st₀.heap = H ∧ Stand p l e R s m args below meth c T' (locs ++ L) (cells + mc) (slots + ms) ∧ (∀ q ∈ L, free q.base) ∧ T'.heap = t.heap ∧ T'.vm = t.vm ∧ Qa st₀ (.returned v) t ∧
      Goes p e below T g T' { g with pc := g.pc + 3, stack := v.toList ++ rest }) ∨
    (∃ (q : Addr) (st₀ t T' : State) (L : List Loc) (E : String) (ce : Cell), st₀.heap = H ∧ Stand p l e R s m args below meth c T' (locs ++ L) (cells + mc) (slots + ms) ∧ (∀ z ∈ L, free z.base) ∧ T'.heap = t.heap ∧ T'.vm = t.vm ∧ XC E st₀ t ∧ t.heap[q]? = some ce ∧ ce.vm = .none ∧ s.vm.findClass E = some ce.cls ∧
      Steps p.tables e below (T.setTop g) ((T'.setTop { g with stack := rest }).pushFrame (.throwing q)))
def vx_X {S : Type} (px : S → Prop) (B : String → S → State → Prop) (A : Nat → Prop) : String → State → State → Prop := fun E st t => ∃ u : S, px u ∧ B E u t ∧ va_F A st t
section Runs
variable {p : Program} {l : Launch} {e : Env} {R : Room} {s : State} {m : MethodId} {args : Array Value} {below : List Frame} {meth : Method} {c : Code} {H : Heap} {locs : List Loc} {cells slots : Nat}
variable {y : MethodName} {bytes cc : ByteArray} {maxL nL mc ms n index : Nat} {ret : Option FieldType} {ws : List Cond} {rm : Room} {Pc : Array Value → State → Prop} {Qc : Array Value → State → Outcome → State → Prop} {XC : String → State → State → Prop} {free : Addr → Prop} {Ts : List Cond} {own C : String} {b : Addr} {As rest : List Value} {g : JFrame}
theorem vx_callBack (cb : CallB R s args own index y bytes maxL ret ws rm mc ms n) (hM : vx_Met l y ws rm Pc Qc XC mc ms free) (hbl : FrameBlind Pc) : vx_Back l R p e below s args y 3 8 (PreOf R mc ms Pc) (PostOf Qc mc ms free) (vx_Post XC mc ms free) := by
  obtain ⟨hrc, hrs, hfr, hlo, hws, hcw, -, hini, -⟩ := cb
  exact vx_back (bytes := bytes) (maxL := maxL) (ret := ret) hM hbl hrc hrs hfr hlo hws hcw (fun a' U hW => word_at hW (Or.inl (by first | rfl | simp [Cond.onTables, Cond.keeps, Cond.steady])) hini)
theorem vx_runV (S : CallFix p m c cc nL s args Ts own) (hM : vx_Met l y ws rm Pc Qc XC mc ms free) (cw : CallW R s args own C index y bytes maxL ret ws rm mc ms n) (hp : PreV s H C b Pc As)
    (hg : g.method = m) (hn : As.length = n) (hsize : g.locals.size = nL) (hstack : g.stack = As.reverse ++ .ref b :: rest) (hW : 2 * g.monitorRoom + (rest.map fun v => v.category).sum ≤ 8) (hdg : decode cc g.pc = .ok (.invokevirtual index, 3)) (hf : cells + mc ≤ R.cells ∧ slots + ms ≤ R.slots) :
    vx_Run p l e R s m args below meth c H locs cells slots mc ms g rest (Qc (Value.ref b :: As).toArray) XC free := by
  have hK : vx_Back l R p e below s args y 3 8 (PreOf R mc ms Pc) (PostOf Qc mc ms free) (vx_Post XC mc ms free) := vx_callBack cw.1 hM hp.1
  obtain ⟨⟨-, -, -, -, -, -, hcode, -, hy, hlen, hl⟩, hin, hse⟩ := cw
  obtain ⟨hx, hb, hml, ho, -⟩ := S
  obtain ⟨-, ⟨cellB, hcB, hoB, hclB⟩, hPc⟩ := hp
  intro T hT X
  rcases vx_callV X hx (C := C) (bytes := bytes) (maxL := maxL) (ret := ret) ho hl hin hse hcode hy hK (by rw [hT]; exact hcB) hoB hclB hg (hsize.trans hml.symm) (argsL := As) (rest := rest) (fun sig h => hn.trans (hlen sig h)) hstack hW (by rw [hb]; exact hdg)
    (fun vm₁ hW₁ => ⟨hf.1, hf.2, hPc (T.setVm vm₁) hT hW₁⟩) with ⟨v, vm₁, ⟨U', l2, c2, s2⟩, hW₁, X', ⟨g', mk, t, L, e1, e2, hq, h1, hL, h2, h3⟩, st⟩ | ⟨q, vm₁, ⟨U', l2, c2, s2⟩, hW₁, X', ⟨g', mk, t, L, E, ce, e1, e2, hq, hce, hcv, hcl, h1, hL, h2, h3⟩, st⟩
  · dsimp only [Pt.U, Pt.locs, Pt.cells, Pt.slots] at X' e1 e2 h1 h2 h3 st
    subst h1; subst h2; subst h3
    exact Or.inl ⟨v, (T.setVm vm₁).calling g' mk (Value.ref b :: As).toArray, t, U', L, hT, X', hL, e1, e2, hq, st⟩
  · dsimp only [Pt.U, Pt.locs, Pt.cells, Pt.slots] at X' e1 e2 h1 h2 h3 st hcl
    subst h1; subst h2; subst h3
    exact Or.inr ⟨q, (T.setVm vm₁).calling g' mk (Value.ref b :: As).toArray, t, U', L, E, ce, hT, X', hL, e1, e2, hq, hce, hcv, vx_cls hW₁ hcl, st⟩
theorem vx_runS (S : CallFix p m c cc nL s args Ts own) (hM : vx_Met l y ws rm Pc Qc XC mc ms free) (cw : CallB R s args own index y bytes maxL ret ws rm mc ms n ∧ (Cond.static y).before args s = true) (hp : PreS s H Pc As)
    (hg : g.method = m) (hn : As.length = n) (hsize : g.locals.size = nL) (hstack : g.stack = As.reverse ++ rest) (hW : 2 * g.monitorRoom + (rest.map fun v => v.category).sum ≤ 8) (hdg : decode cc g.pc = .ok (.invokestatic index, 3)) (hf : cells + mc ≤ R.cells ∧ slots + ms ≤ R.slots) :
    vx_Run p l e R s m args below meth c H locs cells slots mc ms g rest (Qc As.toArray) XC free := by
  have hK : vx_Back l R p e below s args y 3 8 (PreOf R mc ms Pc) (PostOf Qc mc ms free) (vx_Post XC mc ms free) := vx_callBack cw.1 hM hp.1
  obtain ⟨⟨-, -, -, -, -, -, hcode, hini, hy, hlen, hl⟩, hstt⟩ := cw
  obtain ⟨hx, hb, hml, ho, -⟩ := S
  intro T hT X
  rcases vx_callS X hx (bytes := bytes) (maxL := maxL) (ret := ret) ho hl hstt hini hcode hy hK hg (hsize.trans hml.symm) (argsL := As) (rest := rest) (fun sig h => hn.trans (hlen sig h)) hstack hW (by rw [hb]; exact hdg)
    (fun vm₁ hW₁ => ⟨hf.1, hf.2, hp.2 (T.setVm vm₁) hT hW₁⟩) with ⟨v, vm₁, ⟨U', l2, c2, s2⟩, hW₁, X', ⟨g', mk, t, L, e1, e2, hq, h1, hL, h2, h3⟩, st⟩ | ⟨q, vm₁, ⟨U', l2, c2, s2⟩, hW₁, X', ⟨g', mk, t, L, E, ce, e1, e2, hq, hce, hcv, hcl, h1, hL, h2, h3⟩, st⟩
  · dsimp only [Pt.U, Pt.locs, Pt.cells, Pt.slots] at X' e1 e2 h1 h2 h3 st
    subst h1; subst h2; subst h3
    exact Or.inl ⟨v, (T.setVm vm₁).calling g' mk As.toArray, t, U', L, hT, X', hL, e1, e2, hq, st⟩
  · dsimp only [Pt.U, Pt.locs, Pt.cells, Pt.slots] at X' e1 e2 h1 h2 h3 st hcl
    subst h1; subst h2; subst h3
    exact Or.inr ⟨q, (T.setVm vm₁).calling g' mk As.toArray, t, U', L, E, ce, hT, X', hL, e1, e2, hq, hce, hcv, vx_cls hW₁ hcl, st⟩
end Runs
section Rows
variable {p : Program} {l : Launch} {e : Env} {R : Room} {s : State} {m : MethodId} {args : Array Value} {below : List Frame} {meth : Method} {c : Code} {H : Heap} {locs : List Loc} {cells slots : Nat} {Q : State → Prop}
variable {mc ms : Nat} {free : Addr → Prop} {A0 A1 : Nat → Prop} {H0 : Heap} {a : Array Value} {pc : Nat} {ls : Array Slot} {st0 rest : List Value}
theorem vx_keep {st₀ t T' : State} {L : List Loc} (h0 : st₀.heap = H) (e1 : T'.heap = t.heap) (hS : va_S A0 H0 H locs) (hA : ∀ q, q < H.size → A1 q → A0 q) (hf : ∀ q, free q → A0 q) (hL : ∀ q ∈ L, free q.base) (hF : va_F A1 st₀ t) :
    H.size ≤ T'.heap.size ∧ (∀ q : Nat, q < H.size → ¬ A1 q → T'.heap[q]? = H[q]?) ∧ va_S A0 H0 T'.heap (locs ++ L) := by
  obtain ⟨hz, hk⟩ := hF
  rw [h0] at hz hk
  exact ⟨by rw [e1]; exact hz, fun q h1 h2 => by rw [e1]; exact hk q h1 h2,
    ⟨Nat.le_trans hS.1 (by rw [e1]; exact hz), fun q h1 h2 => by rw [e1, hk q (Nat.lt_of_lt_of_le h1 hS.1) (fun z => h2 (hA q (Nat.lt_of_lt_of_le h1 hS.1) z))]; exact hS.2.1 q h1 h2, fun q hq => by
      rcases List.mem_append.mp hq with h | h
      · exact hS.2.2 q h
      · exact hf _ (hL q h)⟩⟩
theorem vx_calli {S SX : Type} {post : Int32 → S → Prop} {px : SX → Prop} {B : S → State → Prop} {BX : String → SX → State → Prop} {AX : Nat → Prop} (hr : vx_Run p l e R s m args below meth c H locs cells slots mc ms (F0 m pc ls st0) rest (va_Qi post B A1 a) (vx_X px BX AX) free) (hS : va_S A0 H0 H locs) (hA : ∀ q, q < H.size → A1 q → A0 q) (hf : ∀ q, free q → A0 q) (hAX : ∀ q, q < H.size → AX q → A0 q)
    (kx : ∀ (E : String) (ce : Cell) (q9 : Addr) (u : SX) (t : State) (H1 : Heap) (locs1 : List Loc), t.heap = H1 → s.vm.Alike t.vm → px u → BX E u t → H.size ≤ H1.size → (∀ q : Nat, q < H.size → ¬ AX q → H1[q]? = H[q]?) → va_S A0 H0 H1 locs1 → H1[q9]? = some ce → ce.vm = .none → s.vm.findClass E = some ce.cls → vx_W p l e R s m args below meth c H1 locs1 (cells + mc) (slots + ms) Q (F0 m pc ls rest) q9)
    (kk : ∀ (r : Int32) (u : S) (t : State) (H1 : Heap) (locs1 : List Loc), t.heap = H1 → s.vm.Alike t.vm → post r u → B u t → H.size ≤ H1.size → (∀ q : Nat, q < H.size → ¬ A1 q → H1[q]? = H[q]?) → va_S A0 H0 H1 locs1 → W p l e R s m args below meth c H1 locs1 (cells + mc) (slots + ms) Q (F0 m (pc + 3) ls (.int r :: rest))) : W p l e R s m args below meth c H locs cells slots Q (F0 m pc ls st0) := by
  intro T hT X
  rcases hr T hT X with ⟨v, st₀, t, T', L, h0, X', hL, e1, e2, ⟨⟨r, u, hv, hp, hb⟩, hF⟩, st⟩ | ⟨q, st₀, t, T', L, E, ce, h0, X', hL, e1, e2, ⟨u, hp, hb, hF⟩, hce, hcv, hcl, st⟩
  · cases hv
    obtain ⟨k1, k2, k3⟩ := vx_keep h0 e1 hS hA hf hL hF
    obtain ⟨t2, a1, b1⟩ := kk r u t T'.heap (locs ++ L) e1.symm (by rw [← e2]; exact X'.warmed.alike) hp hb k1 k2 k3 T' rfl X'
    exact ⟨t2, st t2 a1, b1⟩
  · obtain ⟨k1, k2, k3⟩ := vx_keep h0 e1 hS hAX hf hL hF
    obtain ⟨t2, a1, b1⟩ := kx E ce q u t T'.heap (locs ++ L) e1.symm (by rw [← e2]; exact X'.warmed.alike) hp hb k1 k2 k3 (by rw [e1]; exact hce) hcv hcl T' rfl X'
    exact ⟨t2, st.trans a1, b1⟩
theorem vx_calll {S SX : Type} {post : Int64 → S → Prop} {px : SX → Prop} {B : S → State → Prop} {BX : String → SX → State → Prop} {AX : Nat → Prop} (hr : vx_Run p l e R s m args below meth c H locs cells slots mc ms (F0 m pc ls st0) rest (va_Ql post B A1 a) (vx_X px BX AX) free) (hS : va_S A0 H0 H locs) (hA : ∀ q, q < H.size → A1 q → A0 q) (hf : ∀ q, free q → A0 q) (hAX : ∀ q, q < H.size → AX q → A0 q)
    (kx : ∀ (E : String) (ce : Cell) (q9 : Addr) (u : SX) (t : State) (H1 : Heap) (locs1 : List Loc), t.heap = H1 → s.vm.Alike t.vm → px u → BX E u t → H.size ≤ H1.size → (∀ q : Nat, q < H.size → ¬ AX q → H1[q]? = H[q]?) → va_S A0 H0 H1 locs1 → H1[q9]? = some ce → ce.vm = .none → s.vm.findClass E = some ce.cls → vx_W p l e R s m args below meth c H1 locs1 (cells + mc) (slots + ms) Q (F0 m pc ls rest) q9)
    (kk : ∀ (r : Int64) (u : S) (t : State) (H1 : Heap) (locs1 : List Loc), t.heap = H1 → s.vm.Alike t.vm → post r u → B u t → H.size ≤ H1.size → (∀ q : Nat, q < H.size → ¬ A1 q → H1[q]? = H[q]?) → va_S A0 H0 H1 locs1 → W p l e R s m args below meth c H1 locs1 (cells + mc) (slots + ms) Q (F0 m (pc + 3) ls (.long r :: rest))) : W p l e R s m args below meth c H locs cells slots Q (F0 m pc ls st0) := by
  intro T hT X
  rcases hr T hT X with ⟨v, st₀, t, T', L, h0, X', hL, e1, e2, ⟨⟨r, u, hv, hp, hb⟩, hF⟩, st⟩ | ⟨q, st₀, t, T', L, E, ce, h0, X', hL, e1, e2, ⟨u, hp, hb, hF⟩, hce, hcv, hcl, st⟩
  · cases hv
    obtain ⟨k1, k2, k3⟩ := vx_keep h0 e1 hS hA hf hL hF
    obtain ⟨t2, a1, b1⟩ := kk r u t T'.heap (locs ++ L) e1.symm (by rw [← e2]; exact X'.warmed.alike) hp hb k1 k2 k3 T' rfl X'
    exact ⟨t2, st t2 a1, b1⟩
  · obtain ⟨k1, k2, k3⟩ := vx_keep h0 e1 hS hAX hf hL hF
    obtain ⟨t2, a1, b1⟩ := kx E ce q u t T'.heap (locs ++ L) e1.symm (by rw [← e2]; exact X'.warmed.alike) hp hb k1 k2 k3 (by rw [e1]; exact hce) hcv hcl T' rfl X'
    exact ⟨t2, st.trans a1, b1⟩
theorem vx_callf {S SX : Type} {post : UInt32 → S → Prop} {px : SX → Prop} {B : S → State → Prop} {BX : String → SX → State → Prop} {AX : Nat → Prop} (hr : vx_Run p l e R s m args below meth c H locs cells slots mc ms (F0 m pc ls st0) rest (va_Qf post B A1 a) (vx_X px BX AX) free) (hS : va_S A0 H0 H locs) (hA : ∀ q, q < H.size → A1 q → A0 q) (hf : ∀ q, free q → A0 q) (hAX : ∀ q, q < H.size → AX q → A0 q)
    (kx : ∀ (E : String) (ce : Cell) (q9 : Addr) (u : SX) (t : State) (H1 : Heap) (locs1 : List Loc), t.heap = H1 → s.vm.Alike t.vm → px u → BX E u t → H.size ≤ H1.size → (∀ q : Nat, q < H.size → ¬ AX q → H1[q]? = H[q]?) → va_S A0 H0 H1 locs1 → H1[q9]? = some ce → ce.vm = .none → s.vm.findClass E = some ce.cls → vx_W p l e R s m args below meth c H1 locs1 (cells + mc) (slots + ms) Q (F0 m pc ls rest) q9)
    (kk : ∀ (r : UInt32) (u : S) (t : State) (H1 : Heap) (locs1 : List Loc), t.heap = H1 → s.vm.Alike t.vm → post r u → B u t → H.size ≤ H1.size → (∀ q : Nat, q < H.size → ¬ A1 q → H1[q]? = H[q]?) → va_S A0 H0 H1 locs1 → W p l e R s m args below meth c H1 locs1 (cells + mc) (slots + ms) Q (F0 m (pc + 3) ls (.float r :: rest))) : W p l e R s m args below meth c H locs cells slots Q (F0 m pc ls st0) := by
  intro T hT X
  rcases hr T hT X with ⟨v, st₀, t, T', L, h0, X', hL, e1, e2, ⟨⟨r, u, hv, hp, hb⟩, hF⟩, st⟩ | ⟨q, st₀, t, T', L, E, ce, h0, X', hL, e1, e2, ⟨u, hp, hb, hF⟩, hce, hcv, hcl, st⟩
  · cases hv
    obtain ⟨k1, k2, k3⟩ := vx_keep h0 e1 hS hA hf hL hF
    obtain ⟨t2, a1, b1⟩ := kk r u t T'.heap (locs ++ L) e1.symm (by rw [← e2]; exact X'.warmed.alike) hp hb k1 k2 k3 T' rfl X'
    exact ⟨t2, st t2 a1, b1⟩
  · obtain ⟨k1, k2, k3⟩ := vx_keep h0 e1 hS hAX hf hL hF
    obtain ⟨t2, a1, b1⟩ := kx E ce q u t T'.heap (locs ++ L) e1.symm (by rw [← e2]; exact X'.warmed.alike) hp hb k1 k2 k3 (by rw [e1]; exact hce) hcv hcl T' rfl X'
    exact ⟨t2, st.trans a1, b1⟩
theorem vx_calld {S SX : Type} {post : UInt64 → S → Prop} {px : SX → Prop} {B : S → State → Prop} {BX : String → SX → State → Prop} {AX : Nat → Prop} (hr : vx_Run p l e R s m args below meth c H locs cells slots mc ms (F0 m pc ls st0) rest (va_Qd post B A1 a) (vx_X px BX AX) free) (hS : va_S A0 H0 H locs) (hA : ∀ q, q < H.size → A1 q → A0 q) (hf : ∀ q, free q → A0 q) (hAX : ∀ q, q < H.size → AX q → A0 q)
    (kx : ∀ (E : String) (ce : Cell) (q9 : Addr) (u : SX) (t : State) (H1 : Heap) (locs1 : List Loc), t.heap = H1 → s.vm.Alike t.vm → px u → BX E u t → H.size ≤ H1.size → (∀ q : Nat, q < H.size → ¬ AX q → H1[q]? = H[q]?) → va_S A0 H0 H1 locs1 → H1[q9]? = some ce → ce.vm = .none → s.vm.findClass E = some ce.cls → vx_W p l e R s m args below meth c H1 locs1 (cells + mc) (slots + ms) Q (F0 m pc ls rest) q9)
    (kk : ∀ (r : UInt64) (u : S) (t : State) (H1 : Heap) (locs1 : List Loc), t.heap = H1 → s.vm.Alike t.vm → post r u → B u t → H.size ≤ H1.size → (∀ q : Nat, q < H.size → ¬ A1 q → H1[q]? = H[q]?) → va_S A0 H0 H1 locs1 → W p l e R s m args below meth c H1 locs1 (cells + mc) (slots + ms) Q (F0 m (pc + 3) ls (.double r :: rest))) : W p l e R s m args below meth c H locs cells slots Q (F0 m pc ls st0) := by
  intro T hT X
  rcases hr T hT X with ⟨v, st₀, t, T', L, h0, X', hL, e1, e2, ⟨⟨r, u, hv, hp, hb⟩, hF⟩, st⟩ | ⟨q, st₀, t, T', L, E, ce, h0, X', hL, e1, e2, ⟨u, hp, hb, hF⟩, hce, hcv, hcl, st⟩
  · cases hv
    obtain ⟨k1, k2, k3⟩ := vx_keep h0 e1 hS hA hf hL hF
    obtain ⟨t2, a1, b1⟩ := kk r u t T'.heap (locs ++ L) e1.symm (by rw [← e2]; exact X'.warmed.alike) hp hb k1 k2 k3 T' rfl X'
    exact ⟨t2, st t2 a1, b1⟩
  · obtain ⟨k1, k2, k3⟩ := vx_keep h0 e1 hS hAX hf hL hF
    obtain ⟨t2, a1, b1⟩ := kx E ce q u t T'.heap (locs ++ L) e1.symm (by rw [← e2]; exact X'.warmed.alike) hp hb k1 k2 k3 (by rw [e1]; exact hce) hcv hcl T' rfl X'
    exact ⟨t2, st.trans a1, b1⟩
theorem vx_callv {S SX : Type} {post : S → Prop} {px : SX → Prop} {B : S → State → Prop} {BX : String → SX → State → Prop} {AX : Nat → Prop} (hr : vx_Run p l e R s m args below meth c H locs cells slots mc ms (F0 m pc ls st0) rest (va_Qv post B A1 a) (vx_X px BX AX) free) (hS : va_S A0 H0 H locs) (hA : ∀ q, q < H.size → A1 q → A0 q) (hf : ∀ q, free q → A0 q) (hAX : ∀ q, q < H.size → AX q → A0 q)
    (kx : ∀ (E : String) (ce : Cell) (q9 : Addr) (u : SX) (t : State) (H1 : Heap) (locs1 : List Loc), t.heap = H1 → s.vm.Alike t.vm → px u → BX E u t → H.size ≤ H1.size → (∀ q : Nat, q < H.size → ¬ AX q → H1[q]? = H[q]?) → va_S A0 H0 H1 locs1 → H1[q9]? = some ce → ce.vm = .none → s.vm.findClass E = some ce.cls → vx_W p l e R s m args below meth c H1 locs1 (cells + mc) (slots + ms) Q (F0 m pc ls rest) q9)
    (kk : ∀ (u : S) (t : State) (H1 : Heap) (locs1 : List Loc), t.heap = H1 → s.vm.Alike t.vm → post u → B u t → H.size ≤ H1.size → (∀ q : Nat, q < H.size → ¬ A1 q → H1[q]? = H[q]?) → va_S A0 H0 H1 locs1 → W p l e R s m args below meth c H1 locs1 (cells + mc) (slots + ms) Q (F0 m (pc + 3) ls (rest))) : W p l e R s m args below meth c H locs cells slots Q (F0 m pc ls st0) := by
  intro T hT X
  rcases hr T hT X with ⟨v, st₀, t, T', L, h0, X', hL, e1, e2, ⟨⟨u, hv, hp, hb⟩, hF⟩, st⟩ | ⟨q, st₀, t, T', L, E, ce, h0, X', hL, e1, e2, ⟨u, hp, hb, hF⟩, hce, hcv, hcl, st⟩
  · cases hv
    obtain ⟨k1, k2, k3⟩ := vx_keep h0 e1 hS hA hf hL hF
    obtain ⟨t2, a1, b1⟩ := kk u t T'.heap (locs ++ L) e1.symm (by rw [← e2]; exact X'.warmed.alike) hp hb k1 k2 k3 T' rfl X'
    exact ⟨t2, st t2 a1, b1⟩
  · obtain ⟨k1, k2, k3⟩ := vx_keep h0 e1 hS hAX hf hL hF
    obtain ⟨t2, a1, b1⟩ := kx E ce q u t T'.heap (locs ++ L) e1.symm (by rw [← e2]; exact X'.warmed.alike) hp hb k1 k2 k3 (by rw [e1]; exact hce) hcv hcl T' rfl X'
    exact ⟨t2, st.trans a1, b1⟩
/-- caught by the row x of this method's table; the rows ahead don't take it -/
theorem vx_catch {own name : String} {E : String} {ce : Cell} {q : Addr} (hown : s.vm.findClass own = some m.cls) (pre : List ExceptionTableEntry) (x : ExceptionTableEntry) (suf : List ExceptionTableEntry) (hsplit : c.exceptionTable.toList = pre ++ x :: suf)
    (hpass : ∀ z ∈ pre, covers z pc = false ∨ (z.catchType ≠ 0 ∧ ∃ nm : String, (Cond.classLink own z.catchType nm).before args s = true ∧ va_Nc E nm s)) (hx : covers x pc = true) (h0 : x.catchType ≠ 0)
    (hlink : (Cond.classLink own x.catchType name).before args s = true) (hcast : (Cond.castable E name).before args s = true) (hcell : H[q]? = some ce) (hv : ce.vm = .none) (hcl : s.vm.findClass E = some ce.cls)
    (kk : W p l e R s m args below meth c H locs cells slots Q (F0 m x.handlerPc ls [.ref q])) : vx_W p l e R s m args below meth c H locs cells slots Q (F0 m pc ls rest) q := by
  intro T hT X
  have hpl : e.platform.magicAccessors = ({} : Platform).magicAccessors := by rw [X.admits.platform]
  obtain ⟨c3, c4, hc3, hc4, hasg⟩ := Cond.castable_spec hcast
  cases Option.some.inj (hc3.symm.trans hcl)
  obtain ⟨c5, hc5, hcl5⟩ := Cond.classLink_spec hown hlink e.platform hpl
  cases Option.some.inj (hc4.symm.trans hc5)
  obtain ⟨vm', X', st⟩ := X.thenCaughtThrough q (g := F0 m pc ls rest) rfl (Steps.refl _) (by rw [hT]; exact hcell) (by rw [hv]; rfl) (by obtain ⟨k9, h9, -⟩ := Vm.findClass_spec hcl; exact ⟨k9, h9⟩) pre x suf hsplit
    (fun z hz => by
      rcases hpass z hz with h | ⟨hz0, nm, hl1, hn1⟩
      · exact Or.inl h
      · obtain ⟨c6, hc6, hcl6⟩ := Cond.classLink_spec hown hl1 e.platform hpl
        obtain ⟨a8, b8, h1, h2, h3⟩ := hn1
        cases Option.some.inj (h1.symm.trans hcl)
        cases Option.some.inj (h2.symm.trans hc6)
        exact Or.inr ⟨hz0, _, hcl6, h3⟩) hx (Or.inr ⟨h0, c4, hcl5, hasg⟩)
  obtain ⟨t, a1, b1⟩ := kk (T.setVm vm') hT X'
  exact ⟨t, st.trans a1, b1⟩
end Rows
section Ends
variable {p : Program} {l : Launch} {e : Env} {R : Room} {s : State} {m : MethodId} {args : Array Value} {below : List Frame} {meth : Method} {c : Code} {H : Heap} {locs : List Loc} {cells slots : Nat} {Q : State → Prop}
variable {mc ms : Nat} {free : Addr → Prop} {A0 A1 : Nat → Prop} {H0 : Heap} {a : Array Value} {ls : Array Slot} {st0 rest : List Value}
variable {Qc : Array Value → State → Outcome → State → Prop} {XC : String → State → State → Prop}
/-- what a body that may throw owes at its end -/
def vx_MQ (below : List Frame) (Qc : Array Value → State → Outcome → State → Prop) (XC : String → State → State → Prop) (a : Array Value) (s : State) (mc ms : Nat) (free : Addr → Prop) : State → Prop := fun t =>
  ∃ o, t.status = .running ∧ Ended t below o ∧ vx_Q Qc XC mc ms free a s o t
theorem vx_ret {g : JFrame} {mc ms : Nat} (k : W p l e R s m args below meth c H locs cells slots (MQ below Qc args s mc ms free) g) : W p l e R s m args below meth c H locs cells slots (vx_MQ below Qc XC args s mc ms free) g := by
  intro T hT X
  obtain ⟨t, a1, o, b1, b2, b3, b4⟩ := k T hT X
  exact ⟨t, a1, o, b1, b2, Or.inl ⟨b3, b4⟩⟩
/-- not caught here: it goes on to the caller -/
theorem vx_widen {g : JFrame} {q : Addr} {k n : Nat} (h1 : cells ≤ k) (h2 : slots ≤ n) (kk : vx_W p l e R s m args below meth c H locs k n Q g q) : vx_W p l e R s m args below meth c H locs cells slots Q g q := fun T hT X => kk T hT (stand_widen X h1 h2)
theorem vx_out {pc : Nat} {E : String} {ce : Cell} {q : Addr} {mc ms : Nat} (hout : ∀ x ∈ c.exceptionTable.toList, covers x pc = false) (hlocks : meth.locks = false) (hcell : H[q]? = some ce) (hv : ce.vm = .none) (hcl : s.vm.findClass E = some ce.cls)
    (hx : ∀ t : State, t.heap = H → s.vm.Alike t.vm → XC E s t) (hf : ∀ z ∈ locs, free z.base) (hc : cells ≤ mc) (hs : slots ≤ ms) :
    vx_W p l e R s m args below meth c H locs cells slots (vx_MQ below Qc XC args s mc ms free) (F0 m pc ls rest) q := by
  intro T hT X
  obtain ⟨st1, hrun, hend, hW, hsm⟩ := X.leaveThrown q (g := F0 m pc ls rest) rfl rfl rfl hout hlocks
  have hcell9 : (T.setFrames (.throwing q :: below)).heap[q]? = some ce := by
    show T.heap[q]? = some ce
    rw [hT]; exact hcell
  exact ⟨_, st1, .threw q, hrun, hend, Or.inr ⟨q, rfl, E, ce, locs, hx _ hT hW.alike, hcell9, hv, hcl, hW, hsm.mono hc hs, hf⟩⟩
theorem vx_frame {U : State} {k n : Nat} (h : s.sameButNew ({ U with vm := s.vm } : State) locs k n) : s.heap.size ≤ U.heap.size ∧ ∀ q : Nat, q < s.heap.size → (∀ z ∈ locs, z.base ≠ q) → U.heap[q]? = s.heap[q]? := by
  obtain ⟨-, h2, -, -, -, h6⟩ := h
  refine ⟨h2, fun q hq hz => ?_⟩
  obtain ⟨c9, e1, e2, e3, e4⟩ := h6 q _ (Array.getElem?_eq_getElem hq)
  have hs : c9.slots = (s.heap[q]).slots := Array.ext_getElem? fun i => e4 i fun hm => hz _ hm rfl
  have h9 : c9 = s.heap[q] := by
    rw [hs] at e2
    exact e2
  have e5 : U.heap[q]? = some c9 := e1
  rw [e5, h9, Array.getElem?_eq_getElem hq]
/-- the words of a throw but the four that speak of the heap -/
def vx_no (w : Cond) : Bool := decide (w ≠ .isRef (.static Bundle.tN "UNASSIGNED_STACK" Bundle.steD)) && decide (w ≠ .isRef (.static Bundle.tN "SUPPRESSED_SENTINEL" Bundle.listD)) && decide (w ≠ .laysStatic Bundle.tN "UNASSIGNED_STACK" Bundle.steD) && decide (w ≠ .laysStatic Bundle.tN "SUPPRESSED_SENTINEL" Bundle.listD)
def vx_at0 (own : String) (ic : Nat) (X : String) (names : List String) : List Cond := (Bundle.ownAtoms0 own ic X names).filter vx_no
def vx_atS (own : String) (ic : Nat) (X : String) (names : List String) : List Cond := (Bundle.ownAtoms own ic X names).filter vx_no
/-- a word that the tables alone decide, or a good one -/
def vx_ot (w : Cond) : Bool := w.onTables || goodWord w
theorem vx_ot_at {args a' : Array Value} {s U : State} {w : Cond} (hW : s.WarmedH U.vm) (hvm : s.vm = U.vm) (hg : vx_ot w = true) (h : w.before args s = true) : w.before a' U = true := by
  simp only [vx_ot, Bool.or_eq_true] at hg
  rcases hg with hg | hg
  · exact va_tabs hg hvm h
  · exact word_at hW (good_of_word hg) h
/-- a list's words: the good ones out of the method's own list, the others by premises of their own -/
theorem vx_hat {args : Array Value} {s : State} {L B : List Cond} (h1 : ∀ w ∈ L.filter goodWord, w.before args s = true) (h2 : ∀ w ∈ L.filter (fun w => !goodWord w), w ∈ B) (h3 : ∀ w ∈ B, w.before args s = true) : ∀ w ∈ L, w.before args s = true := by
  intro w hw
  by_cases g : goodWord w = true
  · exact h1 w (List.mem_filter.mpr ⟨hw, g⟩)
  · refine h3 w (h2 w (List.mem_filter.mpr ⟨hw, ?_⟩))
    show (!goodWord w) = true
    cases hgw : goodWord w
    · rfl
    · exact absurd hgw g
theorem vx_c {args : Array Value} {s : State} {w : Cond} {B : List Cond} (h : w.before args s = true) (t : ∀ w ∈ B, w.before args s = true) : ∀ w' ∈ w :: B, w'.before args s = true := fun w' h' => (List.mem_cons.mp h').elim (fun e => by rw [e]; exact h) (t w')
theorem vx_n {args : Array Value} {s : State} : ∀ w ∈ ([] : List Cond), w.before args s = true := fun _ h => nomatch h
theorem vx_own {args : Array Value} {s : State} {L : List Cond} (h1 : ∀ w ∈ L.filter vx_no, w.before args s = true)
    (hU : (Cond.isRef (.static Bundle.tN "UNASSIGNED_STACK" Bundle.steD)).before args s = true) (hN : (Cond.isRef (.static Bundle.tN "SUPPRESSED_SENTINEL" Bundle.listD)).before args s = true)
    (lU : (Cond.laysStatic Bundle.tN "UNASSIGNED_STACK" Bundle.steD).before args s = true) (lN : (Cond.laysStatic Bundle.tN "SUPPRESSED_SENTINEL" Bundle.listD).before args s = true) : ∀ w ∈ L, w.before args s = true := by
  intro w hw
  by_cases e1 : w = .isRef (.static Bundle.tN "UNASSIGNED_STACK" Bundle.steD)
  · rw [e1]; exact hU
  · by_cases e2 : w = .isRef (.static Bundle.tN "SUPPRESSED_SENTINEL" Bundle.listD)
    · rw [e2]; exact hN
    · by_cases e3 : w = .laysStatic Bundle.tN "UNASSIGNED_STACK" Bundle.steD
      · rw [e3]; exact lU
      · by_cases e4 : w = .laysStatic Bundle.tN "SUPPRESSED_SENTINEL" Bundle.listD
        · rw [e4]; exact lN
        · exact h1 w (List.mem_filter.mpr ⟨hw, by unfold vx_no; rw [decide_eq_true e1, decide_eq_true e2, decide_eq_true e3, decide_eq_true e4]; rfl⟩)
/-- where a static field lies, its class's statics cell in H -/
def vx_L (C n d : String) (A : Nat → Prop) (U : State) (H : Heap) : Prop := ∃ (c : ClassId) (k : Class) (i : Nat) (f : Field) (a : Nat) (cell : Cell), U.vm.findClass C = some c ∧ U.fieldFound? C n d = some (c, k, i, f) ∧ f.isStatic = true ∧ k.statics = some a ∧ H[a]? = some cell ∧ cell.vm.isStatics = true ∧ cell.cls = c ∧ f.slot < cell.slots.size ∧ k.staticTypes[f.slot]? = some f.type ∧ ¬ A a
theorem vx_L.moved {C n d : String} {A : Nat → Prop} {u U : State} {H : Heap} (hvm : u.vm.Alike U.vm) (h : vx_L C n d A u H) : vx_L C n d A U H := by
  obtain ⟨c, k, i, f, a, cell, h1, h2, h3, h4, h5, h6, h7, h8, h9, h10⟩ := h
  obtain ⟨k', hi', he⟩ := State.fieldFound?_setVm hvm h2
  exact ⟨c, k', i, f, a, cell, by rw [hvm.findClass]; exact h1, hi', h3, by rw [he]; exact h4, h5, h6, h7, h8, by rw [he]; exact h9, h10⟩
theorem vx_L.kept {C n d : String} {A : Nat → Prop} {U : State} {H H1 : Heap} (h : vx_L C n d A U H) (hq : ∀ a : Nat, a < H.size → ¬ A a → H1[a]? = H[a]?) : vx_L C n d A U H1 := by
  obtain ⟨c, k, i, f, a, cell, h1, h2, h3, h4, h5, h6, h7, h8, h9, h10⟩ := h
  exact ⟨c, k, i, f, a, cell, h1, h2, h3, h4, by rw [hq a (Array.getElem?_eq_some_iff.mp h5).1 h10]; exact h5, h6, h7, h8, h9, h10⟩
theorem vx_L.narrow {C n d : String} {A B : Nat → Prop} {U : State} {H : Heap} (h : vx_L C n d A U H) (hAB : ∀ q, B q → A q) : vx_L C n d B U H := by
  obtain ⟨c, k, i, f, a, cell, h1, h2, h3, h4, h5, h6, h7, h8, h9, h10⟩ := h
  exact ⟨c, k, i, f, a, cell, h1, h2, h3, h4, h5, h6, h7, h8, h9, fun z => h10 (hAB _ z)⟩
theorem vx_L.word {C n d : String} {A : Nat → Prop} {s : State} {args : Array Value} (h : vx_L C n d A s s.heap) : (Cond.laysStatic C n d).before args s = true := by
  obtain ⟨c, k, i, f, a, cell, h1, h2, h3, h4, h5, h6, h7, h8, h9, -⟩ := h
  show (Cond.laysStatic C n d).holds args s none s [] = true
  exact Cond.laysStatic_of h1 h2 h3 h4 h5 h6 h7 h8 h9
/-- .. and what it holds: null or some reference -/
def vx_Zq (C n d : String) (A : Nat → Prop) (U : State) (H : Heap) : Prop := va_Zq C n d A U H ∧ vx_L C n d A U H
theorem vx_Zq.moved {C n d : String} {A : Nat → Prop} {u U : State} {H : Heap} (hvm : u.vm.Alike U.vm) (h : vx_Zq C n d A u H) : vx_Zq C n d A U H := ⟨va_Zq.moved hvm h.1, vx_L.moved hvm h.2⟩
theorem vx_Zq.kept {C n d : String} {A : Nat → Prop} {U : State} {H H1 : Heap} (h : vx_Zq C n d A U H) (hq : ∀ a : Nat, a < H.size → ¬ A a → H1[a]? = H[a]?) : vx_Zq C n d A U H1 := ⟨va_Zq.kept h.1 hq, vx_L.kept h.2 hq⟩
theorem vx_Zq.narrow {C n d : String} {A B : Nat → Prop} {U : State} {H : Heap} (h : vx_Zq C n d A U H) (hAB : ∀ q, B q → A q) : vx_Zq C n d B U H := ⟨va_Zq.narrow h.1 hAB, vx_L.narrow h.2 hAB⟩
theorem vx_Zqof {args : Array Value} {s : State} {C n d : String} {A : Nat → Prop} (hl : (Cond.laysStatic C n d).before args s = true) (hini : (Cond.initialized C).before args s = true) (h : (Cond.isRef (.static C n d)).before args s = true) (hA : ∀ a : Nat, a < s.heap.size → ¬ A a) : vx_Zq C n d A s s.heap := by
  refine ⟨va_Zqof hl hini h hA, ?_⟩
  obtain ⟨c, k, i, f, a, cell, h1, h2, h3, h4, h5, h6, h7, h8, h9⟩ := Cond.laysStatic_spec hl
  exact ⟨c, k, i, f, a, cell, h1, h2, h3, h4, h5, h6, h7, h8, h9, hA a (Array.getElem?_eq_some_iff.mp h5).1⟩
theorem vx_isRef {C n d : String} {v : Value} {A : Nat → Prop} {s : State} {args : Array Value} (h : va_Z C n d v A s s.heap) (hv : v.isRef = true) : (Cond.isRef (.static C n d)).before args s = true := by
  obtain ⟨cf, kf, fi, f, a, cell, h1, h2, h3, h4, h5, h6, h7, -⟩ := h
  have he : (Term.static C n d).eval args s none [] s = some v := by
    simp [Term.eval, State.fieldNamed?, h1, h2, h4, h5, h6, h7]
  simp only [Cond.before, Cond.holds, Cond.value, he]
  cases v <;> simp_all [Value.isRef]
theorem vx_isRefq {C n d : String} {A : Nat → Prop} {s : State} {args : Array Value} (h : va_Zq C n d A s s.heap) : (Cond.isRef (.static C n d)).before args s = true := by
  rcases h with h | ⟨t, h⟩
  · exact vx_isRef h rfl
  · exact vx_isRef h rfl
/-- the same frame, seen from here: as if the method were called anew in this heap -/
theorem vx_rebase {T : State} (X : Stand p l e R s m args below meth c T locs cells slots) {R' : Room} (hf : R'.frames ≤ R.frames) (hl : R'.locals ≤ R.locals) (hc : cells + R'.cells ≤ R.cells) (hs : slots + R'.slots ≤ R.slots) :
    Stand p l e R' ((T.setVm s.vm).setFrames (.invoking m args :: below)) m args below meth c T [] 0 0 := by
  have htop : (T.setVm s.vm).topJava?.isSome := X.here.top
  have hF : ((T.setVm s.vm).setFrames (.invoking m args :: below)).frames = .invoking m args :: below := State.frames_setFrames _ (State.cur_lt_of_top htop)
  obtain ⟨g₀, hg0⟩ := Option.isSome_iff_exists.mp htop
  obtain ⟨r, hr⟩ := State.topJava?_eq_some.mp hg0
  have hl9 : e.platform.stackLimits (T.setVm s.vm).me = e.platform.stackLimits s.me := X.limits
  have hb9 : (T.setVm s.vm).me.stackBytes = s.me.stackBytes := X.bytes
  refine ⟨X.admits, X.cas, X.clock, hF, ?_, X.hears, X.method, X.code, X.here, X.tail, X.warmed, ?_, ?_, ?_⟩
  · have h := X.room
    have hU : ((T.setVm s.vm).setFrames (.invoking m args :: below)).localsInUse = s.localsInUse := by
      rw [State.localsInUse_invoking hF (meth := meth) (c := c) X.method X.code, State.localsInUse_invoking X.frames X.method X.code]
    simp only [State.hasRoom, Bool.and_eq_true, decide_eq_true_eq] at h ⊢
    obtain ⟨⟨⟨⟨h1, h2, h3, h4, h5, h6⟩, h7⟩, h8⟩, h9⟩ := h
    rw [X.frames, List.length_cons] at h2 h3
    have q1 := X.heapSize
    have q2 := X.used
    simp only [hF, hU, List.length_cons, State.stackLimits_setFrames, State.stackBytes_setFrames, hl9, hb9]
    refine ⟨⟨⟨⟨by omega, by omega, by omega, by omega, by omega, h6⟩, ?_⟩, ?_⟩, X.book⟩
    · show T.heap.size + R'.cells ≤ e.platform.maxCells
      omega
    · show T.slotsUsed + R'.slots ≤ e.platform.maxSlots
      omega
  · rw [State.stackLimits_setFrames]; rfl
  · rw [State.stackBytes_setFrames]; rfl
  · refine ⟨?_, Nat.le_refl _, Nat.le_refl _, ?_, ?_, fun a c9 h9 => ⟨c9, h9, rfl, rfl, fun _ _ => rfl⟩⟩
    · obtain ⟨t, ht, -⟩ := State.frames_cons hr
      show T.setVm s.vm = { ((T.setVm s.vm).setFrames (.invoking m args :: below)).setFrames (T.setVm s.vm).frames with heap := T.heap, slotsUsed := T.slotsUsed }
      rw [State.setFrames_setFrames, State.setFrames_self ht]
      rfl
    · show T.slotsUsed = T.slotsUsed + ((T.heap.toList.drop T.heap.size).map (·.slots.size)).sum
      rw [List.drop_eq_nil_of_le (Nat.le_of_eq Array.length_toList)]
      rfl
    · show ((T.heap.toList.drop T.heap.size).map (·.slots.size)).sum ≤ 0
      rw [List.drop_eq_nil_of_le (Nat.le_of_eq Array.length_toList)]
      exact Nat.le_refl _
/-- 'throw new E()': new; dup; invokespecial; athrow -/
theorem vx_throw0 {cc : ByteArray} {pc : Nat} (hexec : p.tables.exec = Jvm.exec) (hb : c.code = cc) (hl : l.stackTraces = false) {own cls : String} {names : List String} {ik ic mc ms : Nat} {A : Nat → Prop}
    (hown : s.vm.findClass own = some m.cls) (hcls : Bundle.fit cls = true) (hnames : ∀ n ∈ names, Bundle.fit n = true)
    (hk : (Cond.classLink own ik cls).before args s = true) (hini : (Cond.initialized cls).before args s = true) (hat : ∀ w ∈ vx_at0 own ic cls names, w.before args s = true)
    (hgood : ∀ w ∈ Cond.classLink own ik cls :: Cond.initialized cls :: vx_at0 own ic cls names, vx_ot w = true)
    (hU : vx_Zq Bundle.tN "UNASSIGNED_STACK" Bundle.steD A s s.heap) (hN : vx_Zq Bundle.tN "SUPPRESSED_SENTINEL" Bundle.listD A s s.heap) (hS : va_S A s.heap H locs) (hsize : ls.size = c.maxLocals)
    (d0 : decode cc pc = .ok (.new ik, 3)) (d3 : decode cc (pc + 3) = .ok (.dup, 1)) (d4 : decode cc (pc + 4) = .ok (.invokespecial ic, 3)) (d7 : decode cc (pc + 7) = .ok (.athrow, 1))
    (hout : ∀ x ∈ c.exceptionTable.toList, covers x (pc + 7) = false)
    (hRframes : names.length + 3 < R.frames) (hRlocals : (rest.map fun v => v.category).sum + (13 * (names.length + 1) + 42) ≤ R.locals) (hRcells : cells + 1 ≤ R.cells) (hRslots : slots + 6 ≤ R.slots) (hlocks : meth.locks = false)
    (hx : ∀ t : State, s.vm.Alike t.vm → H.size ≤ t.heap.size → (∀ q : Nat, q < H.size → t.heap[q]? = H[q]?) → XC cls s t)
    (hf : ∀ z ∈ locs, free z.base) (hc : cells + 1 ≤ mc) (hs : slots + 6 ≤ ms) :
    W p l e R s m args below meth c H locs cells slots (vx_MQ below Qc XC args s mc ms free) (F0 m pc ls rest) := by
  intro T hT X
  have htr : e.platform.stackTraces = false := (show e.platform.stackTraces = l.stackTraces by rw [X.admits.platform]).trans hl
  have Y := vx_rebase X (R' := { frames := R.frames, locals := R.locals, cells := 1, slots := 6 }) (Nat.le_refl _) (Nat.le_refl _) hRcells hRslots
  obtain ⟨s', hA⟩ : ∃ z, z = (T.setVm s.vm).setFrames (.invoking m args :: below) := ⟨_, rfl⟩
  rw [← hA] at Y
  have hvm : s'.vm = s.vm := by rw [hA]; rfl
  have hhp : s'.heap = H := by rw [hA]; exact hT
  have hW0 : s.WarmedH s'.vm := by rw [hvm]; exact State.WarmedH.refl s
  have hat' : ∀ w ∈ vx_at0 own ic cls names, w.before args s' = true := fun w hw => vx_ot_at hW0 hvm.symm (hgood w (List.mem_cons_of_mem _ (List.mem_cons_of_mem _ hw))) (hat w hw)
  have hk' : (Cond.classLink own ik cls).before args s' = true := vx_ot_at hW0 hvm.symm (hgood _ List.mem_cons_self) hk
  have hini' : (Cond.initialized cls).before args s' = true := vx_ot_at hW0 hvm.symm (hgood _ (List.mem_cons_of_mem _ List.mem_cons_self)) hini
  have hU' : vx_Zq Bundle.tN "UNASSIGNED_STACK" Bundle.steD A s' s'.heap := by rw [hhp]; exact vx_Zq.moved hW0.alike (hU.kept hS.2.1)
  have hN' : vx_Zq Bundle.tN "SUPPRESSED_SENTINEL" Bundle.listD A s' s'.heap := by rw [hhp]; exact vx_Zq.moved hW0.alike (hN.kept hS.2.1)
  have h : ∀ w ∈ Bundle.ownAtoms0 own ic cls names, w.before args s' = true := vx_own hat' (vx_isRefq hU'.1) (vx_isRefq hN'.1) hU'.2.word hN'.2.word
  have hown' : s'.vm.findClass own = some m.cls := by rw [hvm]; exact hown
  have hins : (Cond.instantiable cls 6).before args s' = true := h _ (by simp [Bundle.ownAtoms0])
  obtain ⟨vm₁, cX, kX, hfX, hkX, -, -, X₁, st1⟩ := Y.newCold hexec (own := own) (C := cls) (index := ik) (n := 6) hown' hk' hins hini'
    (g := F0 m pc ls rest) rfl (by rw [hb]; exact d0) (Nat.le_refl _) (Nat.le_refl _)
  generalize hT1 : (T.setVm vm₁).pushCell { cls := cX, slots := kX.instanceTypes.map defaultValue, vm := .none } = T1 at X₁ st1
  have hcat : (Value.ref T.heap.size).category = 1 := rfl
  have hcellA : T1.heap[T.heap.size]? = some (freshCell cX kX) := by rw [← hT1]; exact State.heap_pushCell_size _ _
  have d3' : decode c.code (pc + 3) = .ok (.dup, 1) := by rw [hb]; exact d3
  obtain ⟨U, hsteps, hrun, hend, hW, hsame, ce, hce, hO⟩ := X₁.ctorThrow0 hexec htr (own := own) (cls := cls) (names := names) (ic := ic) hown' hcls hnames h (fun x hx => nomatch hx) hfX hkX hcellA (by rw [hhp, hT]; exact Nat.le_refl _)
    (g := { method := m, pc := pc + 4, locals := ls, stack := .ref T.heap.size :: .ref T.heap.size :: rest, locked := none }) rfl hsize rfl rfl (rest := rest) rfl
    (by rw [hb]; exact d4) (by rw [hb]; exact d7) hout hRframes (by simp only [List.map_cons, List.sum_cons, hcat]; omega) hlocks
  obtain ⟨f1, f2⟩ := vx_frame hsame
  rw [hhp] at f1 f2
  have hWs : s.WarmedH U.vm := State.WarmedH.trans hW0 hW
  have hcl : s.vm.findClass cls = some ce.cls := by
    have h9 := hO.cls
    rw [hvm] at h9
    exact h9
  have hall : s.sameButNew ({ U with vm := s.vm } : State) locs mc ms := by
    subst hA
    obtain ⟨e1, e2⟩ := hsame
    rw [State.setFrames_setFrames] at e1
    have h2 : (T.setVm s.vm).sameButNew ({ U with vm := s.vm } : State) [] (0 + 1) (0 + 6) := ⟨e1, e2⟩
    have h3 := X.same.trans h2
    rw [List.append_nil] at h3
    exact h3.mono hc hs
  refine ⟨U, ?_, .threw T.heap.size, hrun, hend, Or.inr ⟨T.heap.size, rfl, cls, ce, locs, hx U hWs.alike f1 (fun q hq => f2 q hq (fun z hz => nomatch hz)), hce, hO.vm, hcl, hWs, hall, hf⟩⟩
  refine st1 _ ?_
  show Steps p.tables e below (T1.setTop { method := m, pc := pc + 3, locals := ls, stack := .ref T.heap.size :: rest, locked := none }) _
  jvm_step X₁.here [X₁.here.top, hexec, d3', Value.category]
  exact hsteps
/-- 'throw new E("text")': new; dup; ldc; invokespecial; athrow -/
theorem vx_throwS {cc : ByteArray} {pc : Nat} (hexec : p.tables.exec = Jvm.exec) (hb : c.code = cc) (hl : l.stackTraces = false) {own cls text : String} {names : List String} {ik is ic mc ms sa : Nat} {A : Nat → Prop}
    (hown : s.vm.findClass own = some m.cls) (hcls : Bundle.fit cls = true) (hnames : ∀ n ∈ names, Bundle.fit n = true)
    (hk : (Cond.classLink own ik cls).before args s = true) (hini : (Cond.initialized cls).before args s = true) (hstr : vk_R own is text sa s) (hat : ∀ w ∈ vx_atS own ic cls names, w.before args s = true)
    (hgood : ∀ w ∈ Cond.classLink own ik cls :: Cond.initialized cls :: vx_atS own ic cls names, vx_ot w = true)
    (hU : vx_Zq Bundle.tN "UNASSIGNED_STACK" Bundle.steD A s s.heap) (hN : vx_Zq Bundle.tN "SUPPRESSED_SENTINEL" Bundle.listD A s s.heap) (hS : va_S A s.heap H locs) (hsize : ls.size = c.maxLocals)
    (d0 : decode cc pc = .ok (.new ik, 3)) (d3 : decode cc (pc + 3) = .ok (.dup, 1)) (d4 : decode cc (pc + 4) = .ok (.ldc is, 2)) (d6 : decode cc (pc + 6) = .ok (.invokespecial ic, 3)) (d9 : decode cc (pc + 9) = .ok (.athrow, 1))
    (hout : ∀ x ∈ c.exceptionTable.toList, covers x (pc + 9) = false)
    (hRframes : names.length + 3 < R.frames) (hRlocals : (rest.map fun v => v.category).sum + (13 * (names.length + 1) + 43) ≤ R.locals) (hRcells : cells + 1 ≤ R.cells) (hRslots : slots + 6 ≤ R.slots) (hlocks : meth.locks = false)
    (hx : ∀ t : State, s.vm.Alike t.vm → H.size ≤ t.heap.size → (∀ q : Nat, q < H.size → t.heap[q]? = H[q]?) → XC cls s t)
    (hf : ∀ z ∈ locs, free z.base) (hc : cells + 1 ≤ mc) (hs : slots + 6 ≤ ms) :
    W p l e R s m args below meth c H locs cells slots (vx_MQ below Qc XC args s mc ms free) (F0 m pc ls rest) := by
  intro T hT X
  have htr : e.platform.stackTraces = false := (show e.platform.stackTraces = l.stackTraces by rw [X.admits.platform]).trans hl
  have Y := vx_rebase X (R' := { frames := R.frames, locals := R.locals, cells := 1, slots := 6 }) (Nat.le_refl _) (Nat.le_refl _) hRcells hRslots
  obtain ⟨s', hA⟩ : ∃ z, z = (T.setVm s.vm).setFrames (.invoking m args :: below) := ⟨_, rfl⟩
  rw [← hA] at Y
  have hvm : s'.vm = s.vm := by rw [hA]; rfl
  have hhp : s'.heap = H := by rw [hA]; exact hT
  have hW0 : s.WarmedH s'.vm := by rw [hvm]; exact State.WarmedH.refl s
  have hat' : ∀ w ∈ vx_atS own ic cls names, w.before args s' = true := fun w hw => vx_ot_at hW0 hvm.symm (hgood w (List.mem_cons_of_mem _ (List.mem_cons_of_mem _ hw))) (hat w hw)
  have hk' : (Cond.classLink own ik cls).before args s' = true := vx_ot_at hW0 hvm.symm (hgood _ List.mem_cons_self) hk
  have hini' : (Cond.initialized cls).before args s' = true := vx_ot_at hW0 hvm.symm (hgood _ (List.mem_cons_of_mem _ List.mem_cons_self)) hini
  have hU' : vx_Zq Bundle.tN "UNASSIGNED_STACK" Bundle.steD A s' s'.heap := by rw [hhp]; exact vx_Zq.moved hW0.alike (hU.kept hS.2.1)
  have hN' : vx_Zq Bundle.tN "SUPPRESSED_SENTINEL" Bundle.listD A s' s'.heap := by rw [hhp]; exact vx_Zq.moved hW0.alike (hN.kept hS.2.1)
  have h : ∀ w ∈ Bundle.ownAtoms own ic cls names, w.before args s' = true := vx_own hat' (vx_isRefq hU'.1) (vx_isRefq hN'.1) hU'.2.word hN'.2.word
  have hown' : s'.vm.findClass own = some m.cls := by rw [hvm]; exact hown
  have hins : (Cond.instantiable cls 6).before args s' = true := h _ (by simp [Bundle.ownAtoms])
  obtain ⟨vm₁, cX, kX, hfX, hkX, -, -, X₁, st1⟩ := Y.newCold hexec (own := own) (C := cls) (index := ik) (n := 6) hown' hk' hins hini'
    (g := F0 m pc ls rest) rfl (by rw [hb]; exact d0) (Nat.le_refl _) (Nat.le_refl _)
  generalize hT1 : (T.setVm vm₁).pushCell { cls := cX, slots := kX.instanceTypes.map defaultValue, vm := .none } = T1 at X₁ st1
  have hcat : (Value.ref T.heap.size).category = 1 := rfl
  have hcellA : T1.heap[T.heap.size]? = some (freshCell cX kX) := by rw [← hT1]; exact State.heap_pushCell_size _ _
  have d3' : decode c.code (pc + 3) = .ok (.dup, 1) := by rw [hb]; exact d3
  have d4' : decode c.code (pc + 4) = .ok (.ldc is, 2) := by rw [hb]; exact d4
  have hstr' : vk_R own is text sa s' := vk_R.warm hW0 hstr
  obtain ⟨U, hsteps, hrun, hend, hW, hsame, ce, hce, hO⟩ := X₁.ctorThrowS hexec htr (own := own) (cls := cls) (names := names) (ic := ic) hown' hcls hnames h (fun x hx => nomatch hx) hfX hkX hcellA (by rw [hhp, hT]; exact Nat.le_refl _) (msg := .ref sa) rfl
    (g := { method := m, pc := pc + 6, locals := ls, stack := .ref sa :: .ref T.heap.size :: .ref T.heap.size :: rest, locked := none }) rfl hsize rfl rfl (rest := rest) rfl
    (by rw [hb]; exact d6) (by rw [hb]; exact d9) hout hRframes (by simp only [List.map_cons, List.sum_cons, hcat]; omega) hlocks
  obtain ⟨f1, f2⟩ := vx_frame hsame
  rw [hhp] at f1 f2
  have hWs : s.WarmedH U.vm := State.WarmedH.trans hW0 hW
  have hcl : s.vm.findClass cls = some ce.cls := by
    have h9 := hO.cls
    rw [hvm] at h9
    exact h9
  have hall : s.sameButNew ({ U with vm := s.vm } : State) locs mc ms := by
    subst hA
    obtain ⟨e1, e2⟩ := hsame
    rw [State.setFrames_setFrames] at e1
    have h2 : (T.setVm s.vm).sameButNew ({ U with vm := s.vm } : State) [] (0 + 1) (0 + 6) := ⟨e1, e2⟩
    have h3 := X.same.trans h2
    rw [List.append_nil] at h3
    exact h3.mono hc hs
  refine ⟨U, ?_, .threw T.heap.size, hrun, hend, Or.inr ⟨T.heap.size, rfl, cls, ce, locs, hx U hWs.alike f1 (fun q hq => f2 q hq (fun z hz => nomatch hz)), hce, hO.vm, hcl, hWs, hall, hf⟩⟩
  refine st1 _ ?_
  show Steps p.tables e below (T1.setTop { method := m, pc := pc + 3, locals := ls, stack := .ref T.heap.size :: rest, locked := none }) _
  jvm_step X₁.here [X₁.here.top, hexec, d3', Value.category]
  exact X₁.ldcString hexec (own := own) (text := text) (index := is) (a := sa) hown' hstr'.1 hstr'.2
    (g := { method := m, pc := pc + 4, locals := ls, stack := .ref T.heap.size :: .ref T.heap.size :: rest, locked := none }) rfl d4' _ hsteps
/-- 'throw new E("text")', the text by a wide index -/
theorem vx_throwSW {cc : ByteArray} {pc : Nat} (hexec : p.tables.exec = Jvm.exec) (hb : c.code = cc) (hl : l.stackTraces = false) {own cls text : String} {names : List String} {ik is ic mc ms sa : Nat} {A : Nat → Prop}
    (hown : s.vm.findClass own = some m.cls) (hcls : Bundle.fit cls = true) (hnames : ∀ n ∈ names, Bundle.fit n = true)
    (hk : (Cond.classLink own ik cls).before args s = true) (hini : (Cond.initialized cls).before args s = true) (hstr : vk_R own is text sa s) (hat : ∀ w ∈ vx_atS own ic cls names, w.before args s = true)
    (hgood : ∀ w ∈ Cond.classLink own ik cls :: Cond.initialized cls :: vx_atS own ic cls names, vx_ot w = true)
    (hU : vx_Zq Bundle.tN "UNASSIGNED_STACK" Bundle.steD A s s.heap) (hN : vx_Zq Bundle.tN "SUPPRESSED_SENTINEL" Bundle.listD A s s.heap) (hS : va_S A s.heap H locs) (hsize : ls.size = c.maxLocals)
    (d0 : decode cc pc = .ok (.new ik, 3)) (d3 : decode cc (pc + 3) = .ok (.dup, 1)) (d4 : decode cc (pc + 4) = .ok (.ldc_w is, 3)) (d7 : decode cc (pc + 7) = .ok (.invokespecial ic, 3)) (d10 : decode cc (pc + 10) = .ok (.athrow, 1))
    (hout : ∀ x ∈ c.exceptionTable.toList, covers x (pc + 10) = false)
    (hRframes : names.length + 3 < R.frames) (hRlocals : (rest.map fun v => v.category).sum + (13 * (names.length + 1) + 43) ≤ R.locals) (hRcells : cells + 1 ≤ R.cells) (hRslots : slots + 6 ≤ R.slots) (hlocks : meth.locks = false)
    (hx : ∀ t : State, s.vm.Alike t.vm → H.size ≤ t.heap.size → (∀ q : Nat, q < H.size → t.heap[q]? = H[q]?) → XC cls s t)
    (hf : ∀ z ∈ locs, free z.base) (hc : cells + 1 ≤ mc) (hs : slots + 6 ≤ ms) :
    W p l e R s m args below meth c H locs cells slots (vx_MQ below Qc XC args s mc ms free) (F0 m pc ls rest) := by
  intro T hT X
  have htr : e.platform.stackTraces = false := (show e.platform.stackTraces = l.stackTraces by rw [X.admits.platform]).trans hl
  have Y := vx_rebase X (R' := { frames := R.frames, locals := R.locals, cells := 1, slots := 6 }) (Nat.le_refl _) (Nat.le_refl _) hRcells hRslots
  obtain ⟨s', hA⟩ : ∃ z, z = (T.setVm s.vm).setFrames (.invoking m args :: below) := ⟨_, rfl⟩
  rw [← hA] at Y
  have hvm : s'.vm = s.vm := by rw [hA]; rfl
  have hhp : s'.heap = H := by rw [hA]; exact hT
  have hW0 : s.WarmedH s'.vm := by rw [hvm]; exact State.WarmedH.refl s
  have hat' : ∀ w ∈ vx_atS own ic cls names, w.before args s' = true := fun w hw => vx_ot_at hW0 hvm.symm (hgood w (List.mem_cons_of_mem _ (List.mem_cons_of_mem _ hw))) (hat w hw)
  have hk' : (Cond.classLink own ik cls).before args s' = true := vx_ot_at hW0 hvm.symm (hgood _ List.mem_cons_self) hk
  have hini' : (Cond.initialized cls).before args s' = true := vx_ot_at hW0 hvm.symm (hgood _ (List.mem_cons_of_mem _ List.mem_cons_self)) hini
  have hU' : vx_Zq Bundle.tN "UNASSIGNED_STACK" Bundle.steD A s' s'.heap := by rw [hhp]; exact vx_Zq.moved hW0.alike (hU.kept hS.2.1)
  have hN' : vx_Zq Bundle.tN "SUPPRESSED_SENTINEL" Bundle.listD A s' s'.heap := by rw [hhp]; exact vx_Zq.moved hW0.alike (hN.kept hS.2.1)
  have h : ∀ w ∈ Bundle.ownAtoms own ic cls names, w.before args s' = true := vx_own hat' (vx_isRefq hU'.1) (vx_isRefq hN'.1) hU'.2.word hN'.2.word
  have hown' : s'.vm.findClass own = some m.cls := by rw [hvm]; exact hown
  have hins : (Cond.instantiable cls 6).before args s' = true := h _ (by simp [Bundle.ownAtoms])
  obtain ⟨vm₁, cX, kX, hfX, hkX, -, -, X₁, st1⟩ := Y.newCold hexec (own := own) (C := cls) (index := ik) (n := 6) hown' hk' hins hini'
    (g := F0 m pc ls rest) rfl (by rw [hb]; exact d0) (Nat.le_refl _) (Nat.le_refl _)
  generalize hT1 : (T.setVm vm₁).pushCell { cls := cX, slots := kX.instanceTypes.map defaultValue, vm := .none } = T1 at X₁ st1
  have hcat : (Value.ref T.heap.size).category = 1 := rfl
  have hcellA : T1.heap[T.heap.size]? = some (freshCell cX kX) := by rw [← hT1]; exact State.heap_pushCell_size _ _
  have d3' : decode c.code (pc + 3) = .ok (.dup, 1) := by rw [hb]; exact d3
  have d4' : decode c.code (pc + 4) = .ok (.ldc_w is, 3) := by rw [hb]; exact d4
  have hstr' : vk_R own is text sa s' := vk_R.warm hW0 hstr
  obtain ⟨U, hsteps, hrun, hend, hW, hsame, ce, hce, hO⟩ := X₁.ctorThrowS hexec htr (own := own) (cls := cls) (names := names) (ic := ic) hown' hcls hnames h (fun x hx => nomatch hx) hfX hkX hcellA (by rw [hhp, hT]; exact Nat.le_refl _) (msg := .ref sa) rfl
    (g := { method := m, pc := pc + 7, locals := ls, stack := .ref sa :: .ref T.heap.size :: .ref T.heap.size :: rest, locked := none }) rfl hsize rfl rfl (rest := rest) rfl
    (by rw [hb]; exact d7) (by rw [hb]; exact d10) hout hRframes (by simp only [List.map_cons, List.sum_cons, hcat]; omega) hlocks
  obtain ⟨f1, f2⟩ := vx_frame hsame
  rw [hhp] at f1 f2
  have hWs : s.WarmedH U.vm := State.WarmedH.trans hW0 hW
  have hcl : s.vm.findClass cls = some ce.cls := by
    have h9 := hO.cls
    rw [hvm] at h9
    exact h9
  have hall : s.sameButNew ({ U with vm := s.vm } : State) locs mc ms := by
    subst hA
    obtain ⟨e1, e2⟩ := hsame
    rw [State.setFrames_setFrames] at e1
    have h2 : (T.setVm s.vm).sameButNew ({ U with vm := s.vm } : State) [] (0 + 1) (0 + 6) := ⟨e1, e2⟩
    have h3 := X.same.trans h2
    rw [List.append_nil] at h3
    exact h3.mono hc hs
  refine ⟨U, ?_, .threw T.heap.size, hrun, hend, Or.inr ⟨T.heap.size, rfl, cls, ce, locs, hx U hWs.alike f1 (fun q hq => f2 q hq (fun z hz => nomatch hz)), hce, hO.vm, hcl, hWs, hall, hf⟩⟩
  refine st1 _ ?_
  show Steps p.tables e below (T1.setTop { method := m, pc := pc + 3, locals := ls, stack := .ref T.heap.size :: rest, locked := none }) _
  jvm_step X₁.here [X₁.here.top, hexec, d3', Value.category]
  exact X₁.ldcStringW hexec (own := own) (text := text) (index := is) (a := sa) hown' hstr'.1 hstr'.2
    (g := { method := m, pc := pc + 4, locals := ls, stack := .ref T.heap.size :: .ref T.heap.size :: rest, locked := none }) rfl d4' _ hsteps
end Ends
section Bodies
variable {l : Launch}
theorem vx_ofW {y : MethodName} {ws ws' : List Cond} {rm : Room} {Pc : Array Value → State → Prop} {Qc : Array Value → State → Outcome → State → Prop} {XC : String → State → State → Prop} {mc ms : Nat} {free : Addr → Prop} {cc : ByteArray} {maxL : Nat} {ret : Option FieldType}
    (hy : plainName y.cls = true) (hw : ws = Cond.code y cc maxL ret :: ws')
    (body : ∀ p e s m args below meth c s₁, BodyLoose p l y (headSpec ws rm) cc maxL ret e s m args below meth c s₁ → c.maxLocals = maxL → (∀ x ∈ c.exceptionTable.toList, False) → Pc args s →
      W p l e (headSpec ws rm).room s m args below meth c s.heap [] 0 0 (vx_MQ below Qc XC args s mc ms free) (entryFrame m args maxL)) : vx_Met l y ws rm Pc Qc XC mc ms free := by
  refine MetFree.of_bodyS (code := cc) (maxLocals := maxL) (ret := ret) hy ?_ ?_
  · intro args s m h hn
    obtain ⟨meth, c, h1, h2, h3, h4, h5, h6, -, -⟩ := Cond.code_spec hn (atoms_spec (ws := ws) h _ (by rw [hw]; exact List.mem_cons_self))
    exact ⟨meth, c, h1, h2, h3, h4, h5, h6⟩
  · intro p e s m args below meth c s₁ B hml hP _
    have hh0 : s₁.heap = s.heap := by rw [B.state]; rfl
    have ht : ∀ x ∈ c.exceptionTable.toList, False := by
      obtain ⟨meth9, c9, h1, h2, -, -, -, -, h7, -⟩ := Cond.code_spec B.named (atoms_spec (ws := ws) B.pre _ (by rw [hw]; exact List.mem_cons_self))
      cases Option.some.inj (h1.symm.trans B.method)
      cases Option.some.inj (h2.symm.trans (Stand.of_body B).code)
      intro x hx
      rw [Array.isEmpty_iff.mp h7] at hx
      cases hx
    obtain ⟨t, a1, o, b1, b2, b3⟩ := body p e s m args below meth c s₁ B hml ht hP s₁ hh0 (Stand.of_body B)
    exact ⟨t, o, a1, b1, b2, b3⟩
/-- the table of a body with handlers -/
theorem vx_table {p : Program} {x y : MethodName} {S : Spec} {cc bytes : ByteArray} {maxL maxL' : Nat} {ret ret' : Option FieldType} {e : Env} {s s₁ : State} {m : MethodId} {args : Array Value} {below : List Frame} {meth : Method} {c : Code} {hh : List (Nat × Nat × Nat × Nat)}
    (B : BodyLoose p l y S cc maxL ret e s m args below meth c s₁) (h : (Cond.codeWith y bytes maxL' ret' hh).before args s = true) : c.exceptionTable.toList = tableOf hh := by
  obtain ⟨m9, meth9, c9, hn9, h1, h2, -, -, h6, -⟩ := Cond.codeWith_spec h
  cases Option.some.inj (hn9.symm.trans B.named)
  cases Option.some.inj (h1.symm.trans B.method)
  cases Option.some.inj (h2.symm.trans (Stand.of_body B).code)
  rw [← h6, table_eq]
end Bodies
end VXA
/-! ===== END ===== -/
/-! ===== BEGIN a static call of a method with an exception table ===== -/
section VXS
variable {p : Program} {l : Launch} {e : Env} {R : Room} {s : State} {m : MethodId} {args : Array Value} {below : List Frame} {meth : Method} {c : Code} {T : State} {H : Heap} {locs : List Loc} {cells slots : Nat}
abbrev vx_CSW (R : Room) (s : State) (args : Array Value) (own : String) (index : Nat) (y : MethodName) (bytes : ByteArray) (maxL : Nat) (ret : Option FieldType) (hh : List (Nat × Nat × Nat × Nat)) (ws : List Cond) (rm : Room) (mc ms n : Nat) : Prop :=
  (rm.cells = mc ∧ rm.slots = ms ∧ rm.frames + 1 ≤ R.frames ∧ 8 + (maxL + 11) + rm.locals ≤ R.locals ∧ (∀ w ∈ ws, ∀ (a' : Array Value) (U : State), s.WarmedH U.vm → w.before a' U = true) ∧ Cond.codeWith y bytes maxL ret hh ∈ ws) ∧
  (Cond.codeWith y bytes maxL ret hh).before args s = true ∧ (Cond.initialized y.cls).before args s = true ∧ (y.cls ≠ "java/lang/invoke/MethodHandle" ∧ y.cls ≠ "java/lang/invoke/VarHandle") ∧
  (∀ sig, parseMethodDescriptor y.desc = some sig → n = sig.parameters.length) ∧ (Cond.methodLink own index y).before args s = true ∧ (Cond.static y).before args s = true
theorem vx_cwSW {own : String} {index maxL mc ms : Nat} {y : MethodName} {bytes : ByteArray} {ret : Option FieldType} {hh : List (Nat × Nat × Nat × Nat)} {Ts ws ws' : List Cond} {rm : Room} (n : Nat) (ht : ∀ w ∈ Ts, w.before args s = true) (hT : GoodIn Ts (va_wsS own index y ws)) (hw : ws = Cond.codeWith y bytes maxL ret hh :: ws') (hrc : rm.cells = mc) (hrs : rm.slots = ms)
    (hd : y.cls ≠ "java/lang/invoke/MethodHandle" ∧ y.cls ≠ "java/lang/invoke/VarHandle" ∧ (parseMethodDescriptor y.desc).map (fun d => d.parameters.length) = some n) (hR : rm.frames + 1 ≤ R.frames ∧ 8 + (maxL + 11) + rm.locals ≤ R.locals) :
    vx_CSW R s args own index y bytes maxL ret hh ws rm mc ms n := by
  have ok : ∀ w ∈ va_wsS own index y ws, w.before args s = true := fun w h => ht w (hT w h).1
  have hG : GoodIn Ts ws := fun w h => hT w (by unfold va_wsS; exact List.mem_append_right _ h)
  have hc : Cond.codeWith y bytes maxL ret hh ∈ ws := by rw [hw]; exact List.mem_cons_self
  refine ⟨⟨hrc, hrs, hR.1, hR.2, pay_in ht hG, hc⟩, ht _ (hG _ hc).1, ok _ (by simp [va_wsS]), ⟨hd.1, hd.2.1⟩, fun sig h => ?_, ok _ (by simp [va_wsS]), ok _ (by simp [va_wsS])⟩
  have h2 := hd.2.2
  rw [h] at h2
  exact (Option.some.inj h2).symm
theorem vx_callSW (X : Stand p l e R s m args below meth c T locs cells slots) (hexec : p.tables.exec = Jvm.exec) {own : String} {index : Nat} {y : MethodName} {bytes : ByteArray} {maxL : Nat} {ret : Option FieldType} {hh : List (Nat × Nat × Nat × Nat)}
    (hown : s.vm.findClass own = some m.cls) (hlink : (Cond.methodLink own index y).before args s = true) (hstat : (Cond.static y).before args s = true) (hinit : (Cond.initialized y.cls).before args s = true)
    (hcode : (Cond.codeWith y bytes maxL ret hh).before args s = true) (hy : y.cls ≠ "java/lang/invoke/MethodHandle" ∧ y.cls ≠ "java/lang/invoke/VarHandle")
    {W9 : Nat} {Pre : Pt → Array Value → Prop} {Post : Pt → Array Value → Option Value → Pt → Prop} (hK : Back l R p e below s args y 3 W9 Pre Post)
    {g : JFrame} (hg : g.method = m) (hsize : g.locals.size = c.maxLocals) {argsL rest : List Value} (hlen : ∀ sig, parseMethodDescriptor y.desc = some sig → argsL.length = sig.parameters.length)
    (hstack : g.stack = argsL.reverse ++ rest) (hW : 2 * g.monitorRoom + (rest.map fun v => v.category).sum ≤ W9) (hdg : decode c.code g.pc = .ok (.invokestatic index, 3))
    (hpre : ∀ vm₁, s.WarmedH vm₁ → Pre ⟨T.setVm vm₁, locs, cells, slots⟩ argsL.toArray) :
    ∃ (v : Option Value) (vm₁ : Vm) (B : Pt), s.WarmedH vm₁ ∧ Stand p l e R s m args below meth c B.U B.locs B.cells B.slots ∧ Post ⟨T.setVm vm₁, locs, cells, slots⟩ argsL.toArray v B ∧
      ∀ target, Steps p.tables e below (B.U.setTop { g with pc := g.pc + 3, stack := v.toList ++ rest }) target → Steps p.tables e below (T.setTop g) target := by
  obtain ⟨mk, methM, cM, hnamed, hmethM, -, -, -, -, -, -, hsigM⟩ := Cond.codeWith_spec hcode
  have hstatic : methM.isStatic = true := Cond.static_spec hnamed hmethM hstat
  obtain ⟨kP, hkP, -⟩ := className_of_methodNamed hnamed
  have hinitP : kP.init = .initialized := Cond.initialized_spec (findClass_of_methodNamed hnamed) hkP hinit
  obtain ⟨vm₁, X₁, hstep₁⟩ := X.invokestatic hexec hown hlink hnamed hmethM hstatic hkP hinitP hy (g := g) hg (argsL := argsL) (rest := rest) (hlen _ hsigM) hstack hdg
  obtain ⟨v, B, X', hpost, hsteps⟩ := hK m meth c ⟨T.setVm vm₁, locs, cells, slots⟩ { g with stack := rest } (.invokestatic index) mk argsL.toArray X₁ hg hsize hdg hW (X₁.named hnamed) (hpre vm₁ X₁.warmed)
  exact ⟨v, vm₁, B, X₁.warmed, X', hpost, fun target h => hstep₁ _ fun acts => by rw [doInvoke_state]; exact hsteps.trans h⟩
theorem vx_runSW {y : MethodName} {bytes cc : ByteArray} {maxL nL mc ms n index : Nat} {ret : Option FieldType} {hh : List (Nat × Nat × Nat × Nat)} {ws : List Cond} {rm : Room} {Pc : Array Value → State → Prop} {Qc : Array Value → State → Outcome → State → Prop} {free : Addr → Prop} {Ts : List Cond} {own : String} {As rest : List Value} {g : JFrame}
    (S : CallFix p m c cc nL s args Ts own) (hM : Met l y ws rm Pc Qc mc ms free) (cw : vx_CSW R s args own index y bytes maxL ret hh ws rm mc ms n) (hp : PreS s H Pc As)
    (hg : g.method = m) (hn : As.length = n) (hsize : g.locals.size = nL) (hstack : g.stack = As.reverse ++ rest) (hW : 2 * g.monitorRoom + (rest.map fun v => v.category).sum ≤ 8) (hdg : decode cc g.pc = .ok (.invokestatic index, 3)) (hf : cells + mc ≤ R.cells ∧ slots + ms ≤ R.slots) :
    va_Run p l e R s m args below meth c H locs cells slots mc ms g rest (Qc As.toArray) (free) := by
  obtain ⟨⟨hrc, hrs, hfr, hlo, hws, hcw⟩, hcode, hini, hy, hlen, hl, hstt⟩ := cw
  have hK : Back l R p e below s args y 3 8 (PreOf R mc ms Pc) (PostOf Qc mc ms free) := va_backW (hh := hh) (bytes := bytes) (maxL := maxL) (ret := ret) hM hp.1 hrc hrs hfr hlo hws hcw (fun a' U hW => word_at hW (Or.inl (by first | rfl | simp [Cond.onTables, Cond.keeps, Cond.steady])) hini)
  obtain ⟨hx, hb, hml, ho, -⟩ := S
  intro T hT X
  obtain ⟨v, vm₁, ⟨U', l2, c2, s2⟩, hW₁, X', ⟨g', mk, t, L, e1, e2, hq, h1, hL, h2, h3⟩, st⟩ := vx_callSW X hx (hh := hh) (bytes := bytes) (maxL := maxL) (ret := ret) ho hl hstt hini hcode hy hK hg (hsize.trans hml.symm) (argsL := As) (rest := rest) (fun sig h => hn.trans (hlen sig h)) hstack hW (by rw [hb]; exact hdg)
    (fun vm₁ hW₁ => ⟨hf.1, hf.2, hp.2 (T.setVm vm₁) hT hW₁⟩)
  dsimp only [Pt.U, Pt.locs, Pt.cells, Pt.slots] at X' e1 e2 h1 h2 h3 st
  subst h1; subst h2; subst h3
  exact ⟨v, (T.setVm vm₁).calling g' mk As.toArray, t, U', L, hT, X', hL, e1, e2, hq, st⟩
/-- not caught here, past rows that name other classes: it goes on to the caller -/
theorem vx_outP {p : Program} {l : Launch} {e : Env} {R : Room} {s : State} {m : MethodId} {args : Array Value} {below : List Frame} {meth : Method} {c : Code} {H : Heap} {locs : List Loc} {cells slots : Nat} {free : Addr → Prop} {ls : Array Slot} {rest : List Value} {Qc : Array Value → State → Outcome → State → Prop} {XC : String → State → State → Prop}
    {pc : Nat} {own E : String} {ce : Cell} {q : Addr} {mc ms : Nat} (hown : s.vm.findClass own = some m.cls) (hlocks : meth.locks = false)
    (hpass : ∀ z ∈ c.exceptionTable.toList, covers z pc = false ∨ (z.catchType ≠ 0 ∧ ∃ nm : String, (Cond.classLink own z.catchType nm).before args s = true ∧ va_Nc E nm s)) (hcell : H[q]? = some ce) (hv : ce.vm = .none) (hcl : s.vm.findClass E = some ce.cls)
    (hx : ∀ t : State, t.heap = H → s.vm.Alike t.vm → XC E s t) (hf : ∀ z ∈ locs, free z.base) (hc : cells ≤ mc) (hs : slots ≤ ms) :
    vx_W p l e R s m args below meth c H locs cells slots (vx_MQ below Qc XC args s mc ms free) (F0 m pc ls rest) q := by
  intro T hT X
  have hpl : e.platform.magicAccessors = ({} : Platform).magicAccessors := by rw [X.admits.platform]
  obtain ⟨vm', hW', X', st⟩ := X.outThrough hlocks q (g := F0 m pc ls rest) rfl rfl rfl (cell := ce) (by rw [hT]; exact hcell) (by rw [hv]; rfl)
    (by obtain ⟨k9, h9, -⟩ := Vm.findClass_spec hcl; exact ⟨k9, h9⟩) (fun z hz => by
      rcases hpass z hz with h | ⟨hz0, nm, hl1, hn1⟩
      · exact Or.inl h
      · obtain ⟨c6, hc6, hcl6⟩ := Cond.classLink_spec hown hl1 e.platform hpl
        obtain ⟨a8, b8, h1, h2, h3⟩ := hn1
        cases Option.some.inj (h1.symm.trans hcl)
        cases Option.some.inj (h2.symm.trans hc6)
        exact Or.inr ⟨hz0, _, hcl6, h3⟩)
  obtain ⟨g₀, hfr⟩ := X'.frames_eq
  have hcell9 : ((T.setVm vm').setFrames (.throwing q :: below)).heap[q]? = some ce := by
    show T.heap[q]? = some ce
    rw [hT]; exact hcell
  have hend : Ended ((T.setVm vm').setFrames (.throwing q :: below)) below (.threw q) := State.frames_setFrames _ (State.cur_lt_of_frames hfr)
  refine ⟨(T.setVm vm').setFrames (.throwing q :: below), ?_, .threw q, X'.here.running, hend, Or.inr ⟨q, rfl, E, ce, locs, hx _ hT (X'.ends _).1.alike, hcell9, hv, hcl, (X'.ends _).1, (X'.ends _).2.mono hc hs, hf⟩⟩
  rw [X.pushThrowing_eq]
  exact st
/-- a thing of a world lies in the heap -/
theorem vx_lt {D : va_G} {cl : List vw_C} {ws : va_W} {H1 : Heap} (h : va_P D cl ws H1) {k : Nat} {q : Nat × va_E} (hk : ws[k]? = some q) : q.1 < H1.size := (h k q hk).lt
end VXS
/-! ===== END ===== -/
/-! ===== BEGIN methods with a table of their own: called by a name, returning or throwing ===== -/
section VXH
/-! vx_backW, vx_callVX, vx_callSX, vx_callVW, vx_runVW, vx_runVX, vx_runSX, vx_ofWH follow the same proofs as their sisters above (Free/Laws.lean, Shelf42/LK1.lean); vx_outP calls Shelf42/NT130.lean (outThrough). -/
section
variable {l : Launch} {R : Room} {p : Program} {e : Env} {below : List Frame} {s : State} {sargs : Array Value} {y : MethodName} {len W9 : Nat}
theorem vx_backW {ws : List Cond} {rm : Room} {Pc : Array Value → State → Prop} {Qc : Array Value → State → Outcome → State → Prop} {XC : String → State → State → Prop} {mc ms : Nat} {free : Addr → Prop} {bytes : ByteArray} {maxL : Nat} {ret : Option FieldType} {hh : List (Nat × Nat × Nat × Nat)}
    (hM : vx_Met l y ws rm Pc Qc XC mc ms free) (hblind : FrameBlind Pc) (hrc : rm.cells = mc) (hrs : rm.slots = ms)
    (hframes : rm.frames + 1 ≤ R.frames) (hlocals : W9 + (maxL + 11) + rm.locals ≤ R.locals)
    (hws : ∀ w ∈ ws, ∀ a' U, s.WarmedH U.vm → w.before a' U = true) (hcode : Cond.codeWith y bytes maxL ret hh ∈ ws) (hinit : ∀ a' U, s.WarmedH U.vm → (Cond.initialized y.cls).before a' U = true) :
    vx_Back l R p e below s sargs y len W9 (PreOf R mc ms Pc) (PostOf Qc mc ms free) (vx_Post XC mc ms free) := by
  intro m meth c A g ig mk a X hg hsize hdg hW hn hp
  have h1 : (headSpec ws rm).pre.before a A.U = true := atoms_intro fun w hw => hws w hw _ _ X.warmed
  have h2 : (Cond.codeWith y bytes maxL ret hh).before a A.U = true := hws _ hcode _ _ X.warmed
  have h3 : (Cond.initialized y.cls).before a A.U = true := hinit _ _ X.warmed
  have h4 : A.cells + (headSpec ws rm).room.cells ≤ R.cells := by rw [show (headSpec ws rm).room.cells = mc from hrc]; exact hp.1
  have h5 : A.slots + (headSpec ws rm).room.slots ≤ R.slots := by rw [show (headSpec ws rm).room.slots = ms from hrs]; exact hp.2.1
  have hPc : Pc a (A.U.calling g mk a) := hblind _ _ _ _ hp.2.2
  obtain ⟨U, Ls, c0, s0⟩ := A
  dsimp only [Pt.U, Pt.locs, Pt.cells, Pt.slots] at h1 h2 h3 h4 h5 X hn hPc ⊢
  obtain ⟨m9, methY, cY, hn9, hmY, hcY, -, hlY, -⟩ := Cond.codeWith_spec h2
  cases Option.some.inj (hn9.symm.trans hn)
  obtain ⟨kY, hkY, -⟩ := className_of_methodNamed hn
  have hinitY : kY.init = .initialized := Cond.initialized_spec (findClass_of_methodNamed hn) hkY h3
  have h : At U g.method c below := by rw [hg]; exact X.here
  have hlocals9 : W9 + (maxL + 11) + (headSpec ws rm).room.locals ≤ R.locals := hlocals
  have happ : (headSpec ws rm).appliesLoose y e.platform (U.calling g mk a) = true :=
    Spec.appliesLoose_calling (g := g) h hdg hn hkY hinitY
      (X.room_calling (g := g) (R' := (headSpec ws rm).room) hsize hmY hcY hframes (by rw [hlY]; omega) h4 h5) h1
  obtain ⟨mid, hmid⟩ := h.above
  have hfr : (U.setTop g).frames = (.java g :: mid) ++ below := by rw [State.frames_setTop' g h.top, hmid]; rfl
  obtain ⟨o, s₂, hsteps, -, hend, hq⟩ := Steps.callFree hM p X.admits X.cas X.clock (acts := []) hfr happ hPc trivial
  have hq' : vx_Q Qc XC mc ms free a (U.calling g mk a) o s₂ := hq
  rw [State.frames_setTop' g h.top] at hend
  obtain ⟨g₀, hg0⟩ := Option.isSome_iff_exists.mp h.top
  obtain ⟨r, hr⟩ := State.topJava?_eq_some.mp hg0
  have hr' : (({ U with heap := s₂.heap, slotsUsed := s₂.slotsUsed } : State).setVm s₂.vm).frames = .java g₀ :: r := hr
  rcases hq' with ⟨hqc, L, hfe, hL⟩ | ⟨q, rfl, E, ce, L, hx, hce, hcv, hcl, hW₂, hsm, hL⟩
  · obtain ⟨⟨v, rfl⟩, hW₂, e2, q2, q3, q4, q5, q6⟩ := id hfe
    have e3 : s₂ = ({ (U.calling g mk a).setFrames s₂.frames with heap := s₂.heap, slotsUsed := s₂.slotsUsed } : State).setVm s₂.vm := by
      have : s₂ = ({ s₂ with vm := (U.calling g mk a).vm } : State).setVm s₂.vm := rfl
      rw [e2] at this
      exact this
    obtain ⟨c₂, i₂, len₂, hc₂, hd₂, hf₂⟩ := hend
    have hW' : U.WarmedH s₂.vm := hW₂
    have hcc : c₂ = c := by
      have h1 : s₂.code? g.method = U.code? g.method := by
        rw [State.code?_eq, State.code?_eq, hW'.alike.method?]
      exact Option.some.inj (hc₂.symm.trans (h1.trans h.code))
    subst hcc
    have hlen : len₂ = len := by rw [hdg] at hd₂; cases hd₂; rfl
    subst hlen
    have hs₂ : s₂ = (({ U with heap := s₂.heap, slotsUsed := s₂.slotsUsed } : State).setVm s₂.vm).setTop { g with pc := g.pc + len₂, stack := v.toList ++ g.stack } := by
      refine e3.trans ?_
      rw [hf₂, State.calling_eq h.top, State.setFrames_setFrames, State.setTop_of_frames _ hr', hr]
      rfl
    have hsame : U.sameButNew ({ U with heap := s₂.heap, slotsUsed := s₂.slotsUsed } : State) L mc ms := by
      refine ⟨?_, q2, q3, q4, q5, q6⟩
      obtain ⟨t, ht, -⟩ := State.frames_cons hr
      show ({ U with heap := s₂.heap, slotsUsed := s₂.slotsUsed } : State) = { U.setFrames U.frames with heap := s₂.heap, slotsUsed := s₂.slotsUsed }
      rw [State.setFrames_self ht]
    subst hg
    refine Or.inl ⟨v, ⟨(({ U with heap := s₂.heap, slotsUsed := s₂.slotsUsed } : State).setVm s₂.vm), Ls ++ L, c0 + mc, s0 + ms⟩,
      ⟨X.admits, X.cas, X.clock, X.frames, X.room, X.hears, X.method, X.code, (X.here.setHeapUsed s₂.heap s₂.slotsUsed).setVm hW'.alike, X.tail, State.WarmedH.trans X.warmed hW', X.limits, X.bytes, X.same.trans (hsame.setVm s.vm)⟩,
      ⟨g, mk, s₂, L, rfl, rfl, hqc, rfl, hL, rfl, rfl⟩, ?_⟩
    show Steps p.tables e below _ ((({ U with heap := s₂.heap, slotsUsed := s₂.slotsUsed } : State).setVm s₂.vm).setTop { g with pc := g.pc + len₂, stack := v.toList ++ g.stack })
    rw [← hs₂]
    exact hsteps
  · obtain ⟨e2, q2, q3, q4, q5, q6⟩ := id hsm
    have e3 : s₂ = ({ (U.calling g mk a).setFrames s₂.frames with heap := s₂.heap, slotsUsed := s₂.slotsUsed } : State).setVm s₂.vm := by
      have : s₂ = ({ s₂ with vm := (U.calling g mk a).vm } : State).setVm s₂.vm := rfl
      rw [e2] at this
      exact this
    have hf₂ : s₂.frames = .throwing q :: .java g :: U.frames.tail := hend
    have hW' : U.WarmedH s₂.vm := hW₂
    have hs₂ : s₂ = ((({ U with heap := s₂.heap, slotsUsed := s₂.slotsUsed } : State).setVm s₂.vm).setTop g).pushFrame (.throwing q) := by
      refine e3.trans ?_
      rw [hf₂, State.calling_eq h.top, State.setFrames_setFrames, State.pushFrame, State.frames_setTop _ hr', State.setTop_of_frames _ hr', State.setFrames_setFrames, hr]
      rfl
    have hsame : U.sameButNew ({ U with heap := s₂.heap, slotsUsed := s₂.slotsUsed } : State) L mc ms := by
      refine ⟨?_, q2, q3, q4, q5, q6⟩
      obtain ⟨t, ht, -⟩ := State.frames_cons hr
      show ({ U with heap := s₂.heap, slotsUsed := s₂.slotsUsed } : State) = { U.setFrames U.frames with heap := s₂.heap, slotsUsed := s₂.slotsUsed }
      rw [State.setFrames_self ht]
    subst hg
    refine Or.inr ⟨q, ⟨(({ U with heap := s₂.heap, slotsUsed := s₂.slotsUsed } : State).setVm s₂.vm), Ls ++ L, c0 + mc, s0 + ms⟩,
      ⟨X.admits, X.cas, X.clock, X.frames, X.room, X.hears, X.method, X.code, (X.here.setHeapUsed s₂.heap s₂.slotsUsed).setVm hW'.alike, X.tail, State.WarmedH.trans X.warmed hW', X.limits, X.bytes, X.same.trans (hsame.setVm s.vm)⟩,
      ⟨g, mk, s₂, L, E, ce, rfl, rfl, hx, hce, hcv, hcl, rfl, hL, rfl, rfl⟩, ?_⟩
    show Steps p.tables e below _ (((({ U with heap := s₂.heap, slotsUsed := s₂.slotsUsed } : State).setVm s₂.vm).setTop g).pushFrame (.throwing q))
    rw [← hs₂]
    exact hsteps
end
variable {p : Program} {l : Launch} {e : Env} {R : Room} {s : State} {m : MethodId} {args : Array Value} {below : List Frame} {meth : Method} {c : Code} {T : State} {H : Heap} {locs : List Loc} {cells slots : Nat}
theorem vx_callVX (X : Stand p l e R s m args below meth c T locs cells slots) (hexec : p.tables.exec = Jvm.exec) {own C : String} {index : Nat} {y : MethodName} {bytes : ByteArray} {maxL : Nat} {ret : Option FieldType} {hh : List (Nat × Nat × Nat × Nat)}
    (hown : s.vm.findClass own = some m.cls) (hlink : (Cond.methodLink own index y).before args s = true) (hinst : (Cond.instanceMethod y).before args s = true) (hsel : (Cond.selects C y y).before args s = true)
    (hcode : (Cond.codeWith y bytes maxL ret hh).before args s = true) (hy : y.cls ≠ "java/lang/invoke/MethodHandle" ∧ y.cls ≠ "java/lang/invoke/VarHandle")
    {W9 : Nat} {Pre : Pt → Array Value → Prop} {Post : Pt → Array Value → Option Value → Pt → Prop} {PostX : Pt → Array Value → Addr → Pt → Prop} (hK : vx_Back l R p e below s args y 3 W9 Pre Post PostX)
    {b : Addr} {cellB : Cell} (hcell : T.heap[b]? = some cellB) (hobj : cellB.vm.isStatics = false) (hcls : s.vm.findClass C = some cellB.cls)
    {g : JFrame} (hg : g.method = m) (hsize : g.locals.size = c.maxLocals) {argsL rest : List Value} (hlen : ∀ sig, parseMethodDescriptor y.desc = some sig → argsL.length = sig.parameters.length)
    (hstack : g.stack = argsL.reverse ++ .ref b :: rest) (hW : 2 * g.monitorRoom + (rest.map fun v => v.category).sum ≤ W9) (hdg : decode c.code g.pc = .ok (.invokevirtual index, 3))
    (hpre : ∀ vm₁, s.WarmedH vm₁ → Pre ⟨T.setVm vm₁, locs, cells, slots⟩ (Value.ref b :: argsL).toArray) :
    (∃ (v : Option Value) (vm₁ : Vm) (B : Pt), s.WarmedH vm₁ ∧ Stand p l e R s m args below meth c B.U B.locs B.cells B.slots ∧ Post ⟨T.setVm vm₁, locs, cells, slots⟩ (Value.ref b :: argsL).toArray v B ∧
      ∀ target, Steps p.tables e below (B.U.setTop { g with pc := g.pc + 3, stack := v.toList ++ rest }) target → Steps p.tables e below (T.setTop g) target) ∨
    (∃ (q : Addr) (vm₁ : Vm) (B : Pt), s.WarmedH vm₁ ∧ Stand p l e R s m args below meth c B.U B.locs B.cells B.slots ∧ PostX ⟨T.setVm vm₁, locs, cells, slots⟩ (Value.ref b :: argsL).toArray q B ∧
      Steps p.tables e below (T.setTop g) ((B.U.setTop { g with stack := rest }).pushFrame (.throwing q))) := by
  obtain ⟨mk, methM, hnamed, hmethM, hstM, habM⟩ := Cond.instanceMethod_spec hinst
  obtain ⟨m8, methM', cM, hn8, hmethM', -, -, -, -, -, -, hsigM⟩ := Cond.codeWith_spec hcode
  cases Option.some.inj (hn8.symm.trans hnamed)
  cases hmethM.symm.trans hmethM'
  obtain ⟨c2, r2, m2, q1, q2, q3, q4, kP, hkP, hkPi⟩ := Cond.selects_spec hsel
  cases hcls.symm.trans q1
  cases (State.methodFound?_of_named hnamed hy).symm.trans q2
  cases hnamed.symm.trans q3
  have hselP : selectMethod e.platform s.vm cellB.cls mk = .method mk := by rw [Launch.admits_selectMethod X.admits]; exact q4
  obtain ⟨vm₁, X₁, hstep₁⟩ := X.invokevirtual hexec hown hlink hnamed hmethM hstM hkP hkPi hy (a := b) (cell := cellB) hcell
    (fun z h => by rw [h] at hobj; cases hobj) hselP hmethM habM hkP hkPi (g := g) hg (argsL := argsL) (rest := rest) (hlen _ hsigM) hstack hdg
  rcases hK m meth c ⟨T.setVm vm₁, locs, cells, slots⟩ { g with stack := rest } (.invokevirtual index) mk (Value.ref b :: argsL).toArray X₁ hg hsize hdg hW (X₁.named hnamed) (hpre vm₁ X₁.warmed) with ⟨v, B, X', hpost, hsteps⟩ | ⟨q, B, X', hpost, hsteps⟩
  · exact Or.inl ⟨v, vm₁, B, X₁.warmed, X', hpost, fun target h => hstep₁ _ fun acts => by rw [doInvoke_state]; exact hsteps.trans h⟩
  · exact Or.inr ⟨q, vm₁, B, X₁.warmed, X', hpost, hstep₁ _ fun acts => by rw [doInvoke_state]; exact hsteps⟩
theorem vx_callSX (X : Stand p l e R s m args below meth c T locs cells slots) (hexec : p.tables.exec = Jvm.exec) {own : String} {index : Nat} {y : MethodName} {bytes : ByteArray} {maxL : Nat} {ret : Option FieldType} {hh : List (Nat × Nat × Nat × Nat)}
    (hown : s.vm.findClass own = some m.cls) (hlink : (Cond.methodLink own index y).before args s = true) (hstat : (Cond.static y).before args s = true) (hinit : (Cond.initialized y.cls).before args s = true)
    (hcode : (Cond.codeWith y bytes maxL ret hh).before args s = true) (hy : y.cls ≠ "java/lang/invoke/MethodHandle" ∧ y.cls ≠ "java/lang/invoke/VarHandle")
    {W9 : Nat} {Pre : Pt → Array Value → Prop} {Post : Pt → Array Value → Option Value → Pt → Prop} {PostX : Pt → Array Value → Addr → Pt → Prop} (hK : vx_Back l R p e below s args y 3 W9 Pre Post PostX)
    {g : JFrame} (hg : g.method = m) (hsize : g.locals.size = c.maxLocals) {argsL rest : List Value} (hlen : ∀ sig, parseMethodDescriptor y.desc = some sig → argsL.length = sig.parameters.length)
    (hstack : g.stack = argsL.reverse ++ rest) (hW : 2 * g.monitorRoom + (rest.map fun v => v.category).sum ≤ W9) (hdg : decode c.code g.pc = .ok (.invokestatic index, 3))
    (hpre : ∀ vm₁, s.WarmedH vm₁ → Pre ⟨T.setVm vm₁, locs, cells, slots⟩ argsL.toArray) :
    (∃ (v : Option Value) (vm₁ : Vm) (B : Pt), s.WarmedH vm₁ ∧ Stand p l e R s m args below meth c B.U B.locs B.cells B.slots ∧ Post ⟨T.setVm vm₁, locs, cells, slots⟩ argsL.toArray v B ∧
      ∀ target, Steps p.tables e below (B.U.setTop { g with pc := g.pc + 3, stack := v.toList ++ rest }) target → Steps p.tables e below (T.setTop g) target) ∨
    (∃ (q : Addr) (vm₁ : Vm) (B : Pt), s.WarmedH vm₁ ∧ Stand p l e R s m args below meth c B.U B.locs B.cells B.slots ∧ PostX ⟨T.setVm vm₁, locs, cells, slots⟩ argsL.toArray q B ∧
      Steps p.tables e below (T.setTop g) ((B.U.setTop { g with stack := rest }).pushFrame (.throwing q))) := by
  obtain ⟨mk, methM, cM, hnamed, hmethM, -, -, -, -, -, -, hsigM⟩ := Cond.codeWith_spec hcode
  have hstatic : methM.isStatic = true := Cond.static_spec hnamed hmethM hstat
  obtain ⟨kP, hkP, -⟩ := className_of_methodNamed hnamed
  have hinitP : kP.init = .initialized := Cond.initialized_spec (findClass_of_methodNamed hnamed) hkP hinit
  obtain ⟨vm₁, X₁, hstep₁⟩ := X.invokestatic hexec hown hlink hnamed hmethM hstatic hkP hinitP hy (g := g) hg (argsL := argsL) (rest := rest) (hlen _ hsigM) hstack hdg
  rcases hK m meth c ⟨T.setVm vm₁, locs, cells, slots⟩ { g with stack := rest } (.invokestatic index) mk argsL.toArray X₁ hg hsize hdg hW (X₁.named hnamed) (hpre vm₁ X₁.warmed) with ⟨v, B, X', hpost, hsteps⟩ | ⟨q, B, X', hpost, hsteps⟩
  · exact Or.inl ⟨v, vm₁, B, X₁.warmed, X', hpost, fun target h => hstep₁ _ fun acts => by rw [doInvoke_state]; exact hsteps.trans h⟩
  · exact Or.inr ⟨q, vm₁, B, X₁.warmed, X', hpost, hstep₁ _ fun acts => by rw [doInvoke_state]; exact hsteps⟩
theorem vx_callVW (X : Stand p l e R s m args below meth c T locs cells slots) (hexec : p.tables.exec = Jvm.exec) {own C : String} {index : Nat} {y : MethodName} {bytes : ByteArray} {maxL : Nat} {ret : Option FieldType} {hh : List (Nat × Nat × Nat × Nat)}
    (hown : s.vm.findClass own = some m.cls) (hlink : (Cond.methodLink own index y).before args s = true) (hinst : (Cond.instanceMethod y).before args s = true) (hsel : (Cond.selects C y y).before args s = true)
    (hcode : (Cond.codeWith y bytes maxL ret hh).before args s = true) (hy : y.cls ≠ "java/lang/invoke/MethodHandle" ∧ y.cls ≠ "java/lang/invoke/VarHandle")
    {W9 : Nat} {Pre : Pt → Array Value → Prop} {Post : Pt → Array Value → Option Value → Pt → Prop} (hK : Back l R p e below s args y 3 W9 Pre Post)
    {b : Addr} {cellB : Cell} (hcell : T.heap[b]? = some cellB) (hobj : cellB.vm.isStatics = false) (hcls : s.vm.findClass C = some cellB.cls)
    {g : JFrame} (hg : g.method = m) (hsize : g.locals.size = c.maxLocals) {argsL rest : List Value} (hlen : ∀ sig, parseMethodDescriptor y.desc = some sig → argsL.length = sig.parameters.length)
    (hstack : g.stack = argsL.reverse ++ .ref b :: rest) (hW : 2 * g.monitorRoom + (rest.map fun v => v.category).sum ≤ W9) (hdg : decode c.code g.pc = .ok (.invokevirtual index, 3))
    (hpre : ∀ vm₁, s.WarmedH vm₁ → Pre ⟨T.setVm vm₁, locs, cells, slots⟩ (Value.ref b :: argsL).toArray) :
    ∃ (v : Option Value) (vm₁ : Vm) (B : Pt), s.WarmedH vm₁ ∧ Stand p l e R s m args below meth c B.U B.locs B.cells B.slots ∧ Post ⟨T.setVm vm₁, locs, cells, slots⟩ (Value.ref b :: argsL).toArray v B ∧
      ∀ target, Steps p.tables e below (B.U.setTop { g with pc := g.pc + 3, stack := v.toList ++ rest }) target → Steps p.tables e below (T.setTop g) target := by
  obtain ⟨mk, methM, hnamed, hmethM, hstM, habM⟩ := Cond.instanceMethod_spec hinst
  obtain ⟨m8, methM', cM, hn8, hmethM', -, -, -, -, -, -, hsigM⟩ := Cond.codeWith_spec hcode
  cases Option.some.inj (hn8.symm.trans hnamed)
  cases hmethM.symm.trans hmethM'
  obtain ⟨c2, r2, m2, q1, q2, q3, q4, kP, hkP, hkPi⟩ := Cond.selects_spec hsel
  cases hcls.symm.trans q1
  cases (State.methodFound?_of_named hnamed hy).symm.trans q2
  cases hnamed.symm.trans q3
  have hselP : selectMethod e.platform s.vm cellB.cls mk = .method mk := by rw [Launch.admits_selectMethod X.admits]; exact q4
  obtain ⟨vm₁, X₁, hstep₁⟩ := X.invokevirtual hexec hown hlink hnamed hmethM hstM hkP hkPi hy (a := b) (cell := cellB) hcell
    (fun z h => by rw [h] at hobj; cases hobj) hselP hmethM habM hkP hkPi (g := g) hg (argsL := argsL) (rest := rest) (hlen _ hsigM) hstack hdg
  obtain ⟨v, B, X', hpost, hsteps⟩ := hK m meth c ⟨T.setVm vm₁, locs, cells, slots⟩ { g with stack := rest } (.invokevirtual index) mk (Value.ref b :: argsL).toArray X₁ hg hsize hdg hW (X₁.named hnamed) (hpre vm₁ X₁.warmed)
  exact ⟨v, vm₁, B, X₁.warmed, X', hpost, fun target h => hstep₁ _ fun acts => by rw [doInvoke_state]; exact hsteps.trans h⟩
abbrev vx_CVW (R : Room) (s : State) (args : Array Value) (own C : String) (index : Nat) (y : MethodName) (bytes : ByteArray) (maxL : Nat) (ret : Option FieldType) (hh : List (Nat × Nat × Nat × Nat)) (ws : List Cond) (rm : Room) (mc ms n : Nat) : Prop :=
  (rm.cells = mc ∧ rm.slots = ms ∧ rm.frames + 1 ≤ R.frames ∧ 8 + (maxL + 11) + rm.locals ≤ R.locals ∧ (∀ w ∈ ws, ∀ (a' : Array Value) (U : State), s.WarmedH U.vm → w.before a' U = true) ∧ Cond.codeWith y bytes maxL ret hh ∈ ws) ∧
  (Cond.codeWith y bytes maxL ret hh).before args s = true ∧ (Cond.initialized y.cls).before args s = true ∧ (y.cls ≠ "java/lang/invoke/MethodHandle" ∧ y.cls ≠ "java/lang/invoke/VarHandle") ∧
  (∀ sig, parseMethodDescriptor y.desc = some sig → n = sig.parameters.length) ∧ (Cond.methodLink own index y).before args s = true ∧ (Cond.instanceMethod y).before args s = true ∧ (Cond.selects C y y).before args s = true
theorem vx_cwVW {own C : String} {index maxL mc ms : Nat} {y : MethodName} {bytes : ByteArray} {ret : Option FieldType} {hh : List (Nat × Nat × Nat × Nat)} {Ts ws ws' : List Cond} {rm : Room} (n : Nat) (ht : ∀ w ∈ Ts, w.before args s = true) (hT : GoodIn Ts (wsV own index C y ws)) (hw : ws = Cond.codeWith y bytes maxL ret hh :: ws') (hrc : rm.cells = mc) (hrs : rm.slots = ms)
    (hd : y.cls = C ∧ y.cls ≠ "java/lang/invoke/MethodHandle" ∧ y.cls ≠ "java/lang/invoke/VarHandle" ∧ (parseMethodDescriptor y.desc).map (fun d => d.parameters.length) = some n) (hR : rm.frames + 1 ≤ R.frames ∧ 8 + (maxL + 11) + rm.locals ≤ R.locals) :
    vx_CVW R s args own C index y bytes maxL ret hh ws rm mc ms n := by
  obtain ⟨hC, hd⟩ := hd
  subst hC
  have ok : ∀ w ∈ wsV own index y.cls y ws, w.before args s = true := fun w h => ht w (hT w h).1
  have hG : GoodIn Ts ws := fun w h => hT w (by unfold wsV; exact List.mem_append_right _ h)
  have hc : Cond.codeWith y bytes maxL ret hh ∈ ws := by rw [hw]; exact List.mem_cons_self
  refine ⟨⟨hrc, hrs, hR.1, hR.2, pay_in ht hG, hc⟩, ht _ (hG _ hc).1, ok _ (by simp [wsV]), ⟨hd.1, hd.2.1⟩, fun sig h => ?_, ok _ (by simp [wsV]), ok _ (by simp [wsV]), ok _ (by simp [wsV])⟩
  have h2 := hd.2.2
  rw [h] at h2
  exact (Option.some.inj h2).symm
theorem vx_runVW {y : MethodName} {bytes cc : ByteArray} {maxL nL mc ms n index : Nat} {ret : Option FieldType} {hh : List (Nat × Nat × Nat × Nat)} {ws : List Cond} {rm : Room} {Pc : Array Value → State → Prop} {Qc : Array Value → State → Outcome → State → Prop} {free : Addr → Prop} {Ts : List Cond} {own C : String} {b : Addr} {As rest : List Value} {g : JFrame}
    (S : CallFix p m c cc nL s args Ts own) (hM : Met l y ws rm Pc Qc mc ms free) (cw : vx_CVW R s args own C index y bytes maxL ret hh ws rm mc ms n) (hp : PreV s H C b Pc As)
    (hg : g.method = m) (hn : As.length = n) (hsize : g.locals.size = nL) (hstack : g.stack = As.reverse ++ .ref b :: rest) (hW : 2 * g.monitorRoom + (rest.map fun v => v.category).sum ≤ 8) (hdg : decode cc g.pc = .ok (.invokevirtual index, 3)) (hf : cells + mc ≤ R.cells ∧ slots + ms ≤ R.slots) :
    va_Run p l e R s m args below meth c H locs cells slots mc ms g rest (Qc (Value.ref b :: As).toArray) free := by
  obtain ⟨⟨hrc, hrs, hfr, hlo, hws, hcw⟩, hcode, hini, hy, hlen, hl, hin, hse⟩ := cw
  have hK : Back l R p e below s args y 3 8 (PreOf R mc ms Pc) (PostOf Qc mc ms free) := va_backW (hh := hh) (bytes := bytes) (maxL := maxL) (ret := ret) hM hp.1 hrc hrs hfr hlo hws hcw (fun a' U hW => word_at hW (Or.inl (by first | rfl | simp [Cond.onTables, Cond.keeps, Cond.steady])) hini)
  obtain ⟨hx, hb, hml, ho, -⟩ := S
  obtain ⟨-, ⟨cellB, hcB, hoB, hclB⟩, hPc⟩ := hp
  intro T hT X
  obtain ⟨v, vm₁, ⟨U', l2, c2, s2⟩, hW₁, X', ⟨g', mk, t, L, e1, e2, hq, h1, hL, h2, h3⟩, st⟩ := vx_callVW X hx (C := C) (hh := hh) (bytes := bytes) (maxL := maxL) (ret := ret) ho hl hin hse hcode hy hK (by rw [hT]; exact hcB) hoB hclB hg (hsize.trans hml.symm) (argsL := As) (rest := rest) (fun sig h => hn.trans (hlen sig h)) hstack hW (by rw [hb]; exact hdg)
    (fun vm₁ hW₁ => ⟨hf.1, hf.2, hPc (T.setVm vm₁) hT hW₁⟩)
  dsimp only [Pt.U, Pt.locs, Pt.cells, Pt.slots] at X' e1 e2 h1 h2 h3 st
  subst h1; subst h2; subst h3
  exact ⟨v, (T.setVm vm₁).calling g' mk (Value.ref b :: As).toArray, t, U', L, hT, X', hL, e1, e2, hq, st⟩
section
variable {y : MethodName} {bytes cc : ByteArray} {maxL nL mc ms n index : Nat} {ret : Option FieldType} {ws : List Cond} {rm : Room} {Pc : Array Value → State → Prop} {Qc : Array Value → State → Outcome → State → Prop} {XC : String → State → State → Prop} {free : Addr → Prop} {Ts : List Cond} {own C : String} {b : Addr} {As rest : List Value} {g : JFrame}
theorem vx_runVX {hh : List (Nat × Nat × Nat × Nat)} (S : CallFix p m c cc nL s args Ts own) (hM : vx_Met l y ws rm Pc Qc XC mc ms free) (cw : vx_CVW R s args own C index y bytes maxL ret hh ws rm mc ms n) (hp : PreV s H C b Pc As)
    (hg : g.method = m) (hn : As.length = n) (hsize : g.locals.size = nL) (hstack : g.stack = As.reverse ++ .ref b :: rest) (hW : 2 * g.monitorRoom + (rest.map fun v => v.category).sum ≤ 8) (hdg : decode cc g.pc = .ok (.invokevirtual index, 3)) (hf : cells + mc ≤ R.cells ∧ slots + ms ≤ R.slots) :
    vx_Run p l e R s m args below meth c H locs cells slots mc ms g rest (Qc (Value.ref b :: As).toArray) XC free := by
  obtain ⟨⟨hrc, hrs, hfr, hlo, hws, hcw⟩, hcode, hini, hy, hlen, hl, hin, hse⟩ := cw
  have hK : vx_Back l R p e below s args y 3 8 (PreOf R mc ms Pc) (PostOf Qc mc ms free) (vx_Post XC mc ms free) := vx_backW (hh := hh) (bytes := bytes) (maxL := maxL) (ret := ret) hM hp.1 hrc hrs hfr hlo hws hcw (fun a' U hW => word_at hW (Or.inl (by first | rfl | simp [Cond.onTables, Cond.keeps, Cond.steady])) hini)
  obtain ⟨hx, hb, hml, ho, -⟩ := S
  obtain ⟨-, ⟨cellB, hcB, hoB, hclB⟩, hPc⟩ := hp
  intro T hT X
  rcases vx_callVX X hx (C := C) (hh := hh) (bytes := bytes) (maxL := maxL) (ret := ret) ho hl hin hse hcode hy hK (by rw [hT]; exact hcB) hoB hclB hg (hsize.trans hml.symm) (argsL := As) (rest := rest) (fun sig h => hn.trans (hlen sig h)) hstack hW (by rw [hb]; exact hdg)
    (fun vm₁ hW₁ => ⟨hf.1, hf.2, hPc (T.setVm vm₁) hT hW₁⟩) with ⟨v, vm₁, ⟨U', l2, c2, s2⟩, hW₁, X', ⟨g', mk, t, L, e1, e2, hq, h1, hL, h2, h3⟩, st⟩ | ⟨q, vm₁, ⟨U', l2, c2, s2⟩, hW₁, X', ⟨g', mk, t, L, E, ce, e1, e2, hq, hce, hcv, hcl, h1, hL, h2, h3⟩, st⟩
  · dsimp only [Pt.U, Pt.locs, Pt.cells, Pt.slots] at X' e1 e2 h1 h2 h3 st
    subst h1; subst h2; subst h3
    exact Or.inl ⟨v, (T.setVm vm₁).calling g' mk (Value.ref b :: As).toArray, t, U', L, hT, X', hL, e1, e2, hq, st⟩
  · dsimp only [Pt.U, Pt.locs, Pt.cells, Pt.slots] at X' e1 e2 h1 h2 h3 st hcl
    subst h1; subst h2; subst h3
    exact Or.inr ⟨q, (T.setVm vm₁).calling g' mk (Value.ref b :: As).toArray, t, U', L, E, ce, hT, X', hL, e1, e2, hq, hce, hcv, vx_cls hW₁ hcl, st⟩
theorem vx_runSX {hh : List (Nat × Nat × Nat × Nat)} (S : CallFix p m c cc nL s args Ts own) (hM : vx_Met l y ws rm Pc Qc XC mc ms free) (cw : vx_CSW R s args own index y bytes maxL ret hh ws rm mc ms n) (hp : PreS s H Pc As)
    (hg : g.method = m) (hn : As.length = n) (hsize : g.locals.size = nL) (hstack : g.stack = As.reverse ++ rest) (hW : 2 * g.monitorRoom + (rest.map fun v => v.category).sum ≤ 8) (hdg : decode cc g.pc = .ok (.invokestatic index, 3)) (hf : cells + mc ≤ R.cells ∧ slots + ms ≤ R.slots) :
    vx_Run p l e R s m args below meth c H locs cells slots mc ms g rest (Qc As.toArray) XC free := by
  obtain ⟨⟨hrc, hrs, hfr, hlo, hws, hcw⟩, hcode, hini, hy, hlen, hl, hstt⟩ := cw
  have hK : vx_Back l R p e below s args y 3 8 (PreOf R mc ms Pc) (PostOf Qc mc ms free) (vx_Post XC mc ms free) := vx_backW (hh := hh) (bytes := bytes) (maxL := maxL) (ret := ret) hM hp.1 hrc hrs hfr hlo hws hcw (fun a' U hW => word_at hW (Or.inl (by first | rfl | simp [Cond.onTables, Cond.keeps, Cond.steady])) hini)
  obtain ⟨hx, hb, hml, ho, -⟩ := S
  intro T hT X
  rcases vx_callSX X hx (hh := hh) (bytes := bytes) (maxL := maxL) (ret := ret) ho hl hstt hini hcode hy hK hg (hsize.trans hml.symm) (argsL := As) (rest := rest) (fun sig h => hn.trans (hlen sig h)) hstack hW (by rw [hb]; exact hdg)
    (fun vm₁ hW₁ => ⟨hf.1, hf.2, hp.2 (T.setVm vm₁) hT hW₁⟩) with ⟨v, vm₁, ⟨U', l2, c2, s2⟩, hW₁, X', ⟨g', mk, t, L, e1, e2, hq, h1, hL, h2, h3⟩, st⟩ | ⟨q, vm₁, ⟨U', l2, c2, s2⟩, hW₁, X', ⟨g', mk, t, L, E, ce, e1, e2, hq, hce, hcv, hcl, h1, hL, h2, h3⟩, st⟩
  · dsimp only [Pt.U, Pt.locs, Pt.cells, Pt.slots] at X' e1 e2 h1 h2 h3 st
    subst h1; subst h2; subst h3
    exact Or.inl ⟨v, (T.setVm vm₁).calling g' mk As.toArray, t, U', L, hT, X', hL, e1, e2, hq, st⟩
  · dsimp only [Pt.U, Pt.locs, Pt.cells, Pt.slots] at X' e1 e2 h1 h2 h3 st hcl
    subst h1; subst h2; subst h3
    exact Or.inr ⟨q, (T.setVm vm₁).calling g' mk As.toArray, t, U', L, E, ce, hT, X', hL, e1, e2, hq, hce, hcv, vx_cls hW₁ hcl, st⟩
end
end VXH
theorem vx_ofWH {l : Launch} {y : MethodName} {ws ws' : List Cond} {rm : Room} {Pc : Array Value → State → Prop} {Qc : Array Value → State → Outcome → State → Prop} {XC : String → State → State → Prop} {mc ms : Nat} {free : Addr → Prop} {cc : ByteArray} {maxL : Nat} {ret : Option FieldType} {hh : List (Nat × Nat × Nat × Nat)}
    (hy : plainName y.cls = true) (hw : ws = Cond.codeWith y cc maxL ret hh :: ws')
    (body : ∀ p e s m args below meth c s₁, BodyLoose p l y (headSpec ws rm) cc maxL ret e s m args below meth c s₁ → c.maxLocals = maxL → Pc args s →
      W p l e (headSpec ws rm).room s m args below meth c s.heap [] 0 0 (vx_MQ below Qc XC args s mc ms free) (entryFrame m args maxL)) : vx_Met l y ws rm Pc Qc XC mc ms free := by
  refine MetFree.of_bodyS (code := cc) (maxLocals := maxL) (ret := ret) hy ?_ ?_
  · intro args s m h hn
    obtain ⟨m9, meth, c, hn9, h1, h2, h3, h4, -, h5, h6, -⟩ := Cond.codeWith_spec (atoms_spec (ws := ws) h _ (by rw [hw]; exact List.mem_cons_self))
    cases hn.symm.trans hn9
    exact ⟨meth, c, h1, h2, h3, h4, h5, h6⟩
  · intro p e s m args below meth c s₁ B hml hP _
    have hh0 : s₁.heap = s.heap := by rw [B.state]; rfl
    obtain ⟨t, a1, o, b1, b2, b3⟩ := body p e s m args below meth c s₁ B hml hP s₁ hh0 (Stand.of_body B)
    exact ⟨t, o, a1, b1, b2, b3⟩
/-! ===== END ===== -/
/-! ===== BEGIN what the machine throws by itself, no traces kept ===== -/
section VXM
set_option maxHeartbeats 1000000 in
/-- the machine throws cls with the message text, no traces kept: from its note over the frame g to 'throwing' over the same frame (follows the proofs of Stand.vmThrowsMessage, Shelf/KitTracedVmS.lean, and Stand.throwsMessageColdBareV, StandMessageColdV.lean, without the step out of the frame) -/
theorem vx_vmAt {p : Program} {l : Launch} {e : Env} {R : Room} {s : State} {m₀ : MethodId} {args : Array Value} {below : List Frame} {meth : Method} {c : Code} {W : State} {locs : List Loc} {cells slots : Nat}
    (X : Stand p l e R s m₀ args below meth c W locs cells slots) (hexec : p.tables.exec = Jvm.exec) (htr : e.platform.stackTraces = false) {cls : String} {names : List String} {text : String}
    (hcls : Bundle.fit cls = true) (hnames : ∀ n ∈ names, Bundle.fit n = true) (hsoe : (cls == "java/lang/StackOverflowError") = false) (hoom : (cls == "java/lang/OutOfMemoryError") = false)
    (h : ∀ a ∈ Bundle.messageArmAtoms cls names, a.before args s = true)
    (hlocs : ∀ x ∈ locs, ∀ cell, s.heap[x.base]? = some cell → cell.vm.isStatics = false)
    (htext : (text == notModelled) = false) (hlimit : ¬ (stringBytes (stringToUtf16 text)).size > e.platform.arrayLengthLimit) (hheap : ¬ (stringBytes (stringToUtf16 text)).size * componentBytes .byte > e.platform.maxHeapBytes)
    {g : JFrame} (hg : g.method = m₀) (hsize : g.locals.size = c.maxLocals)
    (hRframes : names.length + 4 < R.frames) (hRlocals : 2 * g.monitorRoom + (g.stack.map fun v => v.category).sum + 10240 ≤ R.locals) (hshort : 13 * names.length + 55 ≤ 10240)
    (hRcells : cells + 3 ≤ R.cells) (hRslots : slots + ((stringBytes (stringToUtf16 text)).size + 4 + 6) ≤ R.slots) (hlocks : meth.locks = false) :
    ∃ (S : State) (q : Addr) (ce : Cell), (∀ target, Steps p.tables e below ((S.setTop g).pushFrame (.throwing q)) target → Steps p.tables e below ((W.setTop g).pushFrame (.throwNew cls (some text) none)) target) ∧
      Stand p l e R s m₀ args below meth c S locs (cells + 3) (slots + ((stringBytes (stringToUtf16 text)).size + 4 + 6)) ∧ S.heap[q]? = some ce ∧ s.vm.findClass cls = some ce.cls ∧ ce.vm = .none := by
  have howns : e.platform.frameOwnsMonitors = true := by rw [X.admits.platform]
  have hfin : e.platform.finalization = false := by rw [X.admits.platform]
  have hpl : e.platform.magicAccessors = ({} : Platform).magicAccessors := by rw [X.admits.platform]
  have a : ∀ x, x ∈ Bundle.messageArmAtoms cls names → x.holds args s none s [] = true := fun x hx => h x hx
  obtain ⟨T, Z0, L, -, Y⟩ := ThrowableC.of_atoms (args := args) howns hfin hpl (fun x hx => h x (by simp [Bundle.messageArmAtoms, hx]))
  obtain ⟨Z, M, LZ, LM, hnZ⟩ := Init0T.ofS_atoms (args := args) hpl L Y (fun x hx => h x (by simp [Bundle.messageArmAtoms, hx]))
  obtain ⟨P1, Ps, hlen, L1, hL, hP1m, hlink1, hlink⟩ := Bundle.chainS (args := args) hpl hnZ names cls hcls hnames (fun x hx => h x (by simp [Bundle.messageArmAtoms, hx]))
  obtain ⟨Zs, LZs, hn4, hfitv, hfitc⟩ := StringT.of_atoms (args := args) (fun x hx => h x (by simp [Bundle.messageArmAtoms, hx]))
  have hfound : s.vm.findClass cls = some P1.m.cls := findClass_of_methodNamed hP1m
  obtain ⟨c1, kX, hc1, hk, hord, -, -, hn6⟩ := Cond.instantiable_spec (a (.instantiable cls 6) (by simp [Bundle.messageArmAtoms]))
  cases Option.some.inj (hc1.symm.trans hfound)
  have hinit := Cond.initialized_spec hfound hk (a (.initialized cls) (by simp [Bundle.messageArmAtoms]))
  have hctor : kX.findMethod "<init>" "(Ljava/lang/String;)V" = some P1.m.idx := findMethod_of_methodNamed hP1m hk
  have hsel0 : selectMethod e.platform s.vm P1.m.cls T.fill0 = .method T.fill0 := by
    obtain ⟨c2, r2, m2, q1, q2, q3, q4, -⟩ := Cond.selects_spec (a (.selects cls Bundle.tFill0 Bundle.tFill0) (by simp [Bundle.messageArmAtoms]))
    cases Option.some.inj (q1.symm.trans hfound)
    cases Option.some.inj (q2.symm.trans (State.methodFound?_of_named Y.fill0 (by decide)))
    cases Option.some.inj (q3.symm.trans Y.fill0)
    rw [Launch.admits_selectMethod X.admits]; exact q4
  have hselF : selectMethod e.platform s.vm P1.m.cls T.fill = .method T.fill := by
    obtain ⟨c2, r2, m2, q1, q2, q3, q4, -⟩ := Cond.selects_spec (a (.selects cls Bundle.tFill Bundle.tFill) (by simp [Bundle.messageArmAtoms]))
    cases Option.some.inj (q1.symm.trans hfound)
    cases Option.some.inj (q2.symm.trans (State.methodFound?_of_named Y.fill (by decide)))
    cases Option.some.inj (q3.symm.trans Y.fill)
    rw [Launch.admits_selectMethod X.admits]; exact q4
  obtain ⟨cellS0, hcS0, hiss⟩ := Y.statics
  obtain ⟨u0, hu0⟩ := Cond.staticRefV Y.unassigned L.unassignedStatic L.statics hcS0 hiss (a (.isRef (.static Bundle.tN "UNASSIGNED_STACK" Bundle.steD)) (by simp [Bundle.messageArmAtoms]))
  obtain ⟨sen, hsen⟩ := Cond.staticRefV Y.sentinel L.sentinelStatic L.statics hcS0 hiss (a (.isRef (.static Bundle.tN "SUPPRESSED_SENTINEL" Bundle.listD)) (by simp [Bundle.messageArmAtoms]))
  obtain ⟨ci198, i198, fB, hk198, hg198, ha198, hsB, -, hnB, htB, hffB⟩ := Cond.ownField (t := .object "java/lang/Object") Y.found L.cls (by decide +kernel) (a (.fieldLink Bundle.tN 198 Bundle.tN "backtrace" "Ljava/lang/Object;") (by simp [Bundle.messageArmAtoms])) (a (.lays Bundle.tN Bundle.tN "backtrace" "Ljava/lang/Object;") (by simp [Bundle.messageArmAtoms])) e.platform hpl
  obtain ⟨cellS, hcS', heS, -, hkeep⟩ := X.same.2.2.2.2.2 T.aS cellS0 hcS0
  have hcellS : W.heap[T.aS]? = some cellS := hcS'
  have hout' : ∀ i, (⟨T.aS, i⟩ : Loc) ∉ locs := fun i hmem => by
    have := hlocs _ hmem cellS0 hcS0
    rw [hiss] at this; cases this
  have hknownS : cellS.vm ≠ .unknown := by
    rw [heS]; intro hu
    rw [show cellS0.vm = .unknown from hu] at hiss
    cases hiss
  have hvU : cellS.slots[T.fUnassigned.slot]? = some u0.v := by rw [hkeep _ (hout' _)]; exact hu0
  have hvSen : cellS.slots[T.fSentinel.slot]? = some sen.v := by rw [hkeep _ (hout' _)]; exact hsen
  obtain ⟨iM, hffM⟩ := Y.msg
  obtain ⟨tyC, dC, hdC, hdnC⟩ := Cond.laysAt hfound hk Y.cause (a (.lays cls Bundle.tN "cause" "Ljava/lang/Throwable;") (by simp [Bundle.messageArmAtoms]))
  obtain ⟨tyS, dS, hdS, hdnS⟩ := Cond.laysAt hfound hk Y.stack (a (.lays cls Bundle.tN "stackTrace" Bundle.steD) (by simp [Bundle.messageArmAtoms]))
  obtain ⟨tyP, dP, hdP, hdnP⟩ := Cond.laysAt hfound hk Y.supp (a (.lays cls Bundle.tN "suppressedExceptions" Bundle.listD) (by simp [Bundle.messageArmAtoms]))
  obtain ⟨tyM, dM, hdM, hdnM⟩ := Cond.laysAt hfound hk hffM (a (.lays cls Bundle.tN "detailMessage" "Ljava/lang/String;") (by simp [Bundle.messageArmAtoms]))
  obtain ⟨tyB, dB, hdB, hdnB⟩ := Cond.laysAt hfound hk hffB (a (.lays cls Bundle.tN "backtrace" "Ljava/lang/Object;") (by simp [Bundle.messageArmAtoms]))
  have bC := Cond.laysApart hdB hdC hdnB hdnC (by rw [hnB, Y.causeName]; decide)
  have bS := Cond.laysApart hdB hdS hdnB hdnS (by rw [hnB, Y.stackName]; decide)
  have bP := Cond.laysApart hdB hdP hdnB hdnP (by rw [hnB, Y.suppName]; decide)
  have hbk : ((preparedCellV T.toThrowableT (freshCell P1.m.cls kX) (W.heap.size + 2) u0 sen).withEntry W.cur).slots[fB.slot]? = some .null := by
    have := fresh_default (c := P1.m.cls) tyB
    rw [htB] at this
    simpa [preparedCellV, Cell.setSlot, Cell.withEntry, Array.getElem?_setIfInBounds, bC, bS, bP, bC.symm, bS.symm, bP.symm, defaultValue] using this
  have tkC := Takes.of_laid (v := .ref (W.heap.size + 2)) hk hord tyC (by rw [Y.causeType]; rfl)
  have tkS := Takes.of_laid (v := u0.v) hk hord tyS (by rw [Y.stackType]; exact fits_refV_array _ u0)
  have tkP := Takes.of_laid (v := sen.v) hk hord tyP (by rw [Y.suppType]; exact fits_refV_object _ sen)
  have tkM := Takes.of_laid (v := .ref (W.heap.size + 1)) hk hord tyM (by rw [Y.msgType]; rfl)
  have hskip : SkipFacts T e.platform s (fun u => u) u0 ((preparedCellV T.toThrowableT (freshCell P1.m.cls kX) (W.heap.size + 2) u0 sen).withEntry W.cur) := ⟨{ ci198 := ci198, i198 := i198, fBack := fB }, ⟨hk198, hg198, ha198, hsB⟩, hbk, fun _ _ => rfl⟩
  have h0 : At W g.method c below := by rw [hg]; exact X.here
  obtain ⟨hbeyond, hfreeW⟩ := X.vmMayThrow hsize (.throwNew cls (some text) none) (fun f hf => by cases hf) rfl hRlocals
  have hfr' : W.frames.length + Ps.length + 4 < (e.platform.stackLimits W.me).1 := by have := X.framesAbove hRframes; omega
  have hwd' : (stackUse (.java g :: W.frames.tail)).2 + 13 * Ps.length + 55 ≤ (e.platform.stackLimits W.me).2 := by have := X.stackAbove hsize (K := 13 * Ps.length + 55) (by omega); omega
  have hslots : W.slotsUsed + (stringBytes (stringToUtf16 text)).size + Zs.kS.instanceTypes.size + kX.instanceTypes.size ≤ e.platform.maxSlots := by
    have := X.slotsAbove hRslots
    rw [hn4, hn6]
    omega
  obtain ⟨vm', hW', st⟩ := Steps.vmThrowsMessageColdByV p (s₀ := s) (S := W) (g := g) h0 hexec T L Z LZ M LM X.warmed (t := W.cur) rfl Zs LZs P1 L1 Ps hL hlink1 hlink hsoe hoom hfound hk hinit hord hctor
    (Launch.admits_hotImplicitExceptions X.admits) hbeyond hfreeW htext hlimit hheap (X.cellsAbove hRcells) hslots (hfitv _) (hfitc _)
    (Nn := fun u => u) heapOnly_id (fun _ _ => rfl) (fun _ => rfl) (fun u x y => setCell_twice _ _ _ _) (fun _ => Nat.le_refl _) (cN := ((preparedCellV T.toThrowableT (freshCell P1.m.cls kX) (W.heap.size + 2) u0 sen).withEntry W.cur))
    hsel0 hcellS hknownS hvU tkS (fun _ hu => hu) (fun _ hu => hu) rfl rfl rfl (by simp [preparedCellV, Cell.setSlot, Cell.withEntry]) hskip (fun _ _ hA hW _ hroom _ hrest => L.nativeOff p htr hA hW hroom hrest) hselF hvSen tkC tkP tkM Y.objLocals rfl hfr' hwd'
  rw [plainBareV_eq T.toThrowableT (W.heap.size + 2) u0 sen (.ref (W.heap.size + 1)) W.cur rfl rfl] at st
  obtain ⟨-, -, w3, w4, -, -, -⟩ := withThrown_facts e.platform W Zs text P1.m.cls kX
  have X3 := ((X.pushed (bytesOf Zs.cB (stringToUtf16 text))).pushed (stringAt Zs.cS Zs.kS Zs.fv Zs.fc (stringToUtf16 text) W.heap.size)).pushed (freshCell P1.m.cls kX)
  rw [← withString_eq] at X3
  have X4 := X3.noted hW'
  have ha : (W.heap.size + 2) < ((withThrown W Zs text P1.m.cls kX).setVm vm').heap.size := by show _ < (withThrown W Zs text P1.m.cls kX).heap.size; rw [w3]; omega
  have hcell : ((withThrown W Zs text P1.m.cls kX).setVm vm').heap[(W.heap.size + 2)]? = some (freshCell P1.m.cls kX) := w4
  have X5 := ((((X4.stored hcell T.fCause.slot (.ref (W.heap.size + 2))).storedAgain ha T.fStack.slot u0.v).storedAgain ha T.fSupp.slot sen.v).storedAgain ha T.fStack.slot u0.v).storedAgain ha T.fMsg.slot (.ref (W.heap.size + 1))
  obtain ⟨g₁, hfrM⟩ := X5.frames_eq
  have hU : ((((withThrown W Zs text P1.m.cls kX).setVm vm').setCell (W.heap.size + 2) (plainBareV T.toThrowableT (freshCell P1.m.cls kX) (W.heap.size + 2) u0 sen (.ref (W.heap.size + 1)))).setTop g).pushFrame (.throwing (W.heap.size + 2)) = (((withThrown W Zs text P1.m.cls kX).setVm vm').setCell (W.heap.size + 2) (plainBareV T.toThrowableT (freshCell P1.m.cls kX) (W.heap.size + 2) u0 sen (.ref (W.heap.size + 1)))).setFrames (.throwing (W.heap.size + 2) :: .java g :: below) := by
    rw [State.pushFrame, State.frames_setTop _ hfrM, State.setTop_of_frames _ hfrM, State.setFrames_setFrames]
  have b1 : (bytesOf Zs.cB (stringToUtf16 text)).slots.size = (stringBytes (stringToUtf16 text)).size := by
    rw [(Cell.writeAll_facts _ _).2.2]; simp [bytes0]
  have b2 : (stringAt Zs.cS Zs.kS Zs.fv Zs.fc (stringToUtf16 text) W.heap.size).slots.size = 4 := by simp [string0, Cell.setSlot, hn4]
  have b3 : (freshCell P1.m.cls kX).slots.size = 6 := by simp [hn6]
  rw [b1, b2, b3] at X5
  have e9 : slots + (stringBytes (stringToUtf16 text)).size + 4 + 6 = slots + ((stringBytes (stringToUtf16 text)).size + 4 + 6) := by omega
  rw [e9] at X5
  simp only [List.append_assoc, List.cons_append, List.nil_append] at X5
  refine ⟨((withThrown W Zs text P1.m.cls kX).setVm vm').setCell (W.heap.size + 2) (plainBareV T.toThrowableT (freshCell P1.m.cls kX) (W.heap.size + 2) u0 sen (.ref (W.heap.size + 1))), W.heap.size + 2, _, fun target ht => st _ (by rw [X.tail, ← hU]; exact ht),
    X5.forget (fun y hy => ?_), heapAt_setCell_self _ ha, hfound, rfl⟩
  simp only [List.mem_cons, List.not_mem_nil, or_false] at hy
  have hge : s.heap.size ≤ W.heap.size := X.same.2.1
  rcases hy with rfl | rfl | rfl | rfl | rfl <;> exact Nat.le_trans hge (Nat.le_add_right _ 2)
set_option maxHeartbeats 1000000 in
/-- the machine throws NullPointerException, no traces kept: from its note over the frame g to 'throwing' over the same frame (follows the proof of Stand.vmThrowsNpe, Shelf42/KT2.lean; throwsNpeColdBareVAt, Shelf42/NT91.lean, called) -/
theorem vx_npeAt {p : Program} {l : Launch} {e : Env} {R : Room} {s : State} {m₀ : MethodId} {args : Array Value} {below : List Frame} {meth : Method} {c : Code} {W : State} {locs : List Loc} {cells slots : Nat}
    (X : Stand p l e R s m₀ args below meth c W locs cells slots) (hexec : p.tables.exec = Jvm.exec) (htr : e.platform.stackTraces = false) {n : Nat}
    (h : ∀ a ∈ Bundle.npeArmAtoms n, a.before args s = true)
    (hlocs : ∀ x ∈ locs, ∀ cell, s.heap[x.base]? = some cell → cell.vm.isStatics = false)
    {g : JFrame} (hg : g.method = m₀) (hsize : g.locals.size = c.maxLocals)
    (hRframes : 7 < R.frames) (hRlocals : 2 * g.monitorRoom + (g.stack.map fun v => v.category).sum + 10240 ≤ R.locals)
    (hRcells : cells + 1 ≤ R.cells) (hRslots : slots + n ≤ R.slots) (hlocks : meth.locks = false) :
    ∃ (S : State) (q : Addr) (ce : Cell), (∀ target, Steps p.tables e below ((S.setTop g).pushFrame (.throwing q)) target → Steps p.tables e below ((W.setTop g).pushFrame (.throwNew "java/lang/NullPointerException" none none)) target) ∧
      Stand p l e R s m₀ args below meth c S locs (cells + 1) (slots + n) ∧ S.heap[q]? = some ce ∧ s.vm.findClass "java/lang/NullPointerException" = some ce.cls ∧ ce.vm = .none := by
  have howns : e.platform.frameOwnsMonitors = true := by rw [X.admits.platform]
  have hfin : e.platform.finalization = false := by rw [X.admits.platform]
  have hpl : e.platform.magicAccessors = ({} : Platform).magicAccessors := by rw [X.admits.platform]
  have hpl2 : e.platform.arrayCloneIsPublic = true := by rw [X.admits.platform]
  have a' : ∀ x, x ∈ Bundle.npeArmAtoms n → x.holds args s none s [] = true := fun x hx => h x hx
  obtain ⟨T, Z, L, LZ, Y⟩ := ThrowableC.of_atoms (args := args) howns hfin hpl (fun x hx => h x (by simp [Bundle.npeArmAtoms, hx]))
  obtain ⟨N, LN, hcN, hnNF, hordN, hffS⟩ := NpeC.of_atoms (args := args) hpl hpl2 L Y (fun x hx => h x (by simp [Bundle.npeArmAtoms, hx]))
  obtain ⟨P1, L1, hP1m, hP1s⟩ := PassC.of_atoms (args := args) (s := s) hpl (X := Bundle.nN) (Y := Bundle.rN) (by decide) (by decide) LibCode.NullPointerException.Init0.at_0 LibCode.NullPointerException.Init0.at_1 LibCode.NullPointerException.Init0.at_4 (fun x hx => h x (by simp [Bundle.npeArmAtoms, hx]))
  obtain ⟨PR, LR, hPRm, hPRs⟩ := PassC.of_atoms (args := args) (s := s) hpl (X := Bundle.rN) (Y := Bundle.eN) (by decide) (by decide) LibCode.RuntimeException.Init0.at_0 LibCode.RuntimeException.Init0.at_1 LibCode.RuntimeException.Init0.at_4 (fun x hx => h x (by simp [Bundle.npeArmAtoms, hx]))
  obtain ⟨PE, LEx, hPEm, hPEs⟩ := PassC.of_atoms (args := args) (s := s) hpl (X := Bundle.eN) (Y := Bundle.tN) (by decide) (by decide) LibCode.Exception.Init0.at_0 LibCode.Exception.Init0.at_1 LibCode.Exception.Init0.at_4 (fun x hx => h x (by simp [Bundle.npeArmAtoms, hx]))
  have hfound : s.vm.findClass Bundle.nN = some P1.m.cls := findClass_of_methodNamed hP1m
  have ecls : N.cN = P1.m.cls := Option.some.inj (hcN.symm.trans hfound)
  have hk : s.vm.classes[P1.m.cls]? = some N.kN := by rw [← ecls]; exact LN.cls
  have hinit := Cond.initialized_spec hfound hk (a' (.initialized Bundle.nN) (by simp [Bundle.npeArmAtoms]))
  have hctor : N.kN.findMethod "<init>" "()V" = some P1.m.idx := findMethod_of_methodNamed hP1m hk
  obtain ⟨c1, k1, hc1, hk1, -, -, -, hn⟩ := Cond.instantiable_spec (a' (.instantiable Bundle.nN n) (by simp [Bundle.npeArmAtoms]))
  cases Option.some.inj (hc1.symm.trans hfound)
  cases Option.some.inj (hk1.symm.trans hk)
  have hfsz : (freshCell P1.m.cls N.kN).slots.size = n := by simp [hn]
  have hlink1 : P1.sup = PR.m := Option.some.inj (hP1s.symm.trans hPRm)
  have hlinkR : PR.sup = PE.m := Option.some.inj (hPRs.symm.trans hPEm)
  have hlinkE : PE.sup = Z.m T.toThrowableT := Option.some.inj (hPEs.symm.trans Y.init0)
  have hLs : ∀ P, P ∈ [PR, PE] → P.Links0 e.platform s := fun P hP => by
    simp only [List.mem_cons, List.not_mem_nil, or_false] at hP
    rcases hP with rfl | rfl
    · exact LR
    · exact LEx
  have hsel0 : selectMethod e.platform s.vm P1.m.cls T.fill0 = .method T.fill0 := by
    obtain ⟨c2, r2, m2, q1, q2, q3, q4, -⟩ := Cond.selects_spec (a' (.selects Bundle.nN Bundle.tFill0 Bundle.tFill0) (by simp [Bundle.npeArmAtoms]))
    cases Option.some.inj (q1.symm.trans hfound)
    cases Option.some.inj (q2.symm.trans (State.methodFound?_of_named Y.fill0 (by decide)))
    cases Option.some.inj (q3.symm.trans Y.fill0)
    rw [Launch.admits_selectMethod X.admits]; exact q4
  have hselF : selectMethod e.platform s.vm P1.m.cls T.fill = .method N.fill := by
    obtain ⟨c2, r2, m2, q1, q2, q3, q4, -⟩ := Cond.selects_spec (a' (.selects Bundle.nN Bundle.tFill Bundle.nFill) (by simp [Bundle.npeArmAtoms]))
    cases Option.some.inj (q1.symm.trans hfound)
    cases Option.some.inj (q2.symm.trans (State.methodFound?_of_named Y.fill (by decide)))
    cases Option.some.inj (q3.symm.trans hnNF)
    rw [Launch.admits_selectMethod X.admits]; exact q4
  obtain ⟨cellS0, hcS0, hiss⟩ := Y.statics
  obtain ⟨u0, hu0⟩ := Cond.staticRefV Y.unassigned L.unassignedStatic L.statics hcS0 hiss (a' (.isRef (.static Bundle.tN "UNASSIGNED_STACK" Bundle.steD)) (by simp [Bundle.npeArmAtoms]))
  obtain ⟨sen, hsen⟩ := Cond.staticRefV Y.sentinel L.sentinelStatic L.statics hcS0 hiss (a' (.isRef (.static Bundle.tN "SUPPRESSED_SENTINEL" Bundle.listD)) (by simp [Bundle.npeArmAtoms]))
  obtain ⟨ci198, i198, fB, hk198, hg198, ha198, hsB, -, hnB, htB, hffB⟩ := Cond.ownField (t := .object "java/lang/Object") Y.found L.cls (by decide +kernel) (a' (.fieldLink Bundle.tN 198 Bundle.tN "backtrace" Bundle.objD) (by simp [Bundle.npeArmAtoms])) (a' (.lays Bundle.tN Bundle.tN "backtrace" Bundle.objD) (by simp [Bundle.npeArmAtoms])) e.platform hpl
  obtain ⟨cellS, hcS', heS, -, hkeep⟩ := X.same.2.2.2.2.2 T.aS cellS0 hcS0
  have hcellS : W.heap[T.aS]? = some cellS := hcS'
  have hout' : ∀ i, (⟨T.aS, i⟩ : Loc) ∉ locs := fun i hmem => by
    have := hlocs _ hmem cellS0 hcS0
    rw [hiss] at this; cases this
  have hknownS : cellS.vm ≠ .unknown := by
    rw [heS]; intro hu
    rw [show cellS0.vm = .unknown from hu] at hiss
    cases hiss
  have hvU : cellS.slots[T.fUnassigned.slot]? = some u0.v := by rw [hkeep _ (hout' _)]; exact hu0
  have hvSen : cellS.slots[T.fSentinel.slot]? = some sen.v := by rw [hkeep _ (hout' _)]; exact hsen
  obtain ⟨tyC, dC, hdC, hdnC⟩ := Cond.laysAt hfound hk Y.cause (a' (.lays Bundle.nN Bundle.tN "cause" "Ljava/lang/Throwable;") (by simp [Bundle.npeArmAtoms]))
  obtain ⟨tyS, dS, hdS, hdnS⟩ := Cond.laysAt hfound hk Y.stack (a' (.lays Bundle.nN Bundle.tN "stackTrace" Bundle.steD) (by simp [Bundle.npeArmAtoms]))
  obtain ⟨tyP, dP, hdP, hdnP⟩ := Cond.laysAt hfound hk Y.supp (a' (.lays Bundle.nN Bundle.tN "suppressedExceptions" Bundle.listD) (by simp [Bundle.npeArmAtoms]))
  obtain ⟨tyX, dX, hdX, hdnX⟩ := Cond.laysAt hfound hk hffS (a' (.lays Bundle.nN Bundle.nN "extendedMessageState" "I") (by simp [Bundle.npeArmAtoms, Bundle.npeAtoms]))
  obtain ⟨hnX, htX⟩ := State.fieldFound?_type hffS (t := .int) (by decide +kernel)
  have xC := Cond.laysApart hdC hdX hdnC hdnX (by rw [hnX, Y.causeName]; decide)
  have xS := Cond.laysApart hdS hdX hdnS hdnX (by rw [hnX, Y.stackName]; decide)
  have xP := Cond.laysApart hdP hdX hdnP hdnX (by rw [hnX, Y.suppName]; decide)
  have hv0 : (freshCell P1.m.cls N.kN).slots[N.fState.slot]? = some (.int 0) := by
    have := fresh_default (c := P1.m.cls) tyX
    rw [htX] at this; exact this
  obtain ⟨tyB, dB, hdB, hdnB⟩ := Cond.laysAt hfound hk hffB (a' (.lays Bundle.nN Bundle.tN "backtrace" Bundle.objD) (by simp [Bundle.npeArmAtoms]))
  have bC := Cond.laysApart hdB hdC hdnB hdnC (by rw [hnB, Y.causeName]; decide)
  have bS := Cond.laysApart hdB hdS hdnB hdnS (by rw [hnB, Y.stackName]; decide)
  have bP := Cond.laysApart hdB hdP hdnB hdnP (by rw [hnB, Y.suppName]; decide)
  have bX := Cond.laysApart hdB hdX hdnB hdnX (by rw [hnB, hnX]; decide)
  have hbk : ((npeCell N.toNpeT (preparedCellV T.toThrowableT (freshCell P1.m.cls N.kN) W.heap.size u0 sen) W.cur).withEntry W.cur).slots[fB.slot]? = some .null := by
    have := fresh_default (c := P1.m.cls) tyB
    rw [htB] at this
    simpa [npeCell, preparedCellV, Cell.setSlot, Cell.withEntry, Array.getElem?_setIfInBounds, bC, bS, bP, bX, bC.symm, bS.symm, bP.symm, bX.symm, defaultValue] using this
  have tkC := Takes.of_laid (v := .ref W.heap.size) hk hordN tyC (by rw [Y.causeType]; rfl)
  have tkS := Takes.of_laid (v := u0.v) hk hordN tyS (by rw [Y.stackType]; exact fits_refV_array _ u0)
  have tkP := Takes.of_laid (v := sen.v) hk hordN tyP (by rw [Y.suppType]; exact fits_refV_object _ sen)
  have tkX := Takes.of_laid (v := .int 1) hk hordN tyX (by rw [htX]; rfl)
  have hskip : SkipFacts T e.platform s (fun u => u) u0 ((npeCell N.toNpeT (preparedCellV T.toThrowableT (freshCell P1.m.cls N.kN) W.heap.size u0 sen) W.cur).withEntry W.cur) := ⟨{ ci198 := ci198, i198 := i198, fBack := fB }, ⟨hk198, hg198, ha198, hsB⟩, hbk, fun _ _ => rfl⟩
  obtain ⟨vm', X3, st, -⟩ := X.throwsNpeColdBareVAt hexec hg hsize T L Z LZ N LN P1 L1 [PR, PE] hLs hlink1 ⟨hlinkR, hlinkE, trivial⟩ hfound hk hinit hordN hctor hsel0 hselF hcellS hknownS hvU hvSen
    hv0 xC xS xP tkC tkS tkP tkX Y.objLocals hskip (fun _ _ hA hW _ hroom _ hrest => L.nativeOff p htr hA hW hroom hrest) (by simpa using hRframes) hRlocals (by simp) hRcells (by rw [hn]; exact hRslots)
  have hlt : W.heap.size < ((W.pushCell (freshCell P1.m.cls N.kN)).setVm vm').heap.size := by
    show W.heap.size < (W.pushCell (freshCell P1.m.cls N.kN)).heap.size
    rw [State.heap_size_pushCell]; omega
  rw [hfsz] at X3
  obtain ⟨g₁, hfrM⟩ := X3.frames_eq
  have hU : ((((W.pushCell (freshCell P1.m.cls N.kN)).setVm vm').setCell W.heap.size (npeBareV T.toThrowableT N.toNpeT (freshCell P1.m.cls N.kN) W.heap.size u0 sen)).setTop g).pushFrame (.throwing W.heap.size) = (((W.pushCell (freshCell P1.m.cls N.kN)).setVm vm').setCell W.heap.size (npeBareV T.toThrowableT N.toNpeT (freshCell P1.m.cls N.kN) W.heap.size u0 sen)).setFrames (.throwing W.heap.size :: .java g :: below) := by
    rw [State.pushFrame, State.frames_setTop _ hfrM, State.setTop_of_frames _ hfrM, State.setFrames_setFrames]
  refine ⟨_, W.heap.size, _, fun target ht => st.trans (by rw [← hU]; exact ht), X3.forget (fun y hy => ?_), heapAt_setCell_self _ hlt, hfound, rfl⟩
  simp only [List.mem_cons, List.not_mem_nil, or_false] at hy
  have hge : s.heap.size ≤ W.heap.size := X.same.2.1
  rcases hy with rfl | rfl | rfl | rfl | rfl <;> exact hge
/-- the words of a machine's NullPointerException, but the four that speak of the heap -/
def vx_atN (n : Nat) : List Cond := (Bundle.npeArmAtoms n).filter vx_no
/-- the words of a machine's throw with a message, but the four that speak of the heap -/
def vx_atM (X : String) (names : List String) : List Cond := (Bundle.messageArmAtoms X names).filter vx_no
section
variable {p : Program} {l : Launch} {e : Env} {R : Room} {s : State} {m : MethodId} {args : Array Value} {below : List Frame} {meth : Method} {c : Code} {H : Heap} {locs : List Loc} {cells slots : Nat}
/-- a frame seen from a rebased start, seen from the first start again -/
theorem vx_back9 {T S : State} {R' : Room} {k n : Nat} (X : Stand p l e R s m args below meth c T locs cells slots) (Y : Stand p l e R' ((T.setVm s.vm).setFrames (.invoking m args :: below)) m args below meth c T [] 0 0) (Z : Stand p l e R' ((T.setVm s.vm).setFrames (.invoking m args :: below)) m args below meth c S [] k n) :
    Stand p l e R s m args below meth c S locs (cells + k) (slots + n) := by
  have hW0 : s.WarmedH ((T.setVm s.vm).setFrames (.invoking m args :: below)).vm := State.WarmedH.refl s
  refine { admits := X.admits, cas := X.cas, clock := X.clock, frames := X.frames, room := X.room, hears := X.hears, method := X.method, code := X.code, here := Z.here, tail := Z.tail, warmed := State.WarmedH.trans hW0 Z.warmed, limits := Z.limits.trans (Y.limits.symm.trans X.limits), bytes := Z.bytes.trans (Y.bytes.symm.trans X.bytes), same := ?_ }
  obtain ⟨e1, e2⟩ := Z.same
  rw [State.setFrames_setFrames] at e1
  have h2 : (T.setVm s.vm).sameButNew (S.setVm s.vm) [] k n := ⟨e1, e2⟩
  have h3 := X.same.trans h2
  rw [List.append_nil] at h3
  exact h3
/-- from the machine's note that E is thrown here with this text -/
def vx_Note (p : Program) (l : Launch) (e : Env) (R : Room) (s : State) (m : MethodId) (args : Array Value) (below : List Frame) (meth : Method) (c : Code) (H : Heap) (locs : List Loc) (cells slots : Nat) (Q : State → Prop) (g : JFrame) (E text : String) : Prop :=
  ∀ T : State, T.heap = H → Stand p l e R s m args below meth c T locs cells slots → ∃ t, Steps p.tables e below ((T.setTop g).pushFrame (.throwNew E (some text) none)) t ∧ Q t
theorem vx_vm {pc : Nat} {ls : Array Slot} {rest : List Value} {Q : State → Prop} (hexec : p.tables.exec = Jvm.exec) (hl : l.stackTraces = false) {cls text : String} {names : List String} {nb : Nat} {A : Nat → Prop}
    (hcls : Bundle.fit cls = true) (hnames : ∀ n ∈ names, Bundle.fit n = true) (hsoe : (cls == "java/lang/StackOverflowError") = false) (hoom : (cls == "java/lang/OutOfMemoryError") = false)
    (hat : ∀ w ∈ vx_atM cls names, w.before args s = true) (hgood : ∀ w ∈ vx_atM cls names, vx_ot w = true)
    (hU : vx_Zq Bundle.tN "UNASSIGNED_STACK" Bundle.steD A s s.heap) (hN : vx_Zq Bundle.tN "SUPPRESSED_SENTINEL" Bundle.listD A s s.heap) (hS : va_S A s.heap H locs) (hsize : ls.size = c.maxLocals)
    (htext : (text == notModelled) = false) (hnb : (stringBytes (stringToUtf16 text)).size ≤ nb) (hnb1 : nb ≤ 1000)
    (hRframes : names.length + 4 < R.frames) (hRlocals : (rest.map fun v => v.category).sum + 10240 ≤ R.locals) (hshort : 13 * names.length + 55 ≤ 10240) (hRcells : cells + 3 ≤ R.cells) (hRslots : slots + (nb + 10) ≤ R.slots) (hlocks : meth.locks = false)
    (k : ∀ (H1 : Heap) (q9 : Addr) (ce : Cell), H.size ≤ H1.size → (∀ q : Nat, q < H.size → H1[q]? = H[q]?) → va_S A s.heap H1 locs → H1[q9]? = some ce → ce.vm = .none → s.vm.findClass cls = some ce.cls → vx_W p l e R s m args below meth c H1 locs (cells + 3) (slots + (nb + 10)) Q (F0 m pc ls rest) q9) :
    vx_Note p l e R s m args below meth c H locs cells slots Q (F0 m pc ls rest) cls text := by
  intro T hT X
  have htr : e.platform.stackTraces = false := (show e.platform.stackTraces = l.stackTraces by rw [X.admits.platform]).trans hl
  have Y := vx_rebase X (R' := { frames := R.frames, locals := R.locals, cells := 3, slots := nb + 10 }) (Nat.le_refl _) (Nat.le_refl _) hRcells hRslots
  have hhp : ((T.setVm s.vm).setFrames (.invoking m args :: below)).heap = H := hT
  have hW0 : s.WarmedH ((T.setVm s.vm).setFrames (.invoking m args :: below)).vm := State.WarmedH.refl s
  have hat' : ∀ w ∈ vx_atM cls names, w.before args ((T.setVm s.vm).setFrames (.invoking m args :: below)) = true := fun w hw => vx_ot_at hW0 rfl (hgood w hw) (hat w hw)
  have hU' : vx_Zq Bundle.tN "UNASSIGNED_STACK" Bundle.steD A ((T.setVm s.vm).setFrames (.invoking m args :: below)) ((T.setVm s.vm).setFrames (.invoking m args :: below)).heap := by rw [hhp]; exact vx_Zq.moved hW0.alike (hU.kept hS.2.1)
  have hN' : vx_Zq Bundle.tN "SUPPRESSED_SENTINEL" Bundle.listD A ((T.setVm s.vm).setFrames (.invoking m args :: below)) ((T.setVm s.vm).setFrames (.invoking m args :: below)).heap := by rw [hhp]; exact vx_Zq.moved hW0.alike (hN.kept hS.2.1)
  obtain ⟨S, q, ce, st, Z, hce, hcl', hv⟩ := vx_vmAt Y hexec htr (cls := cls) (names := names) (text := text) hcls hnames hsoe hoom (vx_own hat' (vx_isRefq hU'.1) (vx_isRefq hN'.1) hU'.2.word hN'.2.word) (fun x hx => nomatch hx) htext
    (by rw [Launch.admits_arrayLengthLimit X.admits]; omega) (by rw [Launch.admits_maxHeapBytes X.admits]; simp only [componentBytes]; omega)
    (g := F0 m pc ls rest) rfl hsize hRframes (by show 2 * 0 + (rest.map fun v => v.category).sum + 10240 ≤ R.locals; omega) hshort (by show 0 + 3 ≤ 3; omega) (by show 0 + (_ + 4 + 6) ≤ nb + 10; omega) hlocks
  obtain ⟨f1, f2⟩ := vx_frame Z.same
  have f1' : H.size ≤ S.heap.size := by rw [← hT]; exact f1
  have f2' : ∀ q : Nat, q < H.size → S.heap[q]? = H[q]? := fun q hq => by
    rw [← hT]
    exact f2 q (by rw [← hT] at hq; exact hq) (fun z hz => nomatch hz)
  have X5 := vx_back9 X Y Z
  have X6 : Stand p l e R s m args below meth c S locs (cells + 3) (slots + (nb + 10)) := { X5 with same := X5.same.mono (by omega) (by omega) }
  obtain ⟨t, a1, b1⟩ := k S.heap q ce f1' f2' ⟨Nat.le_trans hS.1 f1', fun q h1 h2 => (f2' q (Nat.lt_of_lt_of_le h1 hS.1)).trans (hS.2.1 q h1 h2), hS.2.2⟩ hce hv hcl' S rfl X6
  exact ⟨t, st t a1, b1⟩
/-- from the machine's note that NullPointerException is thrown here -/
def vx_NoteN (p : Program) (l : Launch) (e : Env) (R : Room) (s : State) (m : MethodId) (args : Array Value) (below : List Frame) (meth : Method) (c : Code) (H : Heap) (locs : List Loc) (cells slots : Nat) (Q : State → Prop) (g : JFrame) : Prop :=
  ∀ T : State, T.heap = H → Stand p l e R s m args below meth c T locs cells slots → ∃ t, Steps p.tables e below ((T.setTop g).pushFrame (.throwNew "java/lang/NullPointerException" none none)) t ∧ Q t
theorem vx_npe {pc : Nat} {ls : Array Slot} {rest : List Value} {Q : State → Prop} (hexec : p.tables.exec = Jvm.exec) (hl : l.stackTraces = false) {nb : Nat} {A : Nat → Prop}
    (hat : ∀ w ∈ vx_atN nb, w.before args s = true) (hgood : ∀ w ∈ vx_atN nb, vx_ot w = true)
    (hU : vx_Zq Bundle.tN "UNASSIGNED_STACK" Bundle.steD A s s.heap) (hN : vx_Zq Bundle.tN "SUPPRESSED_SENTINEL" Bundle.listD A s s.heap) (hS : va_S A s.heap H locs) (hsize : ls.size = c.maxLocals)
    (hRframes : 7 < R.frames) (hRlocals : (rest.map fun v => v.category).sum + 10240 ≤ R.locals) (hRcells : cells + 1 ≤ R.cells) (hRslots : slots + nb ≤ R.slots) (hlocks : meth.locks = false)
    (k : ∀ (H1 : Heap) (q9 : Addr) (ce : Cell), H.size ≤ H1.size → (∀ q : Nat, q < H.size → H1[q]? = H[q]?) → va_S A s.heap H1 locs → H1[q9]? = some ce → ce.vm = .none → s.vm.findClass "java/lang/NullPointerException" = some ce.cls → vx_W p l e R s m args below meth c H1 locs (cells + 1) (slots + nb) Q (F0 m pc ls rest) q9) :
    vx_NoteN p l e R s m args below meth c H locs cells slots Q (F0 m pc ls rest) := by
  intro T hT X
  have htr : e.platform.stackTraces = false := (show e.platform.stackTraces = l.stackTraces by rw [X.admits.platform]).trans hl
  have Y := vx_rebase X (R' := { frames := R.frames, locals := R.locals, cells := 1, slots := nb }) (Nat.le_refl _) (Nat.le_refl _) hRcells hRslots
  have hhp : ((T.setVm s.vm).setFrames (.invoking m args :: below)).heap = H := hT
  have hW0 : s.WarmedH ((T.setVm s.vm).setFrames (.invoking m args :: below)).vm := State.WarmedH.refl s
  have hat' : ∀ w ∈ vx_atN nb, w.before args ((T.setVm s.vm).setFrames (.invoking m args :: below)) = true := fun w hw => vx_ot_at hW0 rfl (hgood w hw) (hat w hw)
  have hU' : vx_Zq Bundle.tN "UNASSIGNED_STACK" Bundle.steD A ((T.setVm s.vm).setFrames (.invoking m args :: below)) ((T.setVm s.vm).setFrames (.invoking m args :: below)).heap := by rw [hhp]; exact vx_Zq.moved hW0.alike (hU.kept hS.2.1)
  have hN' : vx_Zq Bundle.tN "SUPPRESSED_SENTINEL" Bundle.listD A ((T.setVm s.vm).setFrames (.invoking m args :: below)) ((T.setVm s.vm).setFrames (.invoking m args :: below)).heap := by rw [hhp]; exact vx_Zq.moved hW0.alike (hN.kept hS.2.1)
  obtain ⟨S, q, ce, st, Z, hce, hcl', hv⟩ := vx_npeAt Y hexec htr (n := nb) (vx_own hat' (vx_isRefq hU'.1) (vx_isRefq hN'.1) hU'.2.word hN'.2.word) (fun x hx => nomatch hx)
    (g := F0 m pc ls rest) rfl hsize hRframes (by show 2 * 0 + (rest.map fun v => v.category).sum + 10240 ≤ R.locals; omega) (by show 0 + 1 ≤ 1; omega) (by show 0 + nb ≤ nb; omega) hlocks
  obtain ⟨f1, f2⟩ := vx_frame Z.same
  have f1' : H.size ≤ S.heap.size := by rw [← hT]; exact f1
  have f2' : ∀ q : Nat, q < H.size → S.heap[q]? = H[q]? := fun q hq => by
    rw [← hT]
    exact f2 q (by rw [← hT] at hq; exact hq) (fun z hz => nomatch hz)
  have X5 := vx_back9 X Y Z
  have X6 : Stand p l e R s m args below meth c S locs (cells + 1) (slots + nb) := { X5 with same := X5.same.mono (by omega) (by omega) }
  obtain ⟨t, a1, b1⟩ := k S.heap q ce f1' f2' ⟨Nat.le_trans hS.1 f1', fun q h1 h2 => (f2' q (Nat.lt_of_lt_of_le h1 hS.1)).trans (hS.2.1 q h1 h2), hS.2.2⟩ hce hv hcl' S rfl X6
  exact ⟨t, st t a1, b1⟩
variable {Q : State → Prop} {cc : ByteArray} {pc : Nat} {ls : Array Slot} {rest : List Value}
theorem vx_idivZ (hexec : p.tables.exec = Jvm.exec) (hb : c.code = cc) {a b : Int32} (h0 : b = 0) (d : decode cc pc = .ok (.idiv, 1)) (k : vx_Note p l e R s m args below meth c H locs cells slots Q (F0 m pc ls rest) "java/lang/ArithmeticException" "/ by zero") :
    W p l e R s m args below meth c H locs cells slots Q (F0 m pc ls (.int b :: .int a :: rest)) := by
  intro T hT X
  obtain ⟨t, st, q⟩ := k T hT X
  exact ⟨t, X.idivZero hexec (g := F0 m pc ls (.int b :: .int a :: rest)) rfl (a := a) (rest := rest) (by rw [h0]) (by rw [hb]; exact d) t st, q⟩
theorem vx_iremZ (hexec : p.tables.exec = Jvm.exec) (hb : c.code = cc) {a b : Int32} (h0 : b = 0) (d : decode cc pc = .ok (.irem, 1)) (k : vx_Note p l e R s m args below meth c H locs cells slots Q (F0 m pc ls rest) "java/lang/ArithmeticException" "/ by zero") :
    W p l e R s m args below meth c H locs cells slots Q (F0 m pc ls (.int b :: .int a :: rest)) := by
  intro T hT X
  obtain ⟨t, st, q⟩ := k T hT X
  exact ⟨t, X.iremZero hexec (g := F0 m pc ls (.int b :: .int a :: rest)) rfl (a := a) (rest := rest) (by rw [h0]) (by rw [hb]; exact d) t st, q⟩
theorem vx_ldivZ (hexec : p.tables.exec = Jvm.exec) (hb : c.code = cc) {a b : Int64} (h0 : b = 0) (d : decode cc pc = .ok (.ldiv, 1)) (k : vx_Note p l e R s m args below meth c H locs cells slots Q (F0 m pc ls rest) "java/lang/ArithmeticException" "/ by zero") :
    W p l e R s m args below meth c H locs cells slots Q (F0 m pc ls (.long b :: .long a :: rest)) := by
  intro T hT X
  obtain ⟨t, st, q⟩ := k T hT X
  exact ⟨t, X.ldivZero hexec (g := F0 m pc ls (.long b :: .long a :: rest)) rfl (a := a) (rest := rest) (by rw [h0]) (by rw [hb]; exact d) t st, q⟩
theorem vx_lremZ (hexec : p.tables.exec = Jvm.exec) (hb : c.code = cc) {a b : Int64} (h0 : b = 0) (d : decode cc pc = .ok (.lrem, 1)) (k : vx_Note p l e R s m args below meth c H locs cells slots Q (F0 m pc ls rest) "java/lang/ArithmeticException" "/ by zero") :
    W p l e R s m args below meth c H locs cells slots Q (F0 m pc ls (.long b :: .long a :: rest)) := by
  intro T hT X
  obtain ⟨t, st, q⟩ := k T hT X
  exact ⟨t, X.lremZero hexec (g := F0 m pc ls (.long b :: .long a :: rest)) rfl (a := a) (rest := rest) (by rw [h0]) (by rw [hb]; exact d) t st, q⟩
theorem vx_ialdZ {D : va_G} {cl : List vw_C} {ws : va_W} {tys : List (ClassId × FieldType)} {a : Nat} (hexec : p.tables.exec = Jvm.exec) (hb : c.code = cc) (hK : va_K D cl tys s) (hP : va_P D cl ws H) (q0 t0 : Nat) {cA : ClassId} {n : Nat} {f : Nat → Int32} (ha : ws[q0]? = some (a, .inl (cA, n, .inl f))) (ht : tys[t0]? = some (cA, .int)) {i : Int32} (hout : ¬ vp_in i n) (hdg : decode cc pc = .ok (.iaload, 1))
    (k : ∀ tx : String, tx = (toString "Index " ++ toString i ++ toString " out of bounds for length " ++ toString n : String) → vx_Note p l e R s m args below meth c H locs cells slots Q (F0 m pc ls rest) "java/lang/ArrayIndexOutOfBoundsException" tx) : W p l e R s m args below meth c H locs cells slots Q (F0 m pc ls (.int i :: .ref a :: rest)) := by
  intro T hT X
  obtain ⟨t, st, q⟩ := k _ rfl T hT X
  refine ⟨t, ?_, q⟩
  have h1 := X.ialoadOut hexec (by rw [hT]; exact hP q0 _ ha) ((hK.2 t0 _ ht).1 n (fun j => .int (f j))) (j := i) (by show (i < 0 ∨ (arrV _ _ _).slots.size ≤ _); rw [arrV_size]; exact Classical.byContradiction hout) (g := F0 m pc ls (.int i :: .ref a :: rest)) rfl (rest := rest) rfl (by rw [hb]; exact hdg) t
  simp only [arrV_size] at h1
  exact h1 st
theorem vx_iastZ {D : va_G} {cl : List vw_C} {ws : va_W} {tys : List (ClassId × FieldType)} {a : Nat} (hexec : p.tables.exec = Jvm.exec) (hb : c.code = cc) (hK : va_K D cl tys s) (hP : va_P D cl ws H) (q0 t0 : Nat) {cA : ClassId} {n : Nat} {f : Nat → Int32} (ha : ws[q0]? = some (a, .inl (cA, n, .inl f))) (ht : tys[t0]? = some (cA, .int)) {i : Int32} {x : Int32} (hout : ¬ vp_in i n) (hdg : decode cc pc = .ok (.iastore, 1))
    (k : ∀ tx : String, tx = (toString "Index " ++ toString i ++ toString " out of bounds for length " ++ toString n : String) → vx_Note p l e R s m args below meth c H locs cells slots Q (F0 m pc ls rest) "java/lang/ArrayIndexOutOfBoundsException" tx) : W p l e R s m args below meth c H locs cells slots Q (F0 m pc ls (.int x :: .int i :: .ref a :: rest)) := by
  intro T hT X
  obtain ⟨t, st, q⟩ := k _ rfl T hT X
  refine ⟨t, ?_, q⟩
  have h1 := X.iastoreOut hexec (by rw [hT]; exact hP q0 _ ha) ((hK.2 t0 _ ht).1 n (fun j => .int (f j))) (j := i) (by show (i < 0 ∨ (arrV _ _ _).slots.size ≤ _); rw [arrV_size]; exact Classical.byContradiction hout) (g := F0 m pc ls (.int x :: .int i :: .ref a :: rest)) rfl (rest := rest) rfl (by rw [hb]; exact hdg) t
  simp only [arrV_size] at h1
  exact h1 st
theorem vx_baldZ {D : va_G} {cl : List vw_C} {ws : va_W} {tys : List (ClassId × FieldType)} {a : Nat} (hexec : p.tables.exec = Jvm.exec) (hb : c.code = cc) (hK : va_K D cl tys s) (hP : va_P D cl ws H) (q0 t0 : Nat) {cA : ClassId} {n : Nat} {f : Nat → Int32} (ha : ws[q0]? = some (a, .inl (cA, n, .inl f))) (ht : tys[t0]? = some (cA, .byte)) {i : Int32} (hout : ¬ vp_in i n) (hdg : decode cc pc = .ok (.baload, 1))
    (k : ∀ tx : String, tx = (toString "Index " ++ toString i ++ toString " out of bounds for length " ++ toString n : String) → vx_Note p l e R s m args below meth c H locs cells slots Q (F0 m pc ls rest) "java/lang/ArrayIndexOutOfBoundsException" tx) : W p l e R s m args below meth c H locs cells slots Q (F0 m pc ls (.int i :: .ref a :: rest)) := by
  intro T hT X
  obtain ⟨t, st, q⟩ := k _ rfl T hT X
  refine ⟨t, ?_, q⟩
  have h1 := X.baloadOut hexec (by rw [hT]; exact hP q0 _ ha) ((hK.2 t0 _ ht).1 n (fun j => .int (f j))) (j := i) (by show (i < 0 ∨ (arrV _ _ _).slots.size ≤ _); rw [arrV_size]; exact Classical.byContradiction hout) (g := F0 m pc ls (.int i :: .ref a :: rest)) rfl (rest := rest) rfl (by rw [hb]; exact hdg) t
  simp only [arrV_size] at h1
  exact h1 st
theorem vx_bastZ {D : va_G} {cl : List vw_C} {ws : va_W} {tys : List (ClassId × FieldType)} {a : Nat} (hexec : p.tables.exec = Jvm.exec) (hb : c.code = cc) (hK : va_K D cl tys s) (hP : va_P D cl ws H) (q0 t0 : Nat) {cA : ClassId} {n : Nat} {f : Nat → Int32} (ha : ws[q0]? = some (a, .inl (cA, n, .inl f))) (ht : tys[t0]? = some (cA, .byte)) {i : Int32} {x : Int32} (hout : ¬ vp_in i n) (hdg : decode cc pc = .ok (.bastore, 1))
    (k : ∀ tx : String, tx = (toString "Index " ++ toString i ++ toString " out of bounds for length " ++ toString n : String) → vx_Note p l e R s m args below meth c H locs cells slots Q (F0 m pc ls rest) "java/lang/ArrayIndexOutOfBoundsException" tx) : W p l e R s m args below meth c H locs cells slots Q (F0 m pc ls (.int x :: .int i :: .ref a :: rest)) := by
  intro T hT X
  obtain ⟨t, st, q⟩ := k _ rfl T hT X
  refine ⟨t, ?_, q⟩
  have h1 := X.bastoreOut hexec (by rw [hT]; exact hP q0 _ ha) ((hK.2 t0 _ ht).1 n (fun j => .int (f j))) (j := i) (by show (i < 0 ∨ (arrV _ _ _).slots.size ≤ _); rw [arrV_size]; exact Classical.byContradiction hout) (g := F0 m pc ls (.int x :: .int i :: .ref a :: rest)) rfl (rest := rest) rfl (by rw [hb]; exact hdg) t
  simp only [arrV_size] at h1
  exact h1 st
theorem vx_zaldZ {D : va_G} {cl : List vw_C} {ws : va_W} {tys : List (ClassId × FieldType)} {a : Nat} (hexec : p.tables.exec = Jvm.exec) (hb : c.code = cc) (hK : va_K D cl tys s) (hP : va_P D cl ws H) (q0 t0 : Nat) {cA : ClassId} {n : Nat} {f : Nat → Int32} (ha : ws[q0]? = some (a, .inl (cA, n, .inl f))) (ht : tys[t0]? = some (cA, .boolean)) {i : Int32} (hout : ¬ vp_in i n) (hdg : decode cc pc = .ok (.baload, 1))
    (k : ∀ tx : String, tx = (toString "Index " ++ toString i ++ toString " out of bounds for length " ++ toString n : String) → vx_Note p l e R s m args below meth c H locs cells slots Q (F0 m pc ls rest) "java/lang/ArrayIndexOutOfBoundsException" tx) : W p l e R s m args below meth c H locs cells slots Q (F0 m pc ls (.int i :: .ref a :: rest)) := by
  intro T hT X
  obtain ⟨t, st, q⟩ := k _ rfl T hT X
  refine ⟨t, ?_, q⟩
  have h1 := X.baloadOut hexec (by rw [hT]; exact hP q0 _ ha) ((hK.2 t0 _ ht).1 n (fun j => .int (f j))) (j := i) (by show (i < 0 ∨ (arrV _ _ _).slots.size ≤ _); rw [arrV_size]; exact Classical.byContradiction hout) (g := F0 m pc ls (.int i :: .ref a :: rest)) rfl (rest := rest) rfl (by rw [hb]; exact hdg) t
  simp only [arrV_size] at h1
  exact h1 st
theorem vx_zastZ {D : va_G} {cl : List vw_C} {ws : va_W} {tys : List (ClassId × FieldType)} {a : Nat} (hexec : p.tables.exec = Jvm.exec) (hb : c.code = cc) (hK : va_K D cl tys s) (hP : va_P D cl ws H) (q0 t0 : Nat) {cA : ClassId} {n : Nat} {f : Nat → Int32} (ha : ws[q0]? = some (a, .inl (cA, n, .inl f))) (ht : tys[t0]? = some (cA, .boolean)) {i : Int32} {x : Int32} (hout : ¬ vp_in i n) (hdg : decode cc pc = .ok (.bastore, 1))
    (k : ∀ tx : String, tx = (toString "Index " ++ toString i ++ toString " out of bounds for length " ++ toString n : String) → vx_Note p l e R s m args below meth c H locs cells slots Q (F0 m pc ls rest) "java/lang/ArrayIndexOutOfBoundsException" tx) : W p l e R s m args below meth c H locs cells slots Q (F0 m pc ls (.int x :: .int i :: .ref a :: rest)) := by
  intro T hT X
  obtain ⟨t, st, q⟩ := k _ rfl T hT X
  refine ⟨t, ?_, q⟩
  have h1 := X.bastoreOut hexec (by rw [hT]; exact hP q0 _ ha) ((hK.2 t0 _ ht).1 n (fun j => .int (f j))) (j := i) (by show (i < 0 ∨ (arrV _ _ _).slots.size ≤ _); rw [arrV_size]; exact Classical.byContradiction hout) (g := F0 m pc ls (.int x :: .int i :: .ref a :: rest)) rfl (rest := rest) rfl (by rw [hb]; exact hdg) t
  simp only [arrV_size] at h1
  exact h1 st
theorem vx_caldZ {D : va_G} {cl : List vw_C} {ws : va_W} {tys : List (ClassId × FieldType)} {a : Nat} (hexec : p.tables.exec = Jvm.exec) (hb : c.code = cc) (hK : va_K D cl tys s) (hP : va_P D cl ws H) (q0 t0 : Nat) {cA : ClassId} {n : Nat} {f : Nat → Int32} (ha : ws[q0]? = some (a, .inl (cA, n, .inl f))) (ht : tys[t0]? = some (cA, .char)) {i : Int32} (hout : ¬ vp_in i n) (hdg : decode cc pc = .ok (.caload, 1))
    (k : ∀ tx : String, tx = (toString "Index " ++ toString i ++ toString " out of bounds for length " ++ toString n : String) → vx_Note p l e R s m args below meth c H locs cells slots Q (F0 m pc ls rest) "java/lang/ArrayIndexOutOfBoundsException" tx) : W p l e R s m args below meth c H locs cells slots Q (F0 m pc ls (.int i :: .ref a :: rest)) := by
  intro T hT X
  obtain ⟨t, st, q⟩ := k _ rfl T hT X
  refine ⟨t, ?_, q⟩
  have h1 := X.caloadOut hexec (by rw [hT]; exact hP q0 _ ha) ((hK.2 t0 _ ht).1 n (fun j => .int (f j))) (j := i) (by show (i < 0 ∨ (arrV _ _ _).slots.size ≤ _); rw [arrV_size]; exact Classical.byContradiction hout) (g := F0 m pc ls (.int i :: .ref a :: rest)) rfl (rest := rest) rfl (by rw [hb]; exact hdg) t
  simp only [arrV_size] at h1
  exact h1 st
theorem vx_castZ {D : va_G} {cl : List vw_C} {ws : va_W} {tys : List (ClassId × FieldType)} {a : Nat} (hexec : p.tables.exec = Jvm.exec) (hb : c.code = cc) (hK : va_K D cl tys s) (hP : va_P D cl ws H) (q0 t0 : Nat) {cA : ClassId} {n : Nat} {f : Nat → Int32} (ha : ws[q0]? = some (a, .inl (cA, n, .inl f))) (ht : tys[t0]? = some (cA, .char)) {i : Int32} {x : Int32} (hout : ¬ vp_in i n) (hdg : decode cc pc = .ok (.castore, 1))
    (k : ∀ tx : String, tx = (toString "Index " ++ toString i ++ toString " out of bounds for length " ++ toString n : String) → vx_Note p l e R s m args below meth c H locs cells slots Q (F0 m pc ls rest) "java/lang/ArrayIndexOutOfBoundsException" tx) : W p l e R s m args below meth c H locs cells slots Q (F0 m pc ls (.int x :: .int i :: .ref a :: rest)) := by
  intro T hT X
  obtain ⟨t, st, q⟩ := k _ rfl T hT X
  refine ⟨t, ?_, q⟩
  have h1 := X.castoreOut hexec (by rw [hT]; exact hP q0 _ ha) ((hK.2 t0 _ ht).1 n (fun j => .int (f j))) (j := i) (by show (i < 0 ∨ (arrV _ _ _).slots.size ≤ _); rw [arrV_size]; exact Classical.byContradiction hout) (g := F0 m pc ls (.int x :: .int i :: .ref a :: rest)) rfl (rest := rest) rfl (by rw [hb]; exact hdg) t
  simp only [arrV_size] at h1
  exact h1 st
theorem vx_saldZ {D : va_G} {cl : List vw_C} {ws : va_W} {tys : List (ClassId × FieldType)} {a : Nat} (hexec : p.tables.exec = Jvm.exec) (hb : c.code = cc) (hK : va_K D cl tys s) (hP : va_P D cl ws H) (q0 t0 : Nat) {cA : ClassId} {n : Nat} {f : Nat → Int32} (ha : ws[q0]? = some (a, .inl (cA, n, .inl f))) (ht : tys[t0]? = some (cA, .short)) {i : Int32} (hout : ¬ vp_in i n) (hdg : decode cc pc = .ok (.saload, 1))
    (k : ∀ tx : String, tx = (toString "Index " ++ toString i ++ toString " out of bounds for length " ++ toString n : String) → vx_Note p l e R s m args below meth c H locs cells slots Q (F0 m pc ls rest) "java/lang/ArrayIndexOutOfBoundsException" tx) : W p l e R s m args below meth c H locs cells slots Q (F0 m pc ls (.int i :: .ref a :: rest)) := by
  intro T hT X
  obtain ⟨t, st, q⟩ := k _ rfl T hT X
  refine ⟨t, ?_, q⟩
  have h1 := X.saloadOut hexec (by rw [hT]; exact hP q0 _ ha) ((hK.2 t0 _ ht).1 n (fun j => .int (f j))) (j := i) (by show (i < 0 ∨ (arrV _ _ _).slots.size ≤ _); rw [arrV_size]; exact Classical.byContradiction hout) (g := F0 m pc ls (.int i :: .ref a :: rest)) rfl (rest := rest) rfl (by rw [hb]; exact hdg) t
  simp only [arrV_size] at h1
  exact h1 st
theorem vx_sastZ {D : va_G} {cl : List vw_C} {ws : va_W} {tys : List (ClassId × FieldType)} {a : Nat} (hexec : p.tables.exec = Jvm.exec) (hb : c.code = cc) (hK : va_K D cl tys s) (hP : va_P D cl ws H) (q0 t0 : Nat) {cA : ClassId} {n : Nat} {f : Nat → Int32} (ha : ws[q0]? = some (a, .inl (cA, n, .inl f))) (ht : tys[t0]? = some (cA, .short)) {i : Int32} {x : Int32} (hout : ¬ vp_in i n) (hdg : decode cc pc = .ok (.sastore, 1))
    (k : ∀ tx : String, tx = (toString "Index " ++ toString i ++ toString " out of bounds for length " ++ toString n : String) → vx_Note p l e R s m args below meth c H locs cells slots Q (F0 m pc ls rest) "java/lang/ArrayIndexOutOfBoundsException" tx) : W p l e R s m args below meth c H locs cells slots Q (F0 m pc ls (.int x :: .int i :: .ref a :: rest)) := by
  intro T hT X
  obtain ⟨t, st, q⟩ := k _ rfl T hT X
  refine ⟨t, ?_, q⟩
  have h1 := X.sastoreOut hexec (by rw [hT]; exact hP q0 _ ha) ((hK.2 t0 _ ht).1 n (fun j => .int (f j))) (j := i) (by show (i < 0 ∨ (arrV _ _ _).slots.size ≤ _); rw [arrV_size]; exact Classical.byContradiction hout) (g := F0 m pc ls (.int x :: .int i :: .ref a :: rest)) rfl (rest := rest) rfl (by rw [hb]; exact hdg) t
  simp only [arrV_size] at h1
  exact h1 st
theorem vx_laldZ {D : va_G} {cl : List vw_C} {ws : va_W} {tys : List (ClassId × FieldType)} {a : Nat} (hexec : p.tables.exec = Jvm.exec) (hb : c.code = cc) (hK : va_K D cl tys s) (hP : va_P D cl ws H) (q0 t0 : Nat) {cA : ClassId} {n : Nat} {f : Nat → Int64} (ha : ws[q0]? = some (a, .inl (cA, n, .inr (.inl f)))) (ht : tys[t0]? = some (cA, .long)) {i : Int32} (hout : ¬ vp_in i n) (hdg : decode cc pc = .ok (.laload, 1))
    (k : ∀ tx : String, tx = (toString "Index " ++ toString i ++ toString " out of bounds for length " ++ toString n : String) → vx_Note p l e R s m args below meth c H locs cells slots Q (F0 m pc ls rest) "java/lang/ArrayIndexOutOfBoundsException" tx) : W p l e R s m args below meth c H locs cells slots Q (F0 m pc ls (.int i :: .ref a :: rest)) := by
  intro T hT X
  obtain ⟨t, st, q⟩ := k _ rfl T hT X
  refine ⟨t, ?_, q⟩
  have h1 := X.laloadOut hexec (by rw [hT]; exact hP q0 _ ha) ((hK.2 t0 _ ht).1 n (fun j => .long (f j))) (j := i) (by show (i < 0 ∨ (arrV _ _ _).slots.size ≤ _); rw [arrV_size]; exact Classical.byContradiction hout) (g := F0 m pc ls (.int i :: .ref a :: rest)) rfl (rest := rest) rfl (by rw [hb]; exact hdg) t
  simp only [arrV_size] at h1
  exact h1 st
theorem vx_lastZ {D : va_G} {cl : List vw_C} {ws : va_W} {tys : List (ClassId × FieldType)} {a : Nat} (hexec : p.tables.exec = Jvm.exec) (hb : c.code = cc) (hK : va_K D cl tys s) (hP : va_P D cl ws H) (q0 t0 : Nat) {cA : ClassId} {n : Nat} {f : Nat → Int64} (ha : ws[q0]? = some (a, .inl (cA, n, .inr (.inl f)))) (ht : tys[t0]? = some (cA, .long)) {i : Int32} {x : Int64} (hout : ¬ vp_in i n) (hdg : decode cc pc = .ok (.lastore, 1))
    (k : ∀ tx : String, tx = (toString "Index " ++ toString i ++ toString " out of bounds for length " ++ toString n : String) → vx_Note p l e R s m args below meth c H locs cells slots Q (F0 m pc ls rest) "java/lang/ArrayIndexOutOfBoundsException" tx) : W p l e R s m args below meth c H locs cells slots Q (F0 m pc ls (.long x :: .int i :: .ref a :: rest)) := by
  intro T hT X
  obtain ⟨t, st, q⟩ := k _ rfl T hT X
  refine ⟨t, ?_, q⟩
  have h1 := X.lastoreOut hexec (by rw [hT]; exact hP q0 _ ha) ((hK.2 t0 _ ht).1 n (fun j => .long (f j))) (j := i) (by show (i < 0 ∨ (arrV _ _ _).slots.size ≤ _); rw [arrV_size]; exact Classical.byContradiction hout) (g := F0 m pc ls (.long x :: .int i :: .ref a :: rest)) rfl (rest := rest) rfl (by rw [hb]; exact hdg) t
  simp only [arrV_size] at h1
  exact h1 st
theorem vx_faldZ {D : va_G} {cl : List vw_C} {ws : va_W} {tys : List (ClassId × FieldType)} {a : Nat} (hexec : p.tables.exec = Jvm.exec) (hb : c.code = cc) (hK : va_K D cl tys s) (hP : va_P D cl ws H) (q0 t0 : Nat) {cA : ClassId} {n : Nat} {f : Nat → UInt32} (ha : ws[q0]? = some (a, .inl (cA, n, .inr (.inr (.inl f))))) (ht : tys[t0]? = some (cA, .float)) {i : Int32} (hout : ¬ vp_in i n) (hdg : decode cc pc = .ok (.faload, 1))
    (k : ∀ tx : String, tx = (toString "Index " ++ toString i ++ toString " out of bounds for length " ++ toString n : String) → vx_Note p l e R s m args below meth c H locs cells slots Q (F0 m pc ls rest) "java/lang/ArrayIndexOutOfBoundsException" tx) : W p l e R s m args below meth c H locs cells slots Q (F0 m pc ls (.int i :: .ref a :: rest)) := by
  intro T hT X
  obtain ⟨t, st, q⟩ := k _ rfl T hT X
  refine ⟨t, ?_, q⟩
  have h1 := X.faloadOut hexec (by rw [hT]; exact hP q0 _ ha) ((hK.2 t0 _ ht).1 n (fun j => .float (f j))) (j := i) (by show (i < 0 ∨ (arrV _ _ _).slots.size ≤ _); rw [arrV_size]; exact Classical.byContradiction hout) (g := F0 m pc ls (.int i :: .ref a :: rest)) rfl (rest := rest) rfl (by rw [hb]; exact hdg) t
  simp only [arrV_size] at h1
  exact h1 st
theorem vx_fastZ {D : va_G} {cl : List vw_C} {ws : va_W} {tys : List (ClassId × FieldType)} {a : Nat} (hexec : p.tables.exec = Jvm.exec) (hb : c.code = cc) (hK : va_K D cl tys s) (hP : va_P D cl ws H) (q0 t0 : Nat) {cA : ClassId} {n : Nat} {f : Nat → UInt32} (ha : ws[q0]? = some (a, .inl (cA, n, .inr (.inr (.inl f))))) (ht : tys[t0]? = some (cA, .float)) {i : Int32} {x : UInt32} (hout : ¬ vp_in i n) (hdg : decode cc pc = .ok (.fastore, 1))
    (k : ∀ tx : String, tx = (toString "Index " ++ toString i ++ toString " out of bounds for length " ++ toString n : String) → vx_Note p l e R s m args below meth c H locs cells slots Q (F0 m pc ls rest) "java/lang/ArrayIndexOutOfBoundsException" tx) : W p l e R s m args below meth c H locs cells slots Q (F0 m pc ls (.float x :: .int i :: .ref a :: rest)) := by
  intro T hT X
  obtain ⟨t, st, q⟩ := k _ rfl T hT X
  refine ⟨t, ?_, q⟩
  have h1 := X.fastoreOut hexec (by rw [hT]; exact hP q0 _ ha) ((hK.2 t0 _ ht).1 n (fun j => .float (f j))) (j := i) (by show (i < 0 ∨ (arrV _ _ _).slots.size ≤ _); rw [arrV_size]; exact Classical.byContradiction hout) (g := F0 m pc ls (.float x :: .int i :: .ref a :: rest)) rfl (rest := rest) rfl (by rw [hb]; exact hdg) t
  simp only [arrV_size] at h1
  exact h1 st
theorem vx_daldZ {D : va_G} {cl : List vw_C} {ws : va_W} {tys : List (ClassId × FieldType)} {a : Nat} (hexec : p.tables.exec = Jvm.exec) (hb : c.code = cc) (hK : va_K D cl tys s) (hP : va_P D cl ws H) (q0 t0 : Nat) {cA : ClassId} {n : Nat} {f : Nat → UInt64} (ha : ws[q0]? = some (a, .inl (cA, n, .inr (.inr (.inr (.inl f)))))) (ht : tys[t0]? = some (cA, .double)) {i : Int32} (hout : ¬ vp_in i n) (hdg : decode cc pc = .ok (.daload, 1))
    (k : ∀ tx : String, tx = (toString "Index " ++ toString i ++ toString " out of bounds for length " ++ toString n : String) → vx_Note p l e R s m args below meth c H locs cells slots Q (F0 m pc ls rest) "java/lang/ArrayIndexOutOfBoundsException" tx) : W p l e R s m args below meth c H locs cells slots Q (F0 m pc ls (.int i :: .ref a :: rest)) := by
  intro T hT X
  obtain ⟨t, st, q⟩ := k _ rfl T hT X
  refine ⟨t, ?_, q⟩
  have h1 := X.daloadOut hexec (by rw [hT]; exact hP q0 _ ha) ((hK.2 t0 _ ht).1 n (fun j => .double (f j))) (j := i) (by show (i < 0 ∨ (arrV _ _ _).slots.size ≤ _); rw [arrV_size]; exact Classical.byContradiction hout) (g := F0 m pc ls (.int i :: .ref a :: rest)) rfl (rest := rest) rfl (by rw [hb]; exact hdg) t
  simp only [arrV_size] at h1
  exact h1 st
theorem vx_dastZ {D : va_G} {cl : List vw_C} {ws : va_W} {tys : List (ClassId × FieldType)} {a : Nat} (hexec : p.tables.exec = Jvm.exec) (hb : c.code = cc) (hK : va_K D cl tys s) (hP : va_P D cl ws H) (q0 t0 : Nat) {cA : ClassId} {n : Nat} {f : Nat → UInt64} (ha : ws[q0]? = some (a, .inl (cA, n, .inr (.inr (.inr (.inl f)))))) (ht : tys[t0]? = some (cA, .double)) {i : Int32} {x : UInt64} (hout : ¬ vp_in i n) (hdg : decode cc pc = .ok (.dastore, 1))
    (k : ∀ tx : String, tx = (toString "Index " ++ toString i ++ toString " out of bounds for length " ++ toString n : String) → vx_Note p l e R s m args below meth c H locs cells slots Q (F0 m pc ls rest) "java/lang/ArrayIndexOutOfBoundsException" tx) : W p l e R s m args below meth c H locs cells slots Q (F0 m pc ls (.double x :: .int i :: .ref a :: rest)) := by
  intro T hT X
  obtain ⟨t, st, q⟩ := k _ rfl T hT X
  refine ⟨t, ?_, q⟩
  have h1 := X.dastoreOut hexec (by rw [hT]; exact hP q0 _ ha) ((hK.2 t0 _ ht).1 n (fun j => .double (f j))) (j := i) (by show (i < 0 ∨ (arrV _ _ _).slots.size ≤ _); rw [arrV_size]; exact Classical.byContradiction hout) (g := F0 m pc ls (.double x :: .int i :: .ref a :: rest)) rfl (rest := rest) rfl (by rw [hb]; exact hdg) t
  simp only [arrV_size] at h1
  exact h1 st
theorem vx_arraylengthN (hexec : p.tables.exec = Jvm.exec) (hb : c.code = cc) (hdg : decode cc pc = .ok (.arraylength, 1)) (k : vx_NoteN p l e R s m args below meth c H locs cells slots Q (F0 m pc ls rest)) : W p l e R s m args below meth c H locs cells slots Q (F0 m pc ls (.null :: rest)) := by
  intro T hT X
  obtain ⟨t, st, q⟩ := k T hT X
  exact ⟨t, X.arraylengthNull hexec (g := F0 m pc ls (.null :: rest)) rfl (rest := rest) rfl (by rw [hb]; exact hdg) t st, q⟩
theorem vx_ialoadN (hexec : p.tables.exec = Jvm.exec) (hb : c.code = cc) {i : Int32} (hdg : decode cc pc = .ok (.iaload, 1)) (k : vx_NoteN p l e R s m args below meth c H locs cells slots Q (F0 m pc ls rest)) : W p l e R s m args below meth c H locs cells slots Q (F0 m pc ls (.int i :: .null :: rest)) := by
  intro T hT X
  obtain ⟨t, st, q⟩ := k T hT X
  exact ⟨t, X.ialoadNull hexec (g := F0 m pc ls (.int i :: .null :: rest)) rfl (rest := rest) rfl (by rw [hb]; exact hdg) t st, q⟩
theorem vx_laloadN (hexec : p.tables.exec = Jvm.exec) (hb : c.code = cc) {i : Int32} (hdg : decode cc pc = .ok (.laload, 1)) (k : vx_NoteN p l e R s m args below meth c H locs cells slots Q (F0 m pc ls rest)) : W p l e R s m args below meth c H locs cells slots Q (F0 m pc ls (.int i :: .null :: rest)) := by
  intro T hT X
  obtain ⟨t, st, q⟩ := k T hT X
  exact ⟨t, X.laloadNull hexec (g := F0 m pc ls (.int i :: .null :: rest)) rfl (rest := rest) rfl (by rw [hb]; exact hdg) t st, q⟩
theorem vx_faloadN (hexec : p.tables.exec = Jvm.exec) (hb : c.code = cc) {i : Int32} (hdg : decode cc pc = .ok (.faload, 1)) (k : vx_NoteN p l e R s m args below meth c H locs cells slots Q (F0 m pc ls rest)) : W p l e R s m args below meth c H locs cells slots Q (F0 m pc ls (.int i :: .null :: rest)) := by
  intro T hT X
  obtain ⟨t, st, q⟩ := k T hT X
  exact ⟨t, X.faloadNull hexec (g := F0 m pc ls (.int i :: .null :: rest)) rfl (rest := rest) rfl (by rw [hb]; exact hdg) t st, q⟩
theorem vx_daloadN (hexec : p.tables.exec = Jvm.exec) (hb : c.code = cc) {i : Int32} (hdg : decode cc pc = .ok (.daload, 1)) (k : vx_NoteN p l e R s m args below meth c H locs cells slots Q (F0 m pc ls rest)) : W p l e R s m args below meth c H locs cells slots Q (F0 m pc ls (.int i :: .null :: rest)) := by
  intro T hT X
  obtain ⟨t, st, q⟩ := k T hT X
  exact ⟨t, X.daloadNull hexec (g := F0 m pc ls (.int i :: .null :: rest)) rfl (rest := rest) rfl (by rw [hb]; exact hdg) t st, q⟩
theorem vx_aaloadN (hexec : p.tables.exec = Jvm.exec) (hb : c.code = cc) {i : Int32} (hdg : decode cc pc = .ok (.aaload, 1)) (k : vx_NoteN p l e R s m args below meth c H locs cells slots Q (F0 m pc ls rest)) : W p l e R s m args below meth c H locs cells slots Q (F0 m pc ls (.int i :: .null :: rest)) := by
  intro T hT X
  obtain ⟨t, st, q⟩ := k T hT X
  exact ⟨t, X.aaloadNull hexec (g := F0 m pc ls (.int i :: .null :: rest)) rfl (rest := rest) rfl (by rw [hb]; exact hdg) t st, q⟩
theorem vx_baloadN (hexec : p.tables.exec = Jvm.exec) (hb : c.code = cc) {i : Int32} (hdg : decode cc pc = .ok (.baload, 1)) (k : vx_NoteN p l e R s m args below meth c H locs cells slots Q (F0 m pc ls rest)) : W p l e R s m args below meth c H locs cells slots Q (F0 m pc ls (.int i :: .null :: rest)) := by
  intro T hT X
  obtain ⟨t, st, q⟩ := k T hT X
  exact ⟨t, X.baloadNull hexec (g := F0 m pc ls (.int i :: .null :: rest)) rfl (rest := rest) rfl (by rw [hb]; exact hdg) t st, q⟩
theorem vx_caloadN (hexec : p.tables.exec = Jvm.exec) (hb : c.code = cc) {i : Int32} (hdg : decode cc pc = .ok (.caload, 1)) (k : vx_NoteN p l e R s m args below meth c H locs cells slots Q (F0 m pc ls rest)) : W p l e R s m args below meth c H locs cells slots Q (F0 m pc ls (.int i :: .null :: rest)) := by
  intro T hT X
  obtain ⟨t, st, q⟩ := k T hT X
  exact ⟨t, X.caloadNull hexec (g := F0 m pc ls (.int i :: .null :: rest)) rfl (rest := rest) rfl (by rw [hb]; exact hdg) t st, q⟩
theorem vx_saloadN (hexec : p.tables.exec = Jvm.exec) (hb : c.code = cc) {i : Int32} (hdg : decode cc pc = .ok (.saload, 1)) (k : vx_NoteN p l e R s m args below meth c H locs cells slots Q (F0 m pc ls rest)) : W p l e R s m args below meth c H locs cells slots Q (F0 m pc ls (.int i :: .null :: rest)) := by
  intro T hT X
  obtain ⟨t, st, q⟩ := k T hT X
  exact ⟨t, X.saloadNull hexec (g := F0 m pc ls (.int i :: .null :: rest)) rfl (rest := rest) rfl (by rw [hb]; exact hdg) t st, q⟩
theorem vx_iastoreN (hexec : p.tables.exec = Jvm.exec) (hb : c.code = cc) {x : Int32} {i : Int32} (hdg : decode cc pc = .ok (.iastore, 1)) (k : vx_NoteN p l e R s m args below meth c H locs cells slots Q (F0 m pc ls rest)) : W p l e R s m args below meth c H locs cells slots Q (F0 m pc ls (.int x :: .int i :: .null :: rest)) := by
  intro T hT X
  obtain ⟨t, st, q⟩ := k T hT X
  exact ⟨t, X.iastoreNull hexec (g := F0 m pc ls (.int x :: .int i :: .null :: rest)) rfl (rest := rest) rfl (by rw [hb]; exact hdg) t st, q⟩
theorem vx_lastoreN (hexec : p.tables.exec = Jvm.exec) (hb : c.code = cc) {x : Int64} {i : Int32} (hdg : decode cc pc = .ok (.lastore, 1)) (k : vx_NoteN p l e R s m args below meth c H locs cells slots Q (F0 m pc ls rest)) : W p l e R s m args below meth c H locs cells slots Q (F0 m pc ls (.long x :: .int i :: .null :: rest)) := by
  intro T hT X
  obtain ⟨t, st, q⟩ := k T hT X
  exact ⟨t, X.lastoreNull hexec (g := F0 m pc ls (.long x :: .int i :: .null :: rest)) rfl (rest := rest) rfl (by rw [hb]; exact hdg) t st, q⟩
theorem vx_fastoreN (hexec : p.tables.exec = Jvm.exec) (hb : c.code = cc) {x : UInt32} {i : Int32} (hdg : decode cc pc = .ok (.fastore, 1)) (k : vx_NoteN p l e R s m args below meth c H locs cells slots Q (F0 m pc ls rest)) : W p l e R s m args below meth c H locs cells slots Q (F0 m pc ls (.float x :: .int i :: .null :: rest)) := by
  intro T hT X
  obtain ⟨t, st, q⟩ := k T hT X
  exact ⟨t, X.fastoreNull hexec (g := F0 m pc ls (.float x :: .int i :: .null :: rest)) rfl (rest := rest) rfl (by rw [hb]; exact hdg) t st, q⟩
theorem vx_dastoreN (hexec : p.tables.exec = Jvm.exec) (hb : c.code = cc) {x : UInt64} {i : Int32} (hdg : decode cc pc = .ok (.dastore, 1)) (k : vx_NoteN p l e R s m args below meth c H locs cells slots Q (F0 m pc ls rest)) : W p l e R s m args below meth c H locs cells slots Q (F0 m pc ls (.double x :: .int i :: .null :: rest)) := by
  intro T hT X
  obtain ⟨t, st, q⟩ := k T hT X
  exact ⟨t, X.dastoreNull hexec (g := F0 m pc ls (.double x :: .int i :: .null :: rest)) rfl (rest := rest) rfl (by rw [hb]; exact hdg) t st, q⟩
theorem vx_bastoreN (hexec : p.tables.exec = Jvm.exec) (hb : c.code = cc) {x : Int32} {i : Int32} (hdg : decode cc pc = .ok (.bastore, 1)) (k : vx_NoteN p l e R s m args below meth c H locs cells slots Q (F0 m pc ls rest)) : W p l e R s m args below meth c H locs cells slots Q (F0 m pc ls (.int x :: .int i :: .null :: rest)) := by
  intro T hT X
  obtain ⟨t, st, q⟩ := k T hT X
  exact ⟨t, X.bastoreNull hexec (g := F0 m pc ls (.int x :: .int i :: .null :: rest)) rfl (rest := rest) rfl (by rw [hb]; exact hdg) t st, q⟩
theorem vx_castoreN (hexec : p.tables.exec = Jvm.exec) (hb : c.code = cc) {x : Int32} {i : Int32} (hdg : decode cc pc = .ok (.castore, 1)) (k : vx_NoteN p l e R s m args below meth c H locs cells slots Q (F0 m pc ls rest)) : W p l e R s m args below meth c H locs cells slots Q (F0 m pc ls (.int x :: .int i :: .null :: rest)) := by
  intro T hT X
  obtain ⟨t, st, q⟩ := k T hT X
  exact ⟨t, X.castoreNull hexec (g := F0 m pc ls (.int x :: .int i :: .null :: rest)) rfl (rest := rest) rfl (by rw [hb]; exact hdg) t st, q⟩
theorem vx_sastoreN (hexec : p.tables.exec = Jvm.exec) (hb : c.code = cc) {x : Int32} {i : Int32} (hdg : decode cc pc = .ok (.sastore, 1)) (k : vx_NoteN p l e R s m args below meth c H locs cells slots Q (F0 m pc ls rest)) : W p l e R s m args below meth c H locs cells slots Q (F0 m pc ls (.int x :: .int i :: .null :: rest)) := by
  intro T hT X
  obtain ⟨t, st, q⟩ := k T hT X
  exact ⟨t, X.sastoreNull hexec (g := F0 m pc ls (.int x :: .int i :: .null :: rest)) rfl (rest := rest) rfl (by rw [hb]; exact hdg) t st, q⟩
theorem vx_invokeN {own C : String} {index maxL : Nat} {y : MethodName} {bytes : ByteArray} {ret : Option FieldType} (hexec : p.tables.exec = Jvm.exec) (hb : c.code = cc) (hown : s.vm.findClass own = some m.cls) (hlink : (Cond.methodLink own index y).before args s = true) (hinst : (Cond.instanceMethod y).before args s = true) (hcode : (Cond.code y bytes maxL ret).before args s = true) (hsel : (Cond.selects C y y).before args s = true)
    (hx : y.cls ≠ "java/lang/invoke/MethodHandle" ∧ y.cls ≠ "java/lang/invoke/VarHandle") {As : List Value} (hlen : (parseMethodDescriptor y.desc).map (fun d => d.parameters.length) = some As.length) (hdg : decode cc pc = .ok (.invokevirtual index, 3))
    (k : vx_NoteN p l e R s m args below meth c H locs cells slots Q (F0 m pc ls rest)) {st0 : List Value} (hst : st0 = As.reverse ++ .null :: rest) : W p l e R s m args below meth c H locs cells slots Q (F0 m pc ls st0) := by
  intro T hT X
  obtain ⟨r0, r, hn, hrm, hstR, hsigR⟩ := va_Decl.of hinst hcode
  obtain ⟨c2, r2, m2, q1, q2, q3, q4, kP, hkP, hkPi⟩ := Cond.selects_spec hsel
  cases hn.symm.trans q3
  have hl9 : As.length = r.sig.parameters.length := by
    rw [hsigR] at hlen
    exact (Option.some.inj hlen).symm
  obtain ⟨vm', X1, st1⟩ := X.invokevirtualNull hexec hown hlink hn hrm hstR hkP hkPi hx (g := F0 m pc ls st0) rfl (argsL := As) (rest := rest) hl9 hst (by rw [hb]; exact hdg)
  obtain ⟨t, st, q⟩ := k (T.setVm vm') hT X1
  exact ⟨t, st1 t st, q⟩
theorem vx_newarrayZ {atype : ArrayType} (hexec : p.tables.exec = Jvm.exec) (hb : c.code = cc) {n : Int32} (h0 : n < 0) (hdg : decode cc pc = .ok (.newarray atype, 2)) (k : ∀ tx : String, tx = toString n → vx_Note p l e R s m args below meth c H locs cells slots Q (F0 m pc ls rest) "java/lang/NegativeArraySizeException" tx) : W p l e R s m args below meth c H locs cells slots Q (F0 m pc ls (.int n :: rest)) := by
  intro T hT X
  obtain ⟨t, st, q⟩ := k _ rfl T hT X
  exact ⟨t, X.newarrayNegative hexec (g := F0 m pc ls (.int n :: rest)) rfl h0 (rest := rest) rfl (by rw [hb]; exact hdg) t st, q⟩
end
end VXM
/-! ===== END ===== -/
/-! ===== BEGIN an exception as an object: made, kept, thrown later (no traces kept) ===== -/
section VXK
variable {p : Program} {l : Launch} {e : Env} {R : Room} {s : State} {m₀ : MethodId} {args : Array Value} {below : List Frame} {meth : Method} {c : Code} {W : State} {locs : List Loc} {cells slots : Nat}
set_option maxHeartbeats 1000000 in
theorem vx_ctorMadeS (X : Stand p l e R s m₀ args below meth c W locs cells slots) (hexec : p.tables.exec = Jvm.exec) (htr : e.platform.stackTraces = false) {own cls : String} {names : List String} {ic : Nat}
    (hown : s.vm.findClass own = some m₀.cls) (hcls : Bundle.fit cls = true) (hnames : ∀ n ∈ names, Bundle.fit n = true)
    (h : ∀ a ∈ Bundle.ownAtoms own ic cls names, a.before args s = true)
    (hlocs : ∀ x ∈ locs, ∀ cell, s.heap[x.base]? = some cell → cell.vm.isStatics = false)
    {a : Addr} {cX : ClassId} {kX : Class} (hfoundX : s.vm.findClass cls = some cX) (hkX : s.vm.classes[cX]? = some kX) (hcell : W.heap[a]? = some (freshCell cX kX)) (hnew : s.heap.size ≤ a)
    {msg : Value} (hmsg : msg.isRef = true)
    {g : JFrame} (hg : g.method = m₀) (hsize : g.locals.size = c.maxLocals) {rest : List Value} (hstack : g.stack = msg :: .ref a :: .ref a :: rest)
    (hd6 : decode c.code g.pc = .ok (.invokespecial ic, 3))
    (hRframes : names.length + 3 < R.frames) (hRlocals : 2 * g.monitorRoom + ((Value.ref a :: rest).map fun v => v.category).sum + (13 * (names.length + 1) + 42) ≤ R.locals) :
    ∃ (V : State) (ce : Cell) (L : List Loc), Stand p l e R s m₀ args below meth c (V.setCell a ce) (locs ++ L) cells slots ∧ (∀ y ∈ L, y.base = a) ∧ a < V.heap.size ∧ ce.cls = cX ∧ ce.vm = .none ∧
      ∀ target, Steps p.tables e below ((V.setCell a ce).setTop { g with stack := .ref a :: rest, pc := g.pc + 3 }) target → Steps p.tables e below (W.setTop g) target := by
  have howns : e.platform.frameOwnsMonitors = true := by rw [X.admits.platform]
  have hfin : e.platform.finalization = false := by rw [X.admits.platform]
  have hpl : e.platform.magicAccessors = ({} : Platform).magicAccessors := by rw [X.admits.platform]
  have a' : ∀ x, x ∈ Bundle.ownAtoms own ic cls names → x.holds args s none s [] = true := fun x hx => h x hx
  obtain ⟨T, Z0, L, -, Y⟩ := ThrowableC.of_atoms (args := args) howns hfin hpl (fun x hx => h x (by simp [Bundle.ownAtoms, hx]))
  obtain ⟨Z, M, LZ, LM, hnZ⟩ := Init0T.ofS_atoms (args := args) hpl L Y (fun x hx => h x (by simp [Bundle.ownAtoms, hx]))
  obtain ⟨P1, Ps, hlen, L1, hL, hP1m, hlink1, hlink⟩ := Bundle.chainS (args := args) hpl hnZ names cls hcls hnames (fun x hx => h x (by simp [Bundle.ownAtoms, hx]))
  have hfound : s.vm.findClass cls = some P1.m.cls := findClass_of_methodNamed hP1m
  cases Option.some.inj (hfoundX.symm.trans hfound)
  obtain ⟨c1, kX', hc1, hk, hord, -, -, hn6⟩ := Cond.instantiable_spec (a' (.instantiable cls 6) (by simp [Bundle.ownAtoms]))
  cases Option.some.inj (hc1.symm.trans hfound)
  cases Option.some.inj (hkX.symm.trans hk)
  have hsel0 : selectMethod e.platform s.vm P1.m.cls T.fill0 = .method T.fill0 := by
    obtain ⟨c2, r2, m2, q1, q2, q3, q4, -⟩ := Cond.selects_spec (a' (.selects cls Bundle.tFill0 Bundle.tFill0) (by simp [Bundle.ownAtoms]))
    cases Option.some.inj (q1.symm.trans hfound)
    cases Option.some.inj (q2.symm.trans (State.methodFound?_of_named Y.fill0 (by decide)))
    cases Option.some.inj (q3.symm.trans Y.fill0)
    rw [Launch.admits_selectMethod X.admits]; exact q4
  have hselF : selectMethod e.platform s.vm P1.m.cls T.fill = .method T.fill := by
    obtain ⟨c2, r2, m2, q1, q2, q3, q4, -⟩ := Cond.selects_spec (a' (.selects cls Bundle.tFill Bundle.tFill) (by simp [Bundle.ownAtoms]))
    cases Option.some.inj (q1.symm.trans hfound)
    cases Option.some.inj (q2.symm.trans (State.methodFound?_of_named Y.fill (by decide)))
    cases Option.some.inj (q3.symm.trans Y.fill)
    rw [Launch.admits_selectMethod X.admits]; exact q4
  obtain ⟨cellS0, hcS0, hiss⟩ := Y.statics
  obtain ⟨u0, hu0⟩ := Cond.staticRefV Y.unassigned L.unassignedStatic L.statics hcS0 hiss (a' (.isRef (.static Bundle.tN "UNASSIGNED_STACK" Bundle.steD)) (by simp [Bundle.ownAtoms]))
  obtain ⟨sen, hsen⟩ := Cond.staticRefV Y.sentinel L.sentinelStatic L.statics hcS0 hiss (a' (.isRef (.static Bundle.tN "SUPPRESSED_SENTINEL" Bundle.listD)) (by simp [Bundle.ownAtoms]))
  obtain ⟨ci198, i198, fB, hk198, hg198, ha198, hsB, -, hnB, htB, hffB⟩ := Cond.ownField (t := .object "java/lang/Object") Y.found L.cls (by decide +kernel) (a' (.fieldLink Bundle.tN 198 Bundle.tN "backtrace" "Ljava/lang/Object;") (by simp [Bundle.ownAtoms])) (a' (.lays Bundle.tN Bundle.tN "backtrace" "Ljava/lang/Object;") (by simp [Bundle.ownAtoms])) e.platform hpl
  obtain ⟨cellS, hcS', heS, -, hkeep⟩ := X.same.2.2.2.2.2 T.aS cellS0 hcS0
  have hcellS : W.heap[T.aS]? = some cellS := hcS'
  have hout' : ∀ i, (⟨T.aS, i⟩ : Loc) ∉ locs := fun i hmem => by
    have := hlocs _ hmem cellS0 hcS0
    rw [hiss] at this; cases this
  have hknownS : cellS.vm ≠ .unknown := by
    rw [heS]; intro hu
    rw [show cellS0.vm = .unknown from hu] at hiss
    cases hiss
  have hneS : T.aS ≠ a := Nat.ne_of_lt (Nat.lt_of_lt_of_le (Array.getElem?_eq_some_iff.mp hcS0).1 hnew)
  obtain ⟨iM, hffM⟩ := Y.msg
  obtain ⟨tyC, dC, hdC, hdnC⟩ := Cond.laysAt hfound hk Y.cause (a' (.lays cls Bundle.tN "cause" "Ljava/lang/Throwable;") (by simp [Bundle.ownAtoms]))
  obtain ⟨tyS, dS, hdS, hdnS⟩ := Cond.laysAt hfound hk Y.stack (a' (.lays cls Bundle.tN "stackTrace" Bundle.steD) (by simp [Bundle.ownAtoms]))
  obtain ⟨tyP, dP, hdP, hdnP⟩ := Cond.laysAt hfound hk Y.supp (a' (.lays cls Bundle.tN "suppressedExceptions" Bundle.listD) (by simp [Bundle.ownAtoms]))
  obtain ⟨tyM, dM, hdM, hdnM⟩ := Cond.laysAt hfound hk hffM (a' (.lays cls Bundle.tN "detailMessage" "Ljava/lang/String;") (by simp [Bundle.ownAtoms]))
  obtain ⟨tyB, dB, hdB, hdnB⟩ := Cond.laysAt hfound hk hffB (a' (.lays cls Bundle.tN "backtrace" "Ljava/lang/Object;") (by simp [Bundle.ownAtoms]))
  have bC := Cond.laysApart hdB hdC hdnB hdnC (by rw [hnB, Y.causeName]; decide)
  have bS := Cond.laysApart hdB hdS hdnB hdnS (by rw [hnB, Y.stackName]; decide)
  have bP := Cond.laysApart hdB hdP hdnB hdnP (by rw [hnB, Y.suppName]; decide)
  have hskip : SkipFacts T e.platform s (fun u => u) u0 ((preparedCellV T.toThrowableT (freshCell P1.m.cls kX) a u0 sen).withEntry W.cur) :=
    ⟨{ ci198 := ci198, i198 := i198, fBack := fB }, ⟨hk198, hg198, ha198, hsB⟩, by
      have := fresh_default (c := P1.m.cls) tyB
      rw [htB] at this
      simpa [preparedCellV, Cell.setSlot, Cell.withEntry, Array.getElem?_setIfInBounds, bC, bS, bP, bC.symm, bS.symm, bP.symm, defaultValue] using this, fun _ _ => rfl⟩
  obtain ⟨tm, methC, cdC, kC, vm₁, hnC, -, -, -, -, -, -, -, hW₁, st1⟩ := Steps.initColdS (tb := p.tables) (e := e) (below := below) (s := s) (U := W) X.here hexec X.warmed hpl hown (t := Bundle.initS cls) rfl rfl (Bundle.fit_spec hcls).2
    (a' (.methodLink own ic (Bundle.initS cls)) (by simp [Bundle.ownAtoms])) (h (.instanceMethod (Bundle.initS cls)) (by cases names <;> simp [Bundle.ownAtoms, Bundle.chainSAtoms, Bundle.passSAtoms])) (bytes := Bundle.six) (maxL := 2) (h (.code (Bundle.initS cls) Bundle.six 2 none) (by cases names <;> simp [Bundle.ownAtoms, Bundle.chainSAtoms, Bundle.passSAtoms]))
    (f := g) hg (a := a) (msg := msg) (rest := .ref a :: rest) hstack hd6
  cases Option.some.inj (hnC.symm.trans hP1m)
  have X₁ := X.noted hW₁
  obtain ⟨vm₂, X₂, st2⟩ := X₁.ctorMessageOffV hexec (g := { g with stack := .ref a :: rest }) hg hsize T L Z LZ M LM (P1 :: Ps)
    (fun P hP => by rcases List.mem_cons.mp hP with rfl | hP; exact L1; exact hL P hP) ⟨hlink1, hlink⟩ (u0 := u0) (sen := sen) (self := a) hmsg (cell := freshCell P1.m.cls kX) (cellS := cellS)
    hcell (fun _ => by simp) (by simp) rfl rfl hsel0 hselF hcellS hneS hknownS (by rw [hkeep _ (hout' _)]; exact hu0) (by rw [hkeep _ (hout' _)]; exact hsen)
    (Takes.of_laid hk hord tyC (by rw [Y.causeType]; rfl)) (Takes.of_laid hk hord tyS (by rw [Y.stackType]; exact fits_refV_array _ u0)) (Takes.of_laid hk hord tyP (by rw [Y.suppType]; exact fits_refV_object _ sen))
    (Takes.of_laid hk hord tyM (by rw [Y.msgType]; exact fits_refV_object _ ⟨msg, hmsg⟩)) Y.objLocals hskip htr [] hd6
    (by simp only [List.length_cons, hlen]; omega) (by simp only [List.length_cons, hlen]; exact hRlocals)
  have hlt : a < ((W.setVm vm₁).setVm vm₂).heap.size := (Array.getElem?_eq_some_iff.mp hcell).1
  refine ⟨(W.setVm vm₁).setVm vm₂, _, _, X₂, fun y hy => ?_, hlt, rfl, rfl, fun target hwalk => st1 _ (fun acts => ?_)⟩
  · simp only [List.mem_cons, List.not_mem_nil, or_false] at hy
    rcases hy with rfl | rfl | rfl | rfl | rfl <;> rfl
  · rw [doInvoke_state]
    exact st2 _ hwalk
set_option maxHeartbeats 1000000 in
theorem vx_ctorMade0 (X : Stand p l e R s m₀ args below meth c W locs cells slots) (hexec : p.tables.exec = Jvm.exec) (htr : e.platform.stackTraces = false) {own cls : String} {names : List String} {ic : Nat}
    (hown : s.vm.findClass own = some m₀.cls) (hcls : Bundle.fit cls = true) (hnames : ∀ n ∈ names, Bundle.fit n = true)
    (h : ∀ a ∈ Bundle.ownAtoms0 own ic cls names, a.before args s = true)
    (hlocs : ∀ x ∈ locs, ∀ cell, s.heap[x.base]? = some cell → cell.vm.isStatics = false)
    {a : Addr} {cX : ClassId} {kX : Class} (hfoundX : s.vm.findClass cls = some cX) (hkX : s.vm.classes[cX]? = some kX) (hcell : W.heap[a]? = some (freshCell cX kX)) (hnew : s.heap.size ≤ a)
    {g : JFrame} (hg : g.method = m₀) (hsize : g.locals.size = c.maxLocals) {rest : List Value} (hstack : g.stack = .ref a :: .ref a :: rest)
    (hd6 : decode c.code g.pc = .ok (.invokespecial ic, 3))
    (hRframes : names.length + 3 < R.frames) (hRlocals : 2 * g.monitorRoom + ((Value.ref a :: rest).map fun v => v.category).sum + (13 * (names.length + 1) + 41) ≤ R.locals) :
    ∃ (V : State) (ce : Cell) (L : List Loc), Stand p l e R s m₀ args below meth c (V.setCell a ce) (locs ++ L) cells slots ∧ (∀ y ∈ L, y.base = a) ∧ a < V.heap.size ∧ ce.cls = cX ∧ ce.vm = .none ∧
      ∀ target, Steps p.tables e below ((V.setCell a ce).setTop { g with stack := .ref a :: rest, pc := g.pc + 3 }) target → Steps p.tables e below (W.setTop g) target := by
  have howns : e.platform.frameOwnsMonitors = true := by rw [X.admits.platform]
  have hfin : e.platform.finalization = false := by rw [X.admits.platform]
  have hpl : e.platform.magicAccessors = ({} : Platform).magicAccessors := by rw [X.admits.platform]
  have a' : ∀ x, x ∈ Bundle.ownAtoms0 own ic cls names → x.holds args s none s [] = true := fun x hx => h x hx
  obtain ⟨T, Z, L, LZ, Y⟩ := ThrowableC.of_atoms (args := args) howns hfin hpl (fun x hx => h x (by simp [Bundle.ownAtoms0, hx]))
  obtain ⟨P1, Ps, hlen, L1, hL, hP1m, hlink1, hlink⟩ := Bundle.chain0 (args := args) hpl Y.init0 names cls hcls hnames (fun x hx => h x (by simp [Bundle.ownAtoms0, hx]))
  have hfound : s.vm.findClass cls = some P1.m.cls := findClass_of_methodNamed hP1m
  cases Option.some.inj (hfoundX.symm.trans hfound)
  obtain ⟨c1, kX', hc1, hk, hord, -, -, hn6⟩ := Cond.instantiable_spec (a' (.instantiable cls 6) (by simp [Bundle.ownAtoms0]))
  cases Option.some.inj (hc1.symm.trans hfound)
  cases Option.some.inj (hkX.symm.trans hk)
  have hsel0 : selectMethod e.platform s.vm P1.m.cls T.fill0 = .method T.fill0 := by
    obtain ⟨c2, r2, m2, q1, q2, q3, q4, -⟩ := Cond.selects_spec (a' (.selects cls Bundle.tFill0 Bundle.tFill0) (by simp [Bundle.ownAtoms0]))
    cases Option.some.inj (q1.symm.trans hfound)
    cases Option.some.inj (q2.symm.trans (State.methodFound?_of_named Y.fill0 (by decide)))
    cases Option.some.inj (q3.symm.trans Y.fill0)
    rw [Launch.admits_selectMethod X.admits]; exact q4
  have hselF : selectMethod e.platform s.vm P1.m.cls T.fill = .method T.fill := by
    obtain ⟨c2, r2, m2, q1, q2, q3, q4, -⟩ := Cond.selects_spec (a' (.selects cls Bundle.tFill Bundle.tFill) (by simp [Bundle.ownAtoms0]))
    cases Option.some.inj (q1.symm.trans hfound)
    cases Option.some.inj (q2.symm.trans (State.methodFound?_of_named Y.fill (by decide)))
    cases Option.some.inj (q3.symm.trans Y.fill)
    rw [Launch.admits_selectMethod X.admits]; exact q4
  obtain ⟨cellS0, hcS0, hiss⟩ := Y.statics
  obtain ⟨u0, hu0⟩ := Cond.staticRefV Y.unassigned L.unassignedStatic L.statics hcS0 hiss (a' (.isRef (.static Bundle.tN "UNASSIGNED_STACK" Bundle.steD)) (by simp [Bundle.ownAtoms0]))
  obtain ⟨sen, hsen⟩ := Cond.staticRefV Y.sentinel L.sentinelStatic L.statics hcS0 hiss (a' (.isRef (.static Bundle.tN "SUPPRESSED_SENTINEL" Bundle.listD)) (by simp [Bundle.ownAtoms0]))
  obtain ⟨ci198, i198, fB, hk198, hg198, ha198, hsB, -, hnB, htB, hffB⟩ := Cond.ownField (t := .object "java/lang/Object") Y.found L.cls (by decide +kernel) (a' (.fieldLink Bundle.tN 198 Bundle.tN "backtrace" "Ljava/lang/Object;") (by simp [Bundle.ownAtoms0])) (a' (.lays Bundle.tN Bundle.tN "backtrace" "Ljava/lang/Object;") (by simp [Bundle.ownAtoms0])) e.platform hpl
  obtain ⟨cellS, hcS', heS, -, hkeep⟩ := X.same.2.2.2.2.2 T.aS cellS0 hcS0
  have hcellS : W.heap[T.aS]? = some cellS := hcS'
  have hout' : ∀ i, (⟨T.aS, i⟩ : Loc) ∉ locs := fun i hmem => by
    have := hlocs _ hmem cellS0 hcS0
    rw [hiss] at this; cases this
  have hknownS : cellS.vm ≠ .unknown := by
    rw [heS]; intro hu
    rw [show cellS0.vm = .unknown from hu] at hiss
    cases hiss
  have hneS : T.aS ≠ a := Nat.ne_of_lt (Nat.lt_of_lt_of_le (Array.getElem?_eq_some_iff.mp hcS0).1 hnew)
  obtain ⟨iM, hffM⟩ := Y.msg
  obtain ⟨tyC, dC, hdC, hdnC⟩ := Cond.laysAt hfound hk Y.cause (a' (.lays cls Bundle.tN "cause" "Ljava/lang/Throwable;") (by simp [Bundle.ownAtoms0]))
  obtain ⟨tyS, dS, hdS, hdnS⟩ := Cond.laysAt hfound hk Y.stack (a' (.lays cls Bundle.tN "stackTrace" Bundle.steD) (by simp [Bundle.ownAtoms0]))
  obtain ⟨tyP, dP, hdP, hdnP⟩ := Cond.laysAt hfound hk Y.supp (a' (.lays cls Bundle.tN "suppressedExceptions" Bundle.listD) (by simp [Bundle.ownAtoms0]))
  obtain ⟨tyM, dM, hdM, hdnM⟩ := Cond.laysAt hfound hk hffM (a' (.lays cls Bundle.tN "detailMessage" "Ljava/lang/String;") (by simp [Bundle.ownAtoms0]))
  obtain ⟨tyB, dB, hdB, hdnB⟩ := Cond.laysAt hfound hk hffB (a' (.lays cls Bundle.tN "backtrace" "Ljava/lang/Object;") (by simp [Bundle.ownAtoms0]))
  have bC := Cond.laysApart hdB hdC hdnB hdnC (by rw [hnB, Y.causeName]; decide)
  have bS := Cond.laysApart hdB hdS hdnB hdnS (by rw [hnB, Y.stackName]; decide)
  have bP := Cond.laysApart hdB hdP hdnB hdnP (by rw [hnB, Y.suppName]; decide)
  have hskip : SkipFacts T e.platform s (fun u => u) u0 ((preparedCellV T.toThrowableT (freshCell P1.m.cls kX) a u0 sen).withEntry W.cur) :=
    ⟨{ ci198 := ci198, i198 := i198, fBack := fB }, ⟨hk198, hg198, ha198, hsB⟩, by
      have := fresh_default (c := P1.m.cls) tyB
      rw [htB] at this
      simpa [preparedCellV, Cell.setSlot, Cell.withEntry, Array.getElem?_setIfInBounds, bC, bS, bP, bC.symm, bS.symm, bP.symm, defaultValue] using this, fun _ _ => rfl⟩
  obtain ⟨tm, methC, cdC, kC, vm₁, hnC, -, -, -, -, -, -, -, hW₁, st1⟩ := Steps.initCold (tb := p.tables) (e := e) (below := below) (s := s) (U := W) X.here hexec X.warmed hpl hown (t := Bundle.init0 cls) rfl rfl (Bundle.fit_spec hcls).2
    (a' (.methodLink own ic (Bundle.init0 cls)) (by simp [Bundle.ownAtoms0])) (h (.instanceMethod (Bundle.init0 cls)) (by cases names <;> simp [Bundle.ownAtoms0, Bundle.chain0Atoms, Bundle.passAtoms])) (bytes := Bundle.five) (maxL := 1) (h (.code (Bundle.init0 cls) Bundle.five 1 none) (by cases names <;> simp [Bundle.ownAtoms0, Bundle.chain0Atoms, Bundle.passAtoms]))
    (f := g) hg (a := a) (rest := .ref a :: rest) hstack hd6
  cases Option.some.inj (hnC.symm.trans hP1m)
  have X₁ := X.noted hW₁
  obtain ⟨vm₂, X₂, st2⟩ := X₁.ctorPlainOffV hexec (g := { g with stack := .ref a :: rest }) hg hsize T L Z LZ (P1 :: Ps)
    (fun P hP => by rcases List.mem_cons.mp hP with rfl | hP; exact L1; exact hL P hP) ⟨hlink1, hlink⟩ (u0 := u0) (sen := sen) (self := a) (cell := freshCell P1.m.cls kX) (cellS := cellS)
    hcell (fun _ => by simp) (by simp) rfl rfl hsel0 hselF hcellS hneS hknownS (by rw [hkeep _ (hout' _)]; exact hu0) (by rw [hkeep _ (hout' _)]; exact hsen)
    (Takes.of_laid hk hord tyC (by rw [Y.causeType]; rfl)) (Takes.of_laid hk hord tyS (by rw [Y.stackType]; exact fits_refV_array _ u0)) (Takes.of_laid hk hord tyP (by rw [Y.suppType]; exact fits_refV_object _ sen)) Y.objLocals hskip htr [] hd6
    (by simp only [List.length_cons, hlen]; omega) (by simp only [List.length_cons, hlen]; exact hRlocals)
  have hlt : a < ((W.setVm vm₁).setVm vm₂).heap.size := (Array.getElem?_eq_some_iff.mp hcell).1
  refine ⟨(W.setVm vm₁).setVm vm₂, _, _, X₂, fun y hy => ?_, hlt, rfl, rfl, fun target hwalk => st1 _ (fun acts => ?_)⟩
  · simp only [List.mem_cons, List.not_mem_nil, or_false] at hy
    rcases hy with rfl | rfl | rfl | rfl <;> rfl
  · rw [doInvoke_state]
    exact st2 _ hwalk
end VXK
section VXK2
variable {p : Program} {l : Launch} {e : Env} {R : Room} {s : State} {m : MethodId} {args : Array Value} {below : List Frame} {meth : Method} {c : Code} {H : Heap} {locs : List Loc} {cells slots : Nat} {Q : State → Prop}
variable {ls : Array Slot} {rest : List Value} {D : va_G} {cl : List vw_C} {tys : List (ClassId × FieldType)} {ws : va_W}
/-- 'new E("text")' that isn't thrown at once: the object goes on the stack -/
theorem vx_makeS {cc : ByteArray} {pc : Nat} (hexec : p.tables.exec = Jvm.exec) (hb : c.code = cc) (hl : l.stackTraces = false) {own cls text : String} {names : List String} {ik is ic sa ci : Nat} {A : Nat → Prop} {T0 : u_T}
    (hown : s.vm.findClass own = some m.cls) (hcls : Bundle.fit cls = true) (hnames : ∀ n ∈ names, Bundle.fit n = true)
    (hk : (Cond.classLink own ik cls).before args s = true) (hini : (Cond.initialized cls).before args s = true) (hstr : vk_R own is text sa s) (hat : ∀ w ∈ vx_atS own ic cls names, w.before args s = true)
    (hgood : ∀ w ∈ Cond.classLink own ik cls :: Cond.initialized cls :: vx_atS own ic cls names, vx_ot w = true)
    (hU : vx_Zq Bundle.tN "UNASSIGNED_STACK" Bundle.steD A s s.heap) (hN : vx_Zq Bundle.tN "SUPPRESSED_SENTINEL" Bundle.listD A s s.heap) (hS : va_S A s.heap H locs) (hsize : ls.size = c.maxLocals)
    (d0 : decode cc pc = .ok (.new ik, 3)) (d3 : decode cc (pc + 3) = .ok (.dup, 1)) (d4 : decode cc (pc + 4) = .ok (.ldc is, 2)) (d6 : decode cc (pc + 6) = .ok (.invokespecial ic, 3))
    (hK : va_K D cl tys s) (hP : va_P D cl ws H) (hD : va_D A ws) (hA : ∀ q, s.heap.size ≤ q → A q) (hc : cl[ci]? = some (cls, T0, 0))
    (hRframes : names.length + 3 < R.frames) (hRlocals : (rest.map fun v => v.category).sum + (13 * (names.length + 1) + 43) ≤ R.locals) (hRcells : cells + 1 ≤ R.cells) (hRslots : slots + 6 ≤ R.slots)
    (kk : ∀ (q : Nat) (H1 : Heap), va_P D cl (ws ++ [(q, .inr (ci, []))]) H1 → va_D A (ws ++ [(q, .inr (ci, []))]) → va_S A s.heap H1 locs → W p l e R s m args below meth c H1 locs (cells + 1) (slots + 6) Q (F0 m (pc + 9) ls (.ref q :: rest))) :
    W p l e R s m args below meth c H locs cells slots Q (F0 m pc ls rest) := by
  intro T hT X
  subst hT
  have htr : e.platform.stackTraces = false := (show e.platform.stackTraces = l.stackTraces by rw [X.admits.platform]).trans hl
  have Y := vx_rebase X (R' := { frames := R.frames, locals := R.locals, cells := 1, slots := 6 }) (Nat.le_refl _) (Nat.le_refl _) hRcells hRslots
  obtain ⟨s', hA'⟩ : ∃ z, z = (T.setVm s.vm).setFrames (.invoking m args :: below) := ⟨_, rfl⟩
  rw [← hA'] at Y
  have hvm : s'.vm = s.vm := by rw [hA']; rfl
  have hhp : s'.heap = T.heap := by rw [hA']; rfl
  have hW0 : s.WarmedH s'.vm := by rw [hvm]; exact State.WarmedH.refl s
  have hat' : ∀ w ∈ vx_atS own ic cls names, w.before args s' = true := fun w hw => vx_ot_at hW0 hvm.symm (hgood w (List.mem_cons_of_mem _ (List.mem_cons_of_mem _ hw))) (hat w hw)
  have hk' : (Cond.classLink own ik cls).before args s' = true := vx_ot_at hW0 hvm.symm (hgood _ List.mem_cons_self) hk
  have hini' : (Cond.initialized cls).before args s' = true := vx_ot_at hW0 hvm.symm (hgood _ (List.mem_cons_of_mem _ List.mem_cons_self)) hini
  have hU' : vx_Zq Bundle.tN "UNASSIGNED_STACK" Bundle.steD A s' s'.heap := by rw [hhp]; exact vx_Zq.moved hW0.alike (hU.kept hS.2.1)
  have hN' : vx_Zq Bundle.tN "SUPPRESSED_SENTINEL" Bundle.listD A s' s'.heap := by rw [hhp]; exact vx_Zq.moved hW0.alike (hN.kept hS.2.1)
  have h : ∀ w ∈ Bundle.ownAtoms own ic cls names, w.before args s' = true := vx_own hat' (vx_isRefq hU'.1) (vx_isRefq hN'.1) hU'.2.word hN'.2.word
  have hown' : s'.vm.findClass own = some m.cls := by rw [hvm]; exact hown
  have hins : (Cond.instantiable cls 6).before args s' = true := h _ (by simp [Bundle.ownAtoms])
  obtain ⟨vm₁, cX, kX, hfX, hkX, -, -, X₁, st1⟩ := Y.newCold hexec (own := own) (C := cls) (index := ik) (n := 6) hown' hk' hins hini'
    (g := F0 m pc ls rest) rfl (by rw [hb]; exact d0) (Nat.le_refl _) (Nat.le_refl _)
  generalize hT1 : (T.setVm vm₁).pushCell { cls := cX, slots := kX.instanceTypes.map defaultValue, vm := .none } = T1 at X₁ st1
  have hcat : (Value.ref T.heap.size).category = 1 := rfl
  have hcellA : T1.heap[T.heap.size]? = some (freshCell cX kX) := by rw [← hT1]; exact State.heap_pushCell_size _ _
  have d3' : decode c.code (pc + 3) = .ok (.dup, 1) := by rw [hb]; exact d3
  have d4' : decode c.code (pc + 4) = .ok (.ldc is, 2) := by rw [hb]; exact d4
  have hstr' : vk_R own is text sa s' := vk_R.warm hW0 hstr
  obtain ⟨V, ce, L, Z, hL, hlt, hcl9, hvm9, st⟩ := vx_ctorMadeS X₁ hexec htr (own := own) (cls := cls) (names := names) (ic := ic) hown' hcls hnames h (fun x hx => nomatch hx) hfX hkX hcellA (by rw [hhp]; exact Nat.le_refl _) (msg := .ref sa) rfl
    (g := { method := m, pc := pc + 6, locals := ls, stack := .ref sa :: .ref T.heap.size :: .ref T.heap.size :: rest, locked := none }) rfl hsize (rest := rest) rfl
    (by rw [hb]; exact d6) hRframes (by simp only [List.map_cons, List.sum_cons, hcat]; omega)
  have Z0 := Stand.forget (locs := []) Z (fun y hy => by rw [hL y hy, hhp]; exact Nat.le_refl _)
  obtain ⟨f1, f2⟩ := vx_frame Z0.same
  rw [hhp] at f1 f2
  have hcid : ce.cls = D.1 ci := by
    rw [hcl9]
    have h1 := (hK.1 ci _ hc).2.1
    rw [hvm] at hfX
    exact Option.some.inj (hfX.symm.trans h1)
  have hh : (V.setCell T.heap.size ce).heap[T.heap.size]? = some ce := heapAt_setCell_self (s := V) ce hlt
  subst hA'
  have X5 := vx_back9 X Y Z0
  have X6 : Stand p l e R s m args below meth c (V.setCell T.heap.size ce) locs (cells + 1) (slots + 6) := { X5 with same := X5.same.mono (by omega) (by omega) }
  have hk9 : ∀ (k : Nat) (x : Nat × va_E), ws[k]? = some x → (V.setCell T.heap.size ce).heap[x.1]? = T.heap[x.1]? := fun k x hx => f2 x.1 ((hP k x hx).lt) (fun z hz => nomatch hz)
  obtain ⟨t, a1, b1⟩ := kk T.heap.size (V.setCell T.heap.size ce).heap ((hP.kept hk9).app (fun k x hx => by
      have hz : k < 1 := (List.getElem?_eq_some_iff.mp hx).1
      rw [show k = 0 by omega] at hx
      cases hx
      exact ⟨_, hc, ce, hh, hcid, hvm9, fun k hk => absurd hk (Nat.not_lt_zero k)⟩)) (hD.push hP rfl (hA _ hS.1)) ⟨Nat.le_trans hS.1 f1, fun q h1 h2 => (f2 q (Nat.lt_of_lt_of_le h1 hS.1) (fun z hz => nomatch hz)).trans (hS.2.1 q h1 h2), hS.2.2⟩ _ rfl X6
  refine ⟨t, st1 _ ?_, b1⟩
  show Steps p.tables e below (T1.setTop { method := m, pc := pc + 3, locals := ls, stack := .ref T.heap.size :: rest, locked := none }) _
  jvm_step X₁.here [X₁.here.top, hexec, d3', Value.category]
  exact X₁.ldcString hexec (own := own) (text := text) (index := is) (a := sa) hown' hstr'.1 hstr'.2
    (g := { method := m, pc := pc + 4, locals := ls, stack := .ref T.heap.size :: .ref T.heap.size :: rest, locked := none }) rfl d4' _ (st _ a1)
/-- 'new E()' that isn't thrown at once: the object goes on the stack -/
theorem vx_make0 {cc : ByteArray} {pc : Nat} (hexec : p.tables.exec = Jvm.exec) (hb : c.code = cc) (hl : l.stackTraces = false) {own cls : String} {names : List String} {ik ic ci : Nat} {A : Nat → Prop} {T0 : u_T}
    (hown : s.vm.findClass own = some m.cls) (hcls : Bundle.fit cls = true) (hnames : ∀ n ∈ names, Bundle.fit n = true)
    (hk : (Cond.classLink own ik cls).before args s = true) (hini : (Cond.initialized cls).before args s = true) (hat : ∀ w ∈ vx_at0 own ic cls names, w.before args s = true)
    (hgood : ∀ w ∈ Cond.classLink own ik cls :: Cond.initialized cls :: vx_at0 own ic cls names, vx_ot w = true)
    (hU : vx_Zq Bundle.tN "UNASSIGNED_STACK" Bundle.steD A s s.heap) (hN : vx_Zq Bundle.tN "SUPPRESSED_SENTINEL" Bundle.listD A s s.heap) (hS : va_S A s.heap H locs) (hsize : ls.size = c.maxLocals)
    (d0 : decode cc pc = .ok (.new ik, 3)) (d3 : decode cc (pc + 3) = .ok (.dup, 1)) (d4 : decode cc (pc + 4) = .ok (.invokespecial ic, 3))
    (hK : va_K D cl tys s) (hP : va_P D cl ws H) (hD : va_D A ws) (hA : ∀ q, s.heap.size ≤ q → A q) (hc : cl[ci]? = some (cls, T0, 0))
    (hRframes : names.length + 3 < R.frames) (hRlocals : (rest.map fun v => v.category).sum + (13 * (names.length + 1) + 42) ≤ R.locals) (hRcells : cells + 1 ≤ R.cells) (hRslots : slots + 6 ≤ R.slots)
    (kk : ∀ (q : Nat) (H1 : Heap), va_P D cl (ws ++ [(q, .inr (ci, []))]) H1 → va_D A (ws ++ [(q, .inr (ci, []))]) → va_S A s.heap H1 locs → W p l e R s m args below meth c H1 locs (cells + 1) (slots + 6) Q (F0 m (pc + 7) ls (.ref q :: rest))) :
    W p l e R s m args below meth c H locs cells slots Q (F0 m pc ls rest) := by
  intro T hT X
  subst hT
  have htr : e.platform.stackTraces = false := (show e.platform.stackTraces = l.stackTraces by rw [X.admits.platform]).trans hl
  have Y := vx_rebase X (R' := { frames := R.frames, locals := R.locals, cells := 1, slots := 6 }) (Nat.le_refl _) (Nat.le_refl _) hRcells hRslots
  obtain ⟨s', hA'⟩ : ∃ z, z = (T.setVm s.vm).setFrames (.invoking m args :: below) := ⟨_, rfl⟩
  rw [← hA'] at Y
  have hvm : s'.vm = s.vm := by rw [hA']; rfl
  have hhp : s'.heap = T.heap := by rw [hA']; rfl
  have hW0 : s.WarmedH s'.vm := by rw [hvm]; exact State.WarmedH.refl s
  have hat' : ∀ w ∈ vx_at0 own ic cls names, w.before args s' = true := fun w hw => vx_ot_at hW0 hvm.symm (hgood w (List.mem_cons_of_mem _ (List.mem_cons_of_mem _ hw))) (hat w hw)
  have hk' : (Cond.classLink own ik cls).before args s' = true := vx_ot_at hW0 hvm.symm (hgood _ List.mem_cons_self) hk
  have hini' : (Cond.initialized cls).before args s' = true := vx_ot_at hW0 hvm.symm (hgood _ (List.mem_cons_of_mem _ List.mem_cons_self)) hini
  have hU' : vx_Zq Bundle.tN "UNASSIGNED_STACK" Bundle.steD A s' s'.heap := by rw [hhp]; exact vx_Zq.moved hW0.alike (hU.kept hS.2.1)
  have hN' : vx_Zq Bundle.tN "SUPPRESSED_SENTINEL" Bundle.listD A s' s'.heap := by rw [hhp]; exact vx_Zq.moved hW0.alike (hN.kept hS.2.1)
  have h : ∀ w ∈ Bundle.ownAtoms0 own ic cls names, w.before args s' = true := vx_own hat' (vx_isRefq hU'.1) (vx_isRefq hN'.1) hU'.2.word hN'.2.word
  have hown' : s'.vm.findClass own = some m.cls := by rw [hvm]; exact hown
  have hins : (Cond.instantiable cls 6).before args s' = true := h _ (by simp [Bundle.ownAtoms0])
  obtain ⟨vm₁, cX, kX, hfX, hkX, -, -, X₁, st1⟩ := Y.newCold hexec (own := own) (C := cls) (index := ik) (n := 6) hown' hk' hins hini'
    (g := F0 m pc ls rest) rfl (by rw [hb]; exact d0) (Nat.le_refl _) (Nat.le_refl _)
  generalize hT1 : (T.setVm vm₁).pushCell { cls := cX, slots := kX.instanceTypes.map defaultValue, vm := .none } = T1 at X₁ st1
  have hcat : (Value.ref T.heap.size).category = 1 := rfl
  have hcellA : T1.heap[T.heap.size]? = some (freshCell cX kX) := by rw [← hT1]; exact State.heap_pushCell_size _ _
  have d3' : decode c.code (pc + 3) = .ok (.dup, 1) := by rw [hb]; exact d3
  obtain ⟨V, ce, L, Z, hL, hlt, hcl9, hvm9, st⟩ := vx_ctorMade0 X₁ hexec htr (own := own) (cls := cls) (names := names) (ic := ic) hown' hcls hnames h (fun x hx => nomatch hx) hfX hkX hcellA (by rw [hhp]; exact Nat.le_refl _)
    (g := { method := m, pc := pc + 4, locals := ls, stack := .ref T.heap.size :: .ref T.heap.size :: rest, locked := none }) rfl hsize (rest := rest) rfl
    (by rw [hb]; exact d4) hRframes (by simp only [List.map_cons, List.sum_cons, hcat]; omega)
  have Z0 := Stand.forget (locs := []) Z (fun y hy => by rw [hL y hy, hhp]; exact Nat.le_refl _)
  obtain ⟨f1, f2⟩ := vx_frame Z0.same
  rw [hhp] at f1 f2
  have hcid : ce.cls = D.1 ci := by
    rw [hcl9]
    have h1 := (hK.1 ci _ hc).2.1
    rw [hvm] at hfX
    exact Option.some.inj (hfX.symm.trans h1)
  have hh : (V.setCell T.heap.size ce).heap[T.heap.size]? = some ce := heapAt_setCell_self (s := V) ce hlt
  subst hA'
  have X5 := vx_back9 X Y Z0
  have X6 : Stand p l e R s m args below meth c (V.setCell T.heap.size ce) locs (cells + 1) (slots + 6) := { X5 with same := X5.same.mono (by omega) (by omega) }
  have hk9 : ∀ (k : Nat) (x : Nat × va_E), ws[k]? = some x → (V.setCell T.heap.size ce).heap[x.1]? = T.heap[x.1]? := fun k x hx => f2 x.1 ((hP k x hx).lt) (fun z hz => nomatch hz)
  obtain ⟨t, a1, b1⟩ := kk T.heap.size (V.setCell T.heap.size ce).heap ((hP.kept hk9).app (fun k x hx => by
      have hz : k < 1 := (List.getElem?_eq_some_iff.mp hx).1
      rw [show k = 0 by omega] at hx
      cases hx
      exact ⟨_, hc, ce, hh, hcid, hvm9, fun k hk => absurd hk (Nat.not_lt_zero k)⟩)) (hD.push hP rfl (hA _ hS.1)) ⟨Nat.le_trans hS.1 f1, fun q h1 h2 => (f2 q (Nat.lt_of_lt_of_le h1 hS.1) (fun z hz => nomatch hz)).trans (hS.2.1 q h1 h2), hS.2.2⟩ _ rfl X6
  refine ⟨t, st1 _ ?_, b1⟩
  show Steps p.tables e below (T1.setTop { method := m, pc := pc + 3, locals := ls, stack := .ref T.heap.size :: rest, locked := none }) _
  jvm_step X₁.here [X₁.here.top, hexec, d3', Value.category]
  exact st _ a1
/-- 'throw x' of an object that was made before -/
theorem vx_athrow {cc : ByteArray} {pc : Nat} (hexec : p.tables.exec = Jvm.exec) (hb : c.code = cc) {q : Addr} (hdg : decode cc pc = .ok (.athrow, 1)) (k : vx_W p l e R s m args below meth c H locs cells slots Q (F0 m pc ls rest) q) : W p l e R s m args below meth c H locs cells slots Q (F0 m pc ls (.ref q :: rest)) := by
  intro T hT X
  obtain ⟨t, st, hq⟩ := k T hT X
  refine ⟨t, ?_, hq⟩
  have hdg' : decode c.code pc = .ok (.athrow, 1) := by rw [hb]; exact hdg
  jvm_step X.here [X.here.top, hexec, hdg', athrow.wp_sem]
  exact st
end VXK2
/-! ===== END ===== -/
/-! ===== BEGIN a constructor that throws (launches without stack traces) ===== -/
section VXIA
variable {p : Program} {l : Launch} {e : Env} {R : Room} {s : State} {m : MethodId} {args : Array Value} {below : List Frame} {meth : Method} {c : Code} {T : State} {locs : List Loc} {cells slots : Nat}
theorem vx_callI (X : Stand p l e R s m args below meth c T locs cells slots) (hexec : p.tables.exec = Jvm.exec) {own : String} {index : Nat} {y : MethodName} {bytes : ByteArray} {maxL : Nat}
    (hown : s.vm.findClass own = some m.cls) (hy1 : y.name = "<init>") (hlink : (Cond.methodLink own index y).before args s = true) (hinst : (Cond.instanceMethod y).before args s = true)
    (hcode : (Cond.code y bytes maxL none).before args s = true) (hy : y.cls ≠ "java/lang/invoke/MethodHandle" ∧ y.cls ≠ "java/lang/invoke/VarHandle")
    {W9 : Nat} {Pre : Pt → Array Value → Prop} {Post : Pt → Array Value → Option Value → Pt → Prop} {PostX : Pt → Array Value → Addr → Pt → Prop} (hK : vx_Back l R p e below s args y 3 W9 Pre Post PostX)
    {g : JFrame} (hg : g.method = m) (hsize : g.locals.size = c.maxLocals) {a : Addr} {argsL rest : List Value} (hlen : ∀ sig, parseMethodDescriptor y.desc = some sig → argsL.length = sig.parameters.length)
    (hstack : g.stack = argsL.reverse ++ .ref a :: rest) (hW : 2 * g.monitorRoom + (rest.map fun v => v.category).sum ≤ W9) (hdg : decode c.code g.pc = .ok (.invokespecial index, 3))
    (hpre : ∀ vm₁, s.WarmedH vm₁ → Pre ⟨T.setVm vm₁, locs, cells, slots⟩ (Value.ref a :: argsL).toArray) :
    (∃ (v : Option Value) (vm₁ : Vm) (B : Pt), s.WarmedH vm₁ ∧ Stand p l e R s m args below meth c B.U B.locs B.cells B.slots ∧ Post ⟨T.setVm vm₁, locs, cells, slots⟩ (Value.ref a :: argsL).toArray v B ∧
      ∀ target, Steps p.tables e below (B.U.setTop { g with pc := g.pc + 3, stack := v.toList ++ rest }) target → Steps p.tables e below (T.setTop g) target) ∨
    (∃ (q : Addr) (vm₁ : Vm) (B : Pt), s.WarmedH vm₁ ∧ Stand p l e R s m args below meth c B.U B.locs B.cells B.slots ∧ PostX ⟨T.setVm vm₁, locs, cells, slots⟩ (Value.ref a :: argsL).toArray q B ∧
      Steps p.tables e below (T.setTop g) ((B.U.setTop { g with stack := rest }).pushFrame (.throwing q))) := by
  subst hg
  have hpl : e.platform.magicAccessors = ({} : Platform).magicAccessors := by rw [X.admits.platform]
  obtain ⟨mk, methM, cM, kP, vm₁, hnamed, hmethM, hcodeM, -, hlocalsM, -, hkP, -, hW₁, hstep₁⟩ := Steps.initColdArgs (e := e) X.here hexec X.warmed hpl hown hy1 hy hlink hinst hcode (f := g) rfl hlen hstack hdg
  have X₁ := X.noted hW₁
  rcases hK g.method meth c ⟨T.setVm vm₁, locs, cells, slots⟩ { g with stack := rest } (.invokespecial index) mk (Value.ref a :: argsL).toArray X₁ rfl hsize hdg hW (X₁.named hnamed) (hpre vm₁ X₁.warmed) with ⟨v, B, X', hpost, hsteps⟩ | ⟨q, B, X', hpost, hsteps⟩
  · exact Or.inl ⟨v, vm₁, B, X₁.warmed, X', hpost, fun target h => hstep₁ _ fun acts => by rw [doInvoke_state]; exact hsteps.trans h⟩
  · exact Or.inr ⟨q, vm₁, B, X₁.warmed, X', hpost, hstep₁ _ fun acts => by rw [doInvoke_state]; exact hsteps⟩
end VXIA
section VXIB
variable {p : Program} {l : Launch} {e : Env} {R : Room} {s : State} {m : MethodId} {args : Array Value} {below : List Frame} {meth : Method} {c : Code} {H : Heap} {locs : List Loc} {cells slots : Nat}
variable {y : MethodName} {bytes cc : ByteArray} {maxL nL mc ms n index : Nat} {ret : Option FieldType} {ws : List Cond} {rm : Room} {Pc : Array Value → State → Prop} {Qc : Array Value → State → Outcome → State → Prop} {XC : String → State → State → Prop} {free : Addr → Prop} {Ts : List Cond} {own C : String} {b : Addr} {As rest : List Value} {g : JFrame}
theorem vx_runI (S : CallFix p m c cc nL s args Ts own) (hM : vx_Met l y ws rm Pc Qc XC mc ms free) (cw : CallB R s args own index y bytes maxL none ws rm mc ms n ∧ y.name = "<init>" ∧ (Cond.instanceMethod y).before args s = true) (hp : PreS s H Pc (.ref b :: As))
    (hg : g.method = m) (hn : As.length = n) (hsize : g.locals.size = nL) (hstack : g.stack = As.reverse ++ .ref b :: rest) (hW : 2 * g.monitorRoom + (rest.map fun v => v.category).sum ≤ 8) (hdg : decode cc g.pc = .ok (.invokespecial index, 3)) (hf : cells + mc ≤ R.cells ∧ slots + ms ≤ R.slots) :
    vx_Run p l e R s m args below meth c H locs cells slots mc ms g rest (Qc (Value.ref b :: As).toArray) XC free := by
  have hK : vx_Back l R p e below s args y 3 8 (PreOf R mc ms Pc) (PostOf Qc mc ms free) (vx_Post XC mc ms free) := vx_callBack cw.1 hM hp.1
  obtain ⟨⟨-, -, -, -, -, -, hcode, -, hy, hlen, hl⟩, hy1, hin⟩ := cw
  obtain ⟨hx, hb, hml, ho, -⟩ := S
  have hPc := hp.2
  intro T hT X
  rcases vx_callI X hx (bytes := bytes) (maxL := maxL) ho hy1 hl hin hcode hy hK hg (hsize.trans hml.symm) (a := b) (argsL := As) (rest := rest) (fun sig h => hn.trans (hlen sig h)) hstack hW (by rw [hb]; exact hdg)
    (fun vm₁ hW₁ => ⟨hf.1, hf.2, hPc (T.setVm vm₁) hT hW₁⟩) with ⟨v, vm₁, ⟨U', l2, c2, s2⟩, hW₁, X', ⟨g', mk, t, L, e1, e2, hq, h1, hL, h2, h3⟩, st⟩ | ⟨q, vm₁, ⟨U', l2, c2, s2⟩, hW₁, X', ⟨g', mk, t, L, E, ce, e1, e2, hq, hce, hcv, hcl, h1, hL, h2, h3⟩, st⟩
  · dsimp only [Pt.U, Pt.locs, Pt.cells, Pt.slots] at X' e1 e2 h1 h2 h3 st
    subst h1; subst h2; subst h3
    exact Or.inl ⟨v, (T.setVm vm₁).calling g' mk (Value.ref b :: As).toArray, t, U', L, hT, X', hL, e1, e2, hq, st⟩
  · dsimp only [Pt.U, Pt.locs, Pt.cells, Pt.slots] at X' e1 e2 h1 h2 h3 st hcl
    subst h1; subst h2; subst h3
    exact Or.inr ⟨q, (T.setVm vm₁).calling g' mk (Value.ref b :: As).toArray, t, U', L, E, ce, hT, X', hL, e1, e2, hq, hce, hcv, vx_cls hW₁ hcl, st⟩
end VXIB
/-! ===== END ===== -/
/-! ===== BEGIN a private constructor of a nest mate that throws ===== -/
section VXIC
variable {p : Program} {l : Launch} {e : Env} {R : Room} {s : State} {m : MethodId} {args : Array Value} {below : List Frame} {meth : Method} {c : Code} {T : State} {locs : List Loc} {cells slots : Nat}
theorem vx_callIN (X : Stand p l e R s m args below meth c T locs cells slots) (hexec : p.tables.exec = Jvm.exec) {own : String} {index : Nat} {host : String} {y : MethodName} {bytes : ByteArray} {maxL : Nat}
    (hown : s.vm.findClass own = some m.cls) (hy1 : y.name = "<init>") (hlink : (Cond.methodLinkNest own index y host).before args s = true) (hinst : (Cond.instanceMethod y).before args s = true)
    (hcode : (Cond.code y bytes maxL none).before args s = true) (hy : y.cls ≠ "java/lang/invoke/MethodHandle" ∧ y.cls ≠ "java/lang/invoke/VarHandle")
    {W9 : Nat} {Pre : Pt → Array Value → Prop} {Post : Pt → Array Value → Option Value → Pt → Prop} {PostX : Pt → Array Value → Addr → Pt → Prop} (hK : vx_Back l R p e below s args y 3 W9 Pre Post PostX)
    {g : JFrame} (hg : g.method = m) (hsize : g.locals.size = c.maxLocals) {a : Addr} {argsL rest : List Value} (hlen : ∀ sig, parseMethodDescriptor y.desc = some sig → argsL.length = sig.parameters.length)
    (hstack : g.stack = argsL.reverse ++ .ref a :: rest) (hW : 2 * g.monitorRoom + (rest.map fun v => v.category).sum ≤ W9) (hdg : decode c.code g.pc = .ok (.invokespecial index, 3))
    (hpre : ∀ vm₁, s.WarmedH vm₁ → Pre ⟨T.setVm vm₁, locs, cells, slots⟩ (Value.ref a :: argsL).toArray) :
    (∃ (v : Option Value) (vm₁ : Vm) (B : Pt), s.WarmedH vm₁ ∧ Stand p l e R s m args below meth c B.U B.locs B.cells B.slots ∧ Post ⟨T.setVm vm₁, locs, cells, slots⟩ (Value.ref a :: argsL).toArray v B ∧
      ∀ target, Steps p.tables e below (B.U.setTop { g with pc := g.pc + 3, stack := v.toList ++ rest }) target → Steps p.tables e below (T.setTop g) target) ∨
    (∃ (q : Addr) (vm₁ : Vm) (B : Pt), s.WarmedH vm₁ ∧ Stand p l e R s m args below meth c B.U B.locs B.cells B.slots ∧ PostX ⟨T.setVm vm₁, locs, cells, slots⟩ (Value.ref a :: argsL).toArray q B ∧
      Steps p.tables e below (T.setTop g) ((B.U.setTop { g with stack := rest }).pushFrame (.throwing q))) := by
  subst hg
  have hpl : e.platform.magicAccessors = ({} : Platform).magicAccessors := by rw [X.admits.platform]
  obtain ⟨mk, methM, cM, kP, vm₁, hnamed, hmethM, hcodeM, -, hlocalsM, -, hkP, -, hW₁, hstep₁⟩ := Steps.initColdArgsNest (e := e) X.here hexec X.warmed hpl hown hy1 hy hlink hinst hcode (f := g) rfl hlen hstack hdg
  have X₁ := X.noted hW₁
  rcases hK g.method meth c ⟨T.setVm vm₁, locs, cells, slots⟩ { g with stack := rest } (.invokespecial index) mk (Value.ref a :: argsL).toArray X₁ rfl hsize hdg hW (X₁.named hnamed) (hpre vm₁ X₁.warmed) with ⟨v, B, X', hpost, hsteps⟩ | ⟨q, B, X', hpost, hsteps⟩
  · exact Or.inl ⟨v, vm₁, B, X₁.warmed, X', hpost, fun target h => hstep₁ _ fun acts => by rw [doInvoke_state]; exact hsteps.trans h⟩
  · exact Or.inr ⟨q, vm₁, B, X₁.warmed, X', hpost, hstep₁ _ fun acts => by rw [doInvoke_state]; exact hsteps⟩
end VXIC
section VXID
variable {p : Program} {l : Launch} {e : Env} {R : Room} {s : State} {m : MethodId} {args : Array Value} {below : List Frame} {meth : Method} {c : Code} {H : Heap} {locs : List Loc} {cells slots : Nat}
theorem vx_runIN {y : MethodName} {bytes cc : ByteArray} {maxL nL mc ms n index : Nat} {ws : List Cond} {rm : Room} {Pc : Array Value → State → Prop} {Qc : Array Value → State → Outcome → State → Prop} {XC : String → State → State → Prop} {free : Addr → Prop} {Ts : List Cond} {own host : String} {b : Addr} {As rest : List Value} {g : JFrame}
    (S : CallFix p m c cc nL s args Ts own) (hM : vx_Met l y ws rm Pc Qc XC mc ms free) (cw : va_CN R s args own index y host bytes maxL none ws rm mc ms n ∧ y.name = "<init>" ∧ (Cond.instanceMethod y).before args s = true) (hp : PreS s H Pc (.ref b :: As))
    (hg : g.method = m) (hn : As.length = n) (hsize : g.locals.size = nL) (hstack : g.stack = As.reverse ++ .ref b :: rest) (hW : 2 * g.monitorRoom + (rest.map fun v => v.category).sum ≤ 8) (hdg : decode cc g.pc = .ok (.invokespecial index, 3)) (hf : cells + mc ≤ R.cells ∧ slots + ms ≤ R.slots) :
    vx_Run p l e R s m args below meth c H locs cells slots mc ms g rest (Qc (Value.ref b :: As).toArray) XC free := by
  obtain ⟨⟨⟨hrc, hrs, hfr, hlo, hws, hcw⟩, hcode, hini, hy, hlen, hl⟩, hx1, hx2⟩ := cw
  have hK : vx_Back l R p e below s args y 3 8 (PreOf R mc ms Pc) (PostOf Qc mc ms free) (vx_Post XC mc ms free) := vx_back (bytes := bytes) (maxL := maxL) (ret := none) hM hp.1 hrc hrs hfr hlo hws hcw (fun a' U hW => word_at hW (Or.inl (by first | rfl | simp [Cond.onTables, Cond.keeps, Cond.steady])) hini)
  obtain ⟨hx, hb, hml, ho, -⟩ := S
  have hPc := hp.2
  intro T hT X
  rcases vx_callIN X hx (bytes := bytes) (maxL := maxL) ho hx1 hl hx2 hcode hy hK hg (hsize.trans hml.symm) (a := b) (argsL := As) (rest := rest) (fun sig h => hn.trans (hlen sig h)) hstack hW (by rw [hb]; exact hdg)
    (fun vm₁ hW₁ => ⟨hf.1, hf.2, hPc (T.setVm vm₁) hT hW₁⟩) with ⟨v, vm₁, ⟨U', l2, c2, s2⟩, hW₁, X', ⟨g', mk, t, L, e1, e2, hq, h1, hL, h2, h3⟩, st⟩ | ⟨q, vm₁, ⟨U', l2, c2, s2⟩, hW₁, X', ⟨g', mk, t, L, E, ce, e1, e2, hq, hce, hcv, hcl, h1, hL, h2, h3⟩, st⟩
  · dsimp only [Pt.U, Pt.locs, Pt.cells, Pt.slots] at X' e1 e2 h1 h2 h3 st
    subst h1; subst h2; subst h3
    exact Or.inl ⟨v, (T.setVm vm₁).calling g' mk (Value.ref b :: As).toArray, t, U', L, hT, X', hL, e1, e2, hq, st⟩
  · dsimp only [Pt.U, Pt.locs, Pt.cells, Pt.slots] at X' e1 e2 h1 h2 h3 st hcl
    subst h1; subst h2; subst h3
    exact Or.inr ⟨q, (T.setVm vm₁).calling g' mk (Value.ref b :: As).toArray, t, U', L, E, ce, hT, X', hL, e1, e2, hq, hce, hcv, vx_cls hW₁ hcl, st⟩
end VXID
/-! ===== END ===== -/
/-! ===== BEGIN a method of a class above, found by the receiver, that may throw (follows va_callVU, va_runU of this kit) ===== -/
section
variable {p : Program} {l : Launch} {e : Env} {R : Room} {s : State} {m : MethodId} {args : Array Value} {below : List Frame} {meth : Method} {c : Code} {H : Heap} {locs : List Loc} {cells slots : Nat}
theorem vx_callVU {T : State} {locs : List Loc} {cells slots : Nat} (X : Stand p l e R s m args below meth c T locs cells slots) (hexec : p.tables.exec = Jvm.exec) {own C owner : String} {index : Nat} {x y : MethodName} {bytes : ByteArray} {maxL : Nat} {ret : Option FieldType}
    (hown : s.vm.findClass own = some m.cls) (hlink : (Cond.methodLink own index x).before args s = true) (hsame : (Cond.sameMethod x.cls owner x.name x.desc).before args s = true)
    (hd0 : va_Decl s ⟨owner, x.name, x.desc⟩) (howner : owner ≠ "java/lang/invoke/MethodHandle" ∧ owner ≠ "java/lang/invoke/VarHandle")
    (hsel : (Cond.selects C x y).before args s = true) (hinst : (Cond.instanceMethod y).before args s = true) (hcode : (Cond.code y bytes maxL ret).before args s = true)
    {W : Nat} {Pre : Pt → Array Value → Prop} {Post : Pt → Array Value → Option Value → Pt → Prop} {PostX : Pt → Array Value → Addr → Pt → Prop} (hK : vx_Back l R p e below s args y 3 W Pre Post PostX)
    {b : Addr} {cellB : Cell} (hcell : T.heap[b]? = some cellB) (hobj : cellB.vm.isStatics = false) (hcls : s.vm.findClass C = some cellB.cls)
    {g : JFrame} (hg : g.method = m) (hsize : g.locals.size = c.maxLocals) {argsL rest : List Value} (hlen : ∀ sig, parseMethodDescriptor x.desc = some sig → argsL.length = sig.parameters.length)
    (hstack : g.stack = argsL.reverse ++ .ref b :: rest) (hW : 2 * g.monitorRoom + (rest.map fun v => v.category).sum ≤ W) (hdg : decode c.code g.pc = .ok (.invokevirtual index, 3))
    (hpre : ∀ vm₁, s.WarmedH vm₁ → Pre ⟨T.setVm vm₁, locs, cells, slots⟩ (Value.ref b :: argsL).toArray) :
    (∃ (v : Option Value) (vm₁ : Vm) (B : Pt), s.WarmedH vm₁ ∧ Stand p l e R s m args below meth c B.U B.locs B.cells B.slots ∧ Post ⟨T.setVm vm₁, locs, cells, slots⟩ (Value.ref b :: argsL).toArray v B ∧
      ∀ target, Steps p.tables e below (B.U.setTop { g with pc := g.pc + 3, stack := v.toList ++ rest }) target → Steps p.tables e below (T.setTop g) target) ∨
    (∃ (q : Addr) (vm₁ : Vm) (B : Pt), s.WarmedH vm₁ ∧ Stand p l e R s m args below meth c B.U B.locs B.cells B.slots ∧ PostX ⟨T.setVm vm₁, locs, cells, slots⟩ (Value.ref b :: argsL).toArray q B ∧
      Steps p.tables e below (T.setTop g) ((B.U.setTop { g with stack := rest }).pushFrame (.throwing q))) := by
  obtain ⟨r0, r, hn, hrm, hstR, hsigR⟩ := hd0
  obtain ⟨cn, ck, r1, hcn, hck, hni, hf, hn1⟩ := Cond.sameMethod_found hsame
  cases hn.symm.trans hn1
  obtain ⟨mk, methM, hnamed, hmethM, -, habM⟩ := Cond.instanceMethod_spec hinst
  obtain ⟨c2, r2, m2, q1, q2, q3, q4, kP, hkP, hkPi⟩ := Cond.selects_spec hsel
  cases hcls.symm.trans q1
  cases hf.symm.trans q2
  cases hnamed.symm.trans q3
  have hselP : selectMethod e.platform s.vm cellB.cls r0 = .method mk := by rw [Launch.admits_selectMethod X.admits]; exact q4
  obtain ⟨vm₁, X₁, hstep₁⟩ := X.invokevirtualUp hexec hown hlink hsame howner hn hrm hstR (a := b) (cell := cellB) hcell
    (fun z h => by rw [h] at hobj; cases hobj) hselP hmethM habM hkP hkPi (g := g) hg (argsL := argsL) (rest := rest) (hlen _ hsigR) hstack hdg
  rcases hK m meth c ⟨T.setVm vm₁, locs, cells, slots⟩ { g with stack := rest } (.invokevirtual index) mk (Value.ref b :: argsL).toArray X₁ hg hsize hdg hW (X₁.named hnamed) (hpre vm₁ X₁.warmed) with ⟨v, B, X', hpost, hsteps⟩ | ⟨q, B, X', hpost, hsteps⟩
  · exact Or.inl ⟨v, vm₁, B, X₁.warmed, X', hpost, fun target h => hstep₁ _ fun acts => by rw [doInvoke_state]; exact hsteps.trans h⟩
  · exact Or.inr ⟨q, vm₁, B, X₁.warmed, X', hpost, hstep₁ _ fun acts => by rw [doInvoke_state]; exact hsteps⟩
theorem vx_runU {x y : MethodName} {bytes cc : ByteArray} {maxL nL mc ms n index : Nat} {ret : Option FieldType} {ws : List Cond} {rm : Room} {Pc : Array Value → State → Prop} {Qc : Array Value → State → Outcome → State → Prop} {XC : String → State → State → Prop} {free : Addr → Prop} {Ts : List Cond} {own C owner : String} {b : Addr} {As rest : List Value} {g : JFrame}
    (S : CallFix p m c cc nL s args Ts own) (hM : vx_Met l y ws rm Pc Qc XC mc ms free) (cw : va_CU R s args own C owner index x y bytes maxL ret ws rm mc ms n) (hp : PreV s H C b Pc As)
    (hg : g.method = m) (hn : As.length = n) (hsize : g.locals.size = nL) (hstack : g.stack = As.reverse ++ .ref b :: rest) (hW : 2 * g.monitorRoom + (rest.map fun v => v.category).sum ≤ 8) (hdg : decode cc g.pc = .ok (.invokevirtual index, 3)) (hf : cells + mc ≤ R.cells ∧ slots + ms ≤ R.slots) :
    vx_Run p l e R s m args below meth c H locs cells slots mc ms g rest (Qc (Value.ref b :: As).toArray) XC free := by
  obtain ⟨hrc, hrs, hfr, hlo, hws, hcw⟩ := cw.back
  have hini := cw.init
  have hK : vx_Back l R p e below s args y 3 8 (PreOf R mc ms Pc) (PostOf Qc mc ms free) (vx_Post XC mc ms free) := vx_back (bytes := bytes) (maxL := maxL) (ret := ret) hM hp.1 hrc hrs hfr hlo hws hcw (fun a' U hW => word_at hW (Or.inl (by first | rfl | simp [Cond.onTables, Cond.keeps, Cond.steady])) hini)
  obtain ⟨hx, hb, hml, ho, -⟩ := S
  obtain ⟨-, ⟨cellB, hcB, hoB, hclB⟩, hPc⟩ := hp
  intro T hT X
  rcases vx_callVU X hx (C := C) (owner := owner) (bytes := bytes) (maxL := maxL) (ret := ret) ho cw.link cw.same cw.decl cw.notMH cw.sel cw.inst cw.code hK (by rw [hT]; exact hcB) hoB hclB hg (hsize.trans hml.symm) (argsL := As) (rest := rest) (fun sig h => hn.trans (cw.len sig h)) hstack hW (by rw [hb]; exact hdg)
    (fun vm₁ hW₁ => ⟨hf.1, hf.2, hPc (T.setVm vm₁) hT hW₁⟩) with ⟨v, vm₁, ⟨U', l2, c2, s2⟩, hW₁, X', ⟨g', mk, t, L, e1, e2, hq, h1, hL, h2, h3⟩, st⟩ | ⟨q, vm₁, ⟨U', l2, c2, s2⟩, hW₁, X', ⟨g', mk, t, L, E, ce, e1, e2, hq, hce, hcv, hcl, h1, hL, h2, h3⟩, st⟩
  · dsimp only [Pt.U, Pt.locs, Pt.cells, Pt.slots] at X' e1 e2 h1 h2 h3 st
    subst h1; subst h2; subst h3
    exact Or.inl ⟨v, (T.setVm vm₁).calling g' mk (Value.ref b :: As).toArray, t, U', L, hT, X', hL, e1, e2, hq, st⟩
  · dsimp only [Pt.U, Pt.locs, Pt.cells, Pt.slots] at X' e1 e2 h1 h2 h3 st hcl
    subst h1; subst h2; subst h3
    exact Or.inr ⟨q, (T.setVm vm₁).calling g' mk (Value.ref b :: As).toArray, t, U', L, E, ce, hT, X', hL, e1, e2, hq, hce, hcv, vx_cls hW₁ hcl, st⟩
end
/-! ===== END ===== -/
/-! ===== BEGIN super.m(..) that may throw (follows va_callSU, va_runSU) ===== -/
section
variable {p : Program} {l : Launch} {e : Env} {R : Room} {s : State} {m : MethodId} {args : Array Value} {below : List Frame} {meth : Method} {c : Code} {H : Heap} {locs : List Loc} {cells slots : Nat}
theorem vx_callSU {T : State} {locs : List Loc} {cells slots : Nat} (X : Stand p l e R s m args below meth c T locs cells slots) (hexec : p.tables.exec = Jvm.exec) {own : String} {index : Nat} {y : MethodName} {bytes : ByteArray} {maxL : Nat} {ret : Option FieldType}
    (hown : s.vm.findClass own = some m.cls) (hlink : (Cond.methodLink own index y).before args s = true) (hsame : (Cond.sameMethod y.cls y.cls y.name y.desc).before args s = true) (hsup : (Cond.superclass own y.cls).before args s = true)
    (hinst : (Cond.instanceMethod y).before args s = true) (hcode : (Cond.code y bytes maxL ret).before args s = true) (hno : y.name ≠ "<init>")
    {W : Nat} {Pre : Pt → Array Value → Prop} {Post : Pt → Array Value → Option Value → Pt → Prop} {PostX : Pt → Array Value → Addr → Pt → Prop} (hK : vx_Back l R p e below s args y 3 W Pre Post PostX)
    {b : Addr} {cellB : Cell} {kB : Class} (hcell : T.heap[b]? = some cellB) (hobj : cellB.vm.isStatics = false) (hkB : s.vm.classes[cellB.cls]? = some kB)
    {g : JFrame} (hg : g.method = m) (hsize : g.locals.size = c.maxLocals) {argsL rest : List Value} (hlen : ∀ sig, parseMethodDescriptor y.desc = some sig → argsL.length = sig.parameters.length)
    (hstack : g.stack = argsL.reverse ++ .ref b :: rest) (hW : 2 * g.monitorRoom + (rest.map fun v => v.category).sum ≤ W) (hdg : decode c.code g.pc = .ok (.invokespecial index, 3))
    (hpre : ∀ vm₁, s.WarmedH vm₁ → Pre ⟨T.setVm vm₁, locs, cells, slots⟩ (Value.ref b :: argsL).toArray) :
    (∃ (v : Option Value) (vm₁ : Vm) (B : Pt), s.WarmedH vm₁ ∧ Stand p l e R s m args below meth c B.U B.locs B.cells B.slots ∧ Post ⟨T.setVm vm₁, locs, cells, slots⟩ (Value.ref b :: argsL).toArray v B ∧
      ∀ target, Steps p.tables e below (B.U.setTop { g with pc := g.pc + 3, stack := v.toList ++ rest }) target → Steps p.tables e below (T.setTop g) target) ∨
    (∃ (q : Addr) (vm₁ : Vm) (B : Pt), s.WarmedH vm₁ ∧ Stand p l e R s m args below meth c B.U B.locs B.cells B.slots ∧ PostX ⟨T.setVm vm₁, locs, cells, slots⟩ (Value.ref b :: argsL).toArray q B ∧
      Steps p.tables e below (T.setTop g) ((B.U.setTop { g with stack := rest }).pushFrame (.throwing q))) := by
  obtain ⟨mk, methM, hnamed, hmethM, hstM, habM⟩ := Cond.instanceMethod_spec hinst
  obtain ⟨methM', cM, hmethM', -, -, -, -, -, -, hsigM⟩ := Cond.code_spec hnamed hcode
  cases hmethM.symm.trans hmethM'
  obtain ⟨ps, dk, kp, hps, hdk, hkp, hsuper, -, -, hnid⟩ := Cond.superclass_spec hown hsup
  have hn : s.methodNamed? ⟨y.cls, y.name, y.desc⟩ = some mk := hnamed
  have hpm : ps = mk.cls := Option.some.inj (hps.symm.trans (findClass_of_methodNamed hnamed))
  have hsub : s.vm.isSubclass ps mk.cls = true := by rw [hpm]; simp [Vm.isSubclass, Vm.isSubclassAux]
  obtain ⟨vm₁, X₁, hstep₁⟩ := X.invokespecialUp hexec hown hlink hsame hn hmethM hstM habM hno hdk hnid hps hsuper hsub (a := b) (cell := cellB) hcell
    (fun z h => by rw [h] at hobj; cases hobj) hkB (g := g) hg (argsL := argsL) (rest := rest) (hlen _ hsigM) hstack hdg
  rcases hK m meth c ⟨T.setVm vm₁, locs, cells, slots⟩ { g with stack := rest } (.invokespecial index) mk (Value.ref b :: argsL).toArray X₁ hg hsize hdg hW (X₁.named hnamed) (hpre vm₁ X₁.warmed) with ⟨v, B, X', hpost, hsteps⟩ | ⟨q, B, X', hpost, hsteps⟩
  · exact Or.inl ⟨v, vm₁, B, X₁.warmed, X', hpost, fun target h => hstep₁ _ (by rw [doInvoke_state]; exact hsteps.trans h)⟩
  · exact Or.inr ⟨q, vm₁, B, X₁.warmed, X', hpost, hstep₁ _ (by rw [doInvoke_state]; exact hsteps)⟩
theorem vx_runSU {y : MethodName} {bytes cc : ByteArray} {maxL nL mc ms n index : Nat} {ret : Option FieldType} {ws : List Cond} {rm : Room} {Pc : Array Value → State → Prop} {Qc : Array Value → State → Outcome → State → Prop} {XC : String → State → State → Prop} {free : Addr → Prop} {Ts : List Cond} {own C : String} {cC : ClassId} {b : Addr} {As rest : List Value} {g : JFrame}
    (hat : ClassAt s C cC) (S : CallFix p m c cc nL s args Ts own) (hM : vx_Met l y ws rm Pc Qc XC mc ms free) (cw : va_CS R s args own index y bytes maxL ret ws rm mc ms n) (hp : PreV s H C b Pc As)
    (hg : g.method = m) (hn : As.length = n) (hsize : g.locals.size = nL) (hstack : g.stack = As.reverse ++ .ref b :: rest) (hW : 2 * g.monitorRoom + (rest.map fun v => v.category).sum ≤ 8) (hdg : decode cc g.pc = .ok (.invokespecial index, 3)) (hf : cells + mc ≤ R.cells ∧ slots + ms ≤ R.slots) :
    vx_Run p l e R s m args below meth c H locs cells slots mc ms g rest (Qc (Value.ref b :: As).toArray) XC free := by
  obtain ⟨⟨hrc, hrs, hfr, hlo, hws, hcw⟩, hl1, hl2, hl3, hl4, hini, hcode, hno, hlen⟩ := cw
  have hK : vx_Back l R p e below s args y 3 8 (PreOf R mc ms Pc) (PostOf Qc mc ms free) (vx_Post XC mc ms free) := vx_back (bytes := bytes) (maxL := maxL) (ret := ret) hM hp.1 hrc hrs hfr hlo hws hcw (fun a' U hW => word_at hW (Or.inl (by first | rfl | simp [Cond.onTables, Cond.keeps, Cond.steady])) hini)
  obtain ⟨hx, hb, hml, ho, -⟩ := S
  obtain ⟨-, ⟨cellB, hcB, hoB, hclB⟩, hPc⟩ := hp
  obtain ⟨hfc, kB, hkB, -⟩ := hat
  cases hfc.symm.trans hclB
  intro T hT X
  rcases vx_callSU X hx (bytes := bytes) (maxL := maxL) (ret := ret) ho hl1 hl2 hl3 hl4 hcode hno hK (by rw [hT]; exact hcB) hoB hkB hg (hsize.trans hml.symm) (argsL := As) (rest := rest) (fun sig h => hn.trans (hlen sig h)) hstack hW (by rw [hb]; exact hdg)
    (fun vm₁ hW₁ => ⟨hf.1, hf.2, hPc (T.setVm vm₁) hT hW₁⟩) with ⟨v, vm₁, ⟨U', l2, c2, s2⟩, hW₁, X', ⟨g', mk, t, L, e1, e2, hq, h1, hL, h2, h3⟩, st⟩ | ⟨q, vm₁, ⟨U', l2, c2, s2⟩, hW₁, X', ⟨g', mk, t, L, E, ce, e1, e2, hq, hce, hcv, hcl, h1, hL, h2, h3⟩, st⟩
  · dsimp only [Pt.U, Pt.locs, Pt.cells, Pt.slots] at X' e1 e2 h1 h2 h3 st
    subst h1; subst h2; subst h3
    exact Or.inl ⟨v, (T.setVm vm₁).calling g' mk (Value.ref b :: As).toArray, t, U', L, hT, X', hL, e1, e2, hq, st⟩
  · dsimp only [Pt.U, Pt.locs, Pt.cells, Pt.slots] at X' e1 e2 h1 h2 h3 st hcl
    subst h1; subst h2; subst h3
    exact Or.inr ⟨q, (T.setVm vm₁).calling g' mk (Value.ref b :: As).toArray, t, U', L, E, ce, hT, X', hL, e1, e2, hq, hce, hcv, vx_cls hW₁ hcl, st⟩
end
/-! ===== END ===== -/
/-! ===== BEGIN a private method of a nest mate that may throw (follows va_callVN, va_callSN, va_runVN, va_runSN) ===== -/
section
variable {p : Program} {l : Launch} {e : Env} {R : Room} {s : State} {m : MethodId} {args : Array Value} {below : List Frame} {meth : Method} {c : Code} {H : Heap} {locs : List Loc} {cells slots : Nat}
variable {T : State}
theorem vx_callVN (X : Stand p l e R s m args below meth c T locs cells slots) (hexec : p.tables.exec = Jvm.exec) {own C : String} {index : Nat} {host : String} {y : MethodName} {bytes : ByteArray} {maxL : Nat} {ret : Option FieldType}
    (hown : s.vm.findClass own = some m.cls) (hlink : (Cond.methodLinkNest own index y host).before args s = true) (hinst : (Cond.instanceMethod y).before args s = true) (hsel : (Cond.selects C y y).before args s = true)
    (hcode : (Cond.code y bytes maxL ret).before args s = true) (hy : y.cls ≠ "java/lang/invoke/MethodHandle" ∧ y.cls ≠ "java/lang/invoke/VarHandle")
    {W : Nat} {Pre : Pt → Array Value → Prop} {Post : Pt → Array Value → Option Value → Pt → Prop} {PostX : Pt → Array Value → Addr → Pt → Prop} (hK : vx_Back l R p e below s args y 3 W Pre Post PostX)
    {b : Addr} {cellB : Cell} (hcell : T.heap[b]? = some cellB) (hobj : cellB.vm.isStatics = false) (hcls : s.vm.findClass C = some cellB.cls)
    {g : JFrame} (hg : g.method = m) (hsize : g.locals.size = c.maxLocals) {argsL rest : List Value} (hlen : ∀ sig, parseMethodDescriptor y.desc = some sig → argsL.length = sig.parameters.length)
    (hstack : g.stack = argsL.reverse ++ .ref b :: rest) (hW : 2 * g.monitorRoom + (rest.map fun v => v.category).sum ≤ W) (hdg : decode c.code g.pc = .ok (.invokevirtual index, 3))
    (hpre : ∀ vm₁, s.WarmedH vm₁ → Pre ⟨T.setVm vm₁, locs, cells, slots⟩ (Value.ref b :: argsL).toArray) :
    (∃ (v : Option Value) (vm₁ : Vm) (B : Pt), s.WarmedH vm₁ ∧ Stand p l e R s m args below meth c B.U B.locs B.cells B.slots ∧ Post ⟨T.setVm vm₁, locs, cells, slots⟩ (Value.ref b :: argsL).toArray v B ∧
      ∀ target, Steps p.tables e below (B.U.setTop { g with pc := g.pc + 3, stack := v.toList ++ rest }) target → Steps p.tables e below (T.setTop g) target) ∨
    (∃ (q : Addr) (vm₁ : Vm) (B : Pt), s.WarmedH vm₁ ∧ Stand p l e R s m args below meth c B.U B.locs B.cells B.slots ∧ PostX ⟨T.setVm vm₁, locs, cells, slots⟩ (Value.ref b :: argsL).toArray q B ∧
      Steps p.tables e below (T.setTop g) ((B.U.setTop { g with stack := rest }).pushFrame (.throwing q))) := by
  obtain ⟨mk, methM, hnamed, hmethM, hstM, habM⟩ := Cond.instanceMethod_spec hinst
  obtain ⟨methM', cM, hmethM', -, -, -, -, -, -, hsigM⟩ := Cond.code_spec hnamed hcode
  cases hmethM.symm.trans hmethM'
  obtain ⟨c2, r2, m2, q1, q2, q3, q4, kP, hkP, hkPi⟩ := Cond.selects_spec hsel
  cases hcls.symm.trans q1
  cases (State.methodFound?_of_named hnamed hy).symm.trans q2
  cases hnamed.symm.trans q3
  have hselP : selectMethod e.platform s.vm cellB.cls mk = .method mk := by rw [Launch.admits_selectMethod X.admits]; exact q4
  obtain ⟨vm₁, X₁, hstep₁⟩ := X.invokevirtualNest hexec hown hlink hnamed hmethM hstM hkP hkPi hy (a := b) (cell := cellB) hcell
    (fun z h => by rw [h] at hobj; cases hobj) hselP hmethM habM hkP hkPi (g := g) hg (argsL := argsL) (rest := rest) (hlen _ hsigM) hstack hdg
  rcases hK m meth c ⟨T.setVm vm₁, locs, cells, slots⟩ { g with stack := rest } (.invokevirtual index) mk (Value.ref b :: argsL).toArray X₁ hg hsize hdg hW (X₁.named hnamed) (hpre vm₁ X₁.warmed) with ⟨v, B, X', hpost, hsteps⟩ | ⟨q, B, X', hpost, hsteps⟩
  · exact Or.inl ⟨v, vm₁, B, X₁.warmed, X', hpost, fun target h => hstep₁ _ fun acts => by rw [doInvoke_state]; exact hsteps.trans h⟩
  · exact Or.inr ⟨q, vm₁, B, X₁.warmed, X', hpost, hstep₁ _ fun acts => by rw [doInvoke_state]; exact hsteps⟩
theorem vx_callSN (X : Stand p l e R s m args below meth c T locs cells slots) (hexec : p.tables.exec = Jvm.exec) {own : String} {index : Nat} {host : String} {y : MethodName} {bytes : ByteArray} {maxL : Nat} {ret : Option FieldType}
    (hown : s.vm.findClass own = some m.cls) (hlink : (Cond.methodLinkNest own index y host).before args s = true) (hstat : (Cond.static y).before args s = true) (hinit : (Cond.initialized y.cls).before args s = true)
    (hcode : (Cond.code y bytes maxL ret).before args s = true) (hy : y.cls ≠ "java/lang/invoke/MethodHandle" ∧ y.cls ≠ "java/lang/invoke/VarHandle")
    {W : Nat} {Pre : Pt → Array Value → Prop} {Post : Pt → Array Value → Option Value → Pt → Prop} {PostX : Pt → Array Value → Addr → Pt → Prop} (hK : vx_Back l R p e below s args y 3 W Pre Post PostX)
    {g : JFrame} (hg : g.method = m) (hsize : g.locals.size = c.maxLocals) {argsL rest : List Value} (hlen : ∀ sig, parseMethodDescriptor y.desc = some sig → argsL.length = sig.parameters.length)
    (hstack : g.stack = argsL.reverse ++ rest) (hW : 2 * g.monitorRoom + (rest.map fun v => v.category).sum ≤ W) (hdg : decode c.code g.pc = .ok (.invokestatic index, 3))
    (hpre : ∀ vm₁, s.WarmedH vm₁ → Pre ⟨T.setVm vm₁, locs, cells, slots⟩ argsL.toArray) :
    (∃ (v : Option Value) (vm₁ : Vm) (B : Pt), s.WarmedH vm₁ ∧ Stand p l e R s m args below meth c B.U B.locs B.cells B.slots ∧ Post ⟨T.setVm vm₁, locs, cells, slots⟩ argsL.toArray v B ∧
      ∀ target, Steps p.tables e below (B.U.setTop { g with pc := g.pc + 3, stack := v.toList ++ rest }) target → Steps p.tables e below (T.setTop g) target) ∨
    (∃ (q : Addr) (vm₁ : Vm) (B : Pt), s.WarmedH vm₁ ∧ Stand p l e R s m args below meth c B.U B.locs B.cells B.slots ∧ PostX ⟨T.setVm vm₁, locs, cells, slots⟩ argsL.toArray q B ∧
      Steps p.tables e below (T.setTop g) ((B.U.setTop { g with stack := rest }).pushFrame (.throwing q))) := by
  obtain ⟨mk, hnamed⟩ := Cond.code_named hcode
  obtain ⟨methM, cM, hmethM, -, -, -, -, -, -, hsigM⟩ := Cond.code_spec hnamed hcode
  have hstatic : methM.isStatic = true := Cond.static_spec hnamed hmethM hstat
  obtain ⟨kP, hkP, -⟩ := className_of_methodNamed hnamed
  have hinitP : kP.init = .initialized := Cond.initialized_spec (findClass_of_methodNamed hnamed) hkP hinit
  obtain ⟨vm₁, X₁, hstep₁⟩ := X.invokestaticNest hexec hown hlink hnamed hmethM hstatic hkP hinitP hy (g := g) hg (argsL := argsL) (rest := rest) (hlen _ hsigM) hstack hdg
  rcases hK m meth c ⟨T.setVm vm₁, locs, cells, slots⟩ { g with stack := rest } (.invokestatic index) mk argsL.toArray X₁ hg hsize hdg hW (X₁.named hnamed) (hpre vm₁ X₁.warmed) with ⟨v, B, X', hpost, hsteps⟩ | ⟨q, B, X', hpost, hsteps⟩
  · exact Or.inl ⟨v, vm₁, B, X₁.warmed, X', hpost, fun target h => hstep₁ _ fun acts => by rw [doInvoke_state]; exact hsteps.trans h⟩
  · exact Or.inr ⟨q, vm₁, B, X₁.warmed, X', hpost, hstep₁ _ fun acts => by rw [doInvoke_state]; exact hsteps⟩
theorem vx_runVN {y : MethodName} {bytes cc : ByteArray} {maxL nL mc ms n index : Nat} {ret : Option FieldType} {ws : List Cond} {rm : Room} {Pc : Array Value → State → Prop} {Qc : Array Value → State → Outcome → State → Prop} {XC : String → State → State → Prop} {free : Addr → Prop} {Ts : List Cond} {own C host : String} {b : Addr} {As rest : List Value} {g : JFrame}
    (S : CallFix p m c cc nL s args Ts own) (hM : vx_Met l y ws rm Pc Qc XC mc ms free) (cw : va_CN R s args own index y host bytes maxL ret ws rm mc ms n ∧ (Cond.instanceMethod y).before args s = true ∧ (Cond.selects C y y).before args s = true) (hp : PreV s H C b Pc As)
    (hg : g.method = m) (hn : As.length = n) (hsize : g.locals.size = nL) (hstack : g.stack = As.reverse ++ .ref b :: rest) (hW : 2 * g.monitorRoom + (rest.map fun v => v.category).sum ≤ 8) (hdg : decode cc g.pc = .ok (.invokevirtual index, 3)) (hf : cells + mc ≤ R.cells ∧ slots + ms ≤ R.slots) :
    vx_Run p l e R s m args below meth c H locs cells slots mc ms g rest (Qc (Value.ref b :: As).toArray) XC free := by
  obtain ⟨⟨⟨hrc, hrs, hfr, hlo, hws, hcw⟩, hcode, hini, hy, hlen, hl⟩, hx1, hx2⟩ := cw
  have hK : vx_Back l R p e below s args y 3 8 (PreOf R mc ms Pc) (PostOf Qc mc ms free) (vx_Post XC mc ms free) := vx_back (bytes := bytes) (maxL := maxL) (ret := ret) hM hp.1 hrc hrs hfr hlo hws hcw (fun a' U hW => word_at hW (Or.inl (by first | rfl | simp [Cond.onTables, Cond.keeps, Cond.steady])) hini)
  obtain ⟨hx, hb, hml, ho, -⟩ := S
  obtain ⟨-, ⟨cellB, hcB, hoB, hclB⟩, hPc⟩ := hp
  intro T hT X
  rcases vx_callVN X hx (C := C) (bytes := bytes) (maxL := maxL) (ret := ret) ho hl hx1 hx2 hcode hy hK (by rw [hT]; exact hcB) hoB hclB hg (hsize.trans hml.symm) (argsL := As) (rest := rest) (fun sig h => hn.trans (hlen sig h)) hstack hW (by rw [hb]; exact hdg)
    (fun vm₁ hW₁ => ⟨hf.1, hf.2, hPc (T.setVm vm₁) hT hW₁⟩) with ⟨v, vm₁, ⟨U', l2, c2, s2⟩, hW₁, X', ⟨g', mk, t, L, e1, e2, hq, h1, hL, h2, h3⟩, st⟩ | ⟨q, vm₁, ⟨U', l2, c2, s2⟩, hW₁, X', ⟨g', mk, t, L, E, ce, e1, e2, hq, hce, hcv, hcl, h1, hL, h2, h3⟩, st⟩
  · dsimp only [Pt.U, Pt.locs, Pt.cells, Pt.slots] at X' e1 e2 h1 h2 h3 st
    subst h1; subst h2; subst h3
    exact Or.inl ⟨v, (T.setVm vm₁).calling g' mk (Value.ref b :: As).toArray, t, U', L, hT, X', hL, e1, e2, hq, st⟩
  · dsimp only [Pt.U, Pt.locs, Pt.cells, Pt.slots] at X' e1 e2 h1 h2 h3 st hcl
    subst h1; subst h2; subst h3
    exact Or.inr ⟨q, (T.setVm vm₁).calling g' mk (Value.ref b :: As).toArray, t, U', L, E, ce, hT, X', hL, e1, e2, hq, hce, hcv, vx_cls hW₁ hcl, st⟩
theorem vx_runSN {y : MethodName} {bytes cc : ByteArray} {maxL nL mc ms n index : Nat} {ret : Option FieldType} {ws : List Cond} {rm : Room} {Pc : Array Value → State → Prop} {Qc : Array Value → State → Outcome → State → Prop} {XC : String → State → State → Prop} {free : Addr → Prop} {Ts : List Cond} {own host : String} {As rest : List Value} {g : JFrame}
    (S : CallFix p m c cc nL s args Ts own) (hM : vx_Met l y ws rm Pc Qc XC mc ms free) (cw : va_CN R s args own index y host bytes maxL ret ws rm mc ms n ∧ (Cond.static y).before args s = true ∧ True) (hp : PreS s H Pc As)
    (hg : g.method = m) (hn : As.length = n) (hsize : g.locals.size = nL) (hstack : g.stack = As.reverse ++ rest) (hW : 2 * g.monitorRoom + (rest.map fun v => v.category).sum ≤ 8) (hdg : decode cc g.pc = .ok (.invokestatic index, 3)) (hf : cells + mc ≤ R.cells ∧ slots + ms ≤ R.slots) :
    vx_Run p l e R s m args below meth c H locs cells slots mc ms g rest (Qc As.toArray) XC free := by
  obtain ⟨⟨⟨hrc, hrs, hfr, hlo, hws, hcw⟩, hcode, hini, hy, hlen, hl⟩, hx1, hx2⟩ := cw
  have hK : vx_Back l R p e below s args y 3 8 (PreOf R mc ms Pc) (PostOf Qc mc ms free) (vx_Post XC mc ms free) := vx_back (bytes := bytes) (maxL := maxL) (ret := ret) hM hp.1 hrc hrs hfr hlo hws hcw (fun a' U hW => word_at hW (Or.inl (by first | rfl | simp [Cond.onTables, Cond.keeps, Cond.steady])) hini)
  obtain ⟨hx, hb, hml, ho, -⟩ := S
  have hPc := hp.2
  intro T hT X
  rcases vx_callSN X hx (bytes := bytes) (maxL := maxL) (ret := ret) ho hl hx1 hini hcode hy hK hg (hsize.trans hml.symm) (argsL := As) (rest := rest) (fun sig h => hn.trans (hlen sig h)) hstack hW (by rw [hb]; exact hdg)
    (fun vm₁ hW₁ => ⟨hf.1, hf.2, hPc (T.setVm vm₁) hT hW₁⟩) with ⟨v, vm₁, ⟨U', l2, c2, s2⟩, hW₁, X', ⟨g', mk, t, L, e1, e2, hq, h1, hL, h2, h3⟩, st⟩ | ⟨q, vm₁, ⟨U', l2, c2, s2⟩, hW₁, X', ⟨g', mk, t, L, E, ce, e1, e2, hq, hce, hcv, hcl, h1, hL, h2, h3⟩, st⟩
  · dsimp only [Pt.U, Pt.locs, Pt.cells, Pt.slots] at X' e1 e2 h1 h2 h3 st
    subst h1; subst h2; subst h3
    exact Or.inl ⟨v, (T.setVm vm₁).calling g' mk As.toArray, t, U', L, hT, X', hL, e1, e2, hq, st⟩
  · dsimp only [Pt.U, Pt.locs, Pt.cells, Pt.slots] at X' e1 e2 h1 h2 h3 st hcl
    subst h1; subst h2; subst h3
    exact Or.inr ⟨q, (T.setVm vm₁).calling g' mk As.toArray, t, U', L, E, ce, hT, X', hL, e1, e2, hq, hce, hcv, vx_cls hW₁ hcl, st⟩
end
/-! ===== END ===== -/
/-! ===== BEGIN calls by an interface of methods that may throw (vx_callIF, vx_runF follow va_callIF, va_runF of this kit) ===== -/
section
variable {p : Program} {l : Launch} {e : Env} {R : Room} {s : State} {m : MethodId} {args : Array Value} {below : List Frame} {meth : Method} {c : Code} {H : Heap} {locs : List Loc} {cells slots : Nat} {Q : State → Prop}
variable {mc ms : Nat} {free : Addr → Prop} {A0 A1 : Nat → Prop} {H0 : Heap} {a : Array Value} {pc : Nat} {ls : Array Slot} {st0 rest : List Value}
def vx_Run5 (p : Program) (l : Launch) (e : Env) (R : Room) (s : State) (m : MethodId) (args : Array Value) (below : List Frame) (meth : Method) (c : Code) (H : Heap) (locs : List Loc) (cells slots mc ms : Nat) (g : JFrame) (rest : List Value) (Qa : State → Outcome → State → Prop) (XC : String → State → State → Prop) (free : Addr → Prop) : Prop :=
  ∀ T : State, T.heap = H → Stand p l e R s m args below meth c T locs cells slots →
    (∃ (v : Option Value) (st₀ t T' : State) (L : List Loc), st₀.heap = H ∧ Stand p l e R s m args below meth c T' (locs ++ L) (cells + mc) (slots + ms) ∧ (∀ q ∈ L, free q.base) ∧ T'.heap = t.heap ∧ T'.vm = t.vm ∧ Qa st₀ (.returned v) t ∧
      Goes p e below T g T' { g with pc := g.pc + 5, stack := v.toList ++ rest }) ∨
    (∃ (q : Addr) (st₀ t T' : State) (L : List Loc) (E : String) (ce : Cell), st₀.heap = H ∧ Stand p l e R s m args below meth c T' (locs ++ L) (cells + mc) (slots + ms) ∧ (∀ z ∈ L, free z.base) ∧ T'.heap = t.heap ∧ T'.vm = t.vm ∧ XC E st₀ t ∧ t.heap[q]? = some ce ∧ ce.vm = .none ∧ s.vm.findClass E = some ce.cls ∧
      Steps p.tables e below (T.setTop g) ((T'.setTop { g with stack := rest }).pushFrame (.throwing q)))
theorem vx_callIF {T : State} (X : Stand p l e R s m args below meth c T locs cells slots) (hexec : p.tables.exec = Jvm.exec) {own C : String} {index count : Nat} {x y : MethodName} {bytes : ByteArray} {maxL : Nat} {ret : Option FieldType}
    (hown : s.vm.findClass own = some m.cls) (hlink : (Cond.methodLink own index x).before args s = true) (hdecl : (Cond.declares x).before args s = true) (hface : (Cond.interfaceMethod x.cls x.cls x.name x.desc).before args s = true)
    (hsel : (Cond.selects C x y).before args s = true) (hinst : (Cond.instanceMethod y).before args s = true) (hpub : (Cond.publicMethod y).before args s = true) (hunh : (Cond.unhidden C x.name x.desc).before args s = true)
    (hcast : (Cond.castable C x.cls).before args s = true) (hcode : (Cond.code y bytes maxL ret).before args s = true) (hx : x.cls ≠ "java/lang/invoke/MethodHandle" ∧ x.cls ≠ "java/lang/invoke/VarHandle")
    {W9 : Nat} {Pre : Pt → Array Value → Prop} {Post : Pt → Array Value → Option Value → Pt → Prop} {PostX : Pt → Array Value → Addr → Pt → Prop} (hK : vx_Back l R p e below s args y 5 W9 Pre Post PostX)
    {b : Addr} {cellB : Cell} {kB : Class} (hcell : T.heap[b]? = some cellB) (hobj : cellB.vm.isStatics = false) (hcls : s.vm.findClass C = some cellB.cls) (hkB : s.vm.classes[cellB.cls]? = some kB)
    {g : JFrame} (hg : g.method = m) (hsize : g.locals.size = c.maxLocals) {argsL rest : List Value} (hlen : ∀ sig, parseMethodDescriptor x.desc = some sig → argsL.length = sig.parameters.length)
    (hstack : g.stack = argsL.reverse ++ .ref b :: rest) (hW : 2 * g.monitorRoom + (rest.map fun v => v.category).sum ≤ W9) (hdg : decode c.code g.pc = .ok (.invokeinterface index count, 5))
    (hpre : ∀ vm₁, s.WarmedH vm₁ → Pre ⟨T.setVm vm₁, locs, cells, slots⟩ (Value.ref b :: argsL).toArray) :
    (∃ (v : Option Value) (vm₁ : Vm) (B : Pt), s.WarmedH vm₁ ∧ Stand p l e R s m args below meth c B.U B.locs B.cells B.slots ∧ Post ⟨T.setVm vm₁, locs, cells, slots⟩ (Value.ref b :: argsL).toArray v B ∧
      ∀ target, Steps p.tables e below (B.U.setTop { g with pc := g.pc + 5, stack := v.toList ++ rest }) target → Steps p.tables e below (T.setTop g) target) ∨
    (∃ (q : Addr) (vm₁ : Vm) (B : Pt), s.WarmedH vm₁ ∧ Stand p l e R s m args below meth c B.U B.locs B.cells B.slots ∧ PostX ⟨T.setVm vm₁, locs, cells, slots⟩ (Value.ref b :: argsL).toArray q B ∧
      Steps p.tables e below (T.setTop g) ((B.U.setTop { g with stack := rest }).pushFrame (.throwing q))) := by
  obtain ⟨r0, r, hn, hrm, hstR, hsigR⟩ := Cond.declares_spec hdecl
  obtain ⟨cL, kL, r1, hcL, hkL, hiL, hfoundL, hn1⟩ := Cond.interfaceMethod_spec hface
  cases hn.symm.trans hn1
  have hr0cls : r0.cls = cL := Option.some.inj ((findClass_of_methodNamed hn).symm.trans hcL)
  obtain ⟨hnameR, hdescR⟩ := name_of_methodNamed hn hrm
  obtain ⟨mk, methM, hnamed, hmethM, -, habM⟩ := Cond.instanceMethod_spec hinst
  obtain ⟨c2, r2, m2, q1, q2, q3, q4, -⟩ := Cond.selects_spec hsel
  cases hcls.symm.trans q1
  cases hfoundL.symm.trans q2
  cases hnamed.symm.trans q3
  have hselP : selectMethod e.platform s.vm cellB.cls r0 = .method mk := by rw [Launch.admits_selectMethod X.admits]; exact q4
  have hpubM : hasFlag methM.accessFlags Acc.public_ = true := Cond.publicMethod_spec hnamed hmethM hpub
  have hway : ((cellB.cls :: s.vm.superclasses cellB.cls).any fun k => (declaredIn s.vm r.name r.desc k).any fun (_, z) => z.isPrivate || z.isStatic) = false := by
    rw [hnameR, hdescR]; exact Cond.unhidden_spec hcls hunh
  obtain ⟨c3, t3, w1, w2, w3⟩ := Cond.castable_spec hcast
  cases hcls.symm.trans w1
  cases hcL.symm.trans w2
  obtain ⟨vm₁, X₁, hstep₁⟩ := X.invokeinterface hexec hown hlink hn hrm hstR (by rw [hr0cls]; exact hkL) hiL hx (a := b) (cell := cellB) (kcell := kB) hcell
    (fun z h => by rw [h] at hobj; cases hobj) hkB (by rw [hr0cls]; exact w3) hselP hmethM hway hpubM habM (g := g) hg (argsL := argsL) (rest := rest) (hlen _ hsigR) hstack hdg
  rcases hK m meth c ⟨T.setVm vm₁, locs, cells, slots⟩ { g with stack := rest } (.invokeinterface index count) mk (Value.ref b :: argsL).toArray X₁ hg hsize hdg hW (X₁.named hnamed) (hpre vm₁ X₁.warmed) with ⟨v, B, X', hpost, hsteps⟩ | ⟨q, B, X', hpost, hsteps⟩
  · exact Or.inl ⟨v, vm₁, B, X₁.warmed, X', hpost, fun target h => hstep₁ _ fun acts => by rw [doInvoke_state]; exact hsteps.trans h⟩
  · exact Or.inr ⟨q, vm₁, B, X₁.warmed, X', hpost, hstep₁ _ fun acts => by rw [doInvoke_state]; exact hsteps⟩
theorem vx_runF {x y : MethodName} {bytes cc : ByteArray} {maxL nL mc ms n index count : Nat} {ret : Option FieldType} {ws : List Cond} {rm : Room} {Pc : Array Value → State → Prop} {Qc : Array Value → State → Outcome → State → Prop} {XC : String → State → State → Prop} {free : Addr → Prop} {Ts : List Cond} {own C : String} {cC : ClassId} {b : Addr} {As rest : List Value} {g : JFrame}
    (hat : ClassAt s C cC) (S : CallFix p m c cc nL s args Ts own) (hM : vx_Met l y ws rm Pc Qc XC mc ms free) (cw : va_CI R s args own C index x y bytes maxL ret ws rm mc ms n) (hp : PreV s H C b Pc As)
    (hg : g.method = m) (hn : As.length = n) (hsize : g.locals.size = nL) (hstack : g.stack = As.reverse ++ .ref b :: rest) (hW : 2 * g.monitorRoom + (rest.map fun v => v.category).sum ≤ 8) (hdg : decode cc g.pc = .ok (.invokeinterface index count, 5)) (hf : cells + mc ≤ R.cells ∧ slots + ms ≤ R.slots) :
    vx_Run5 p l e R s m args below meth c H locs cells slots mc ms g rest (Qc (Value.ref b :: As).toArray) XC free := by
  obtain ⟨hrc, hrs, hfr, hlo, hws, hcw⟩ := cw.back
  have hini := cw.init
  have hK : vx_Back l R p e below s args y 5 8 (PreOf R mc ms Pc) (PostOf Qc mc ms free) (vx_Post XC mc ms free) := vx_back (bytes := bytes) (maxL := maxL) (ret := ret) hM hp.1 hrc hrs hfr hlo hws hcw (fun a' U hW => word_at hW (Or.inl (by first | rfl | simp [Cond.onTables, Cond.keeps, Cond.steady])) hini)
  obtain ⟨hx, hb, hml, ho, -⟩ := S
  obtain ⟨-, ⟨cellB, hcB, hoB, hclB⟩, hPc⟩ := hp
  obtain ⟨hfc, kB, hkB, -⟩ := hat
  cases hfc.symm.trans hclB
  intro T hT X
  rcases vx_callIF X hx (C := C) (bytes := bytes) (maxL := maxL) (ret := ret) ho cw.link cw.decl cw.face cw.sel cw.inst cw.pub cw.unh cw.cast cw.code cw.notMH hK (by rw [hT]; exact hcB) hoB hclB hkB hg (hsize.trans hml.symm) (argsL := As) (rest := rest) (fun sig h => hn.trans (cw.len sig h)) hstack hW (by rw [hb]; exact hdg)
    (fun vm₁ hW₁ => ⟨hf.1, hf.2, hPc (T.setVm vm₁) hT hW₁⟩) with ⟨v, vm₁, ⟨U', l2, c2, s2⟩, hW₁, X', ⟨g', mk, t, L, e1, e2, hq, h1, hL, h2, h3⟩, st⟩ | ⟨q, vm₁, ⟨U', l2, c2, s2⟩, hW₁, X', ⟨g', mk, t, L, E, ce, e1, e2, hq, hce, hcv, hcl, h1, hL, h2, h3⟩, st⟩
  · dsimp only [Pt.U, Pt.locs, Pt.cells, Pt.slots] at X' e1 e2 h1 h2 h3 st
    subst h1; subst h2; subst h3
    exact Or.inl ⟨v, (T.setVm vm₁).calling g' mk (Value.ref b :: As).toArray, t, U', L, hT, X', hL, e1, e2, hq, st⟩
  · dsimp only [Pt.U, Pt.locs, Pt.cells, Pt.slots] at X' e1 e2 h1 h2 h3 st hcl
    subst h1; subst h2; subst h3
    exact Or.inr ⟨q, (T.setVm vm₁).calling g' mk (Value.ref b :: As).toArray, t, U', L, E, ce, hT, X', hL, e1, e2, hq, hce, hcv, vx_cls hW₁ hcl, st⟩
theorem vx_callFv {S SX : Type} {post : S → Prop} {px : SX → Prop} {B : S → State → Prop} {BX : String → SX → State → Prop} {AX : Nat → Prop} (hr : vx_Run5 p l e R s m args below meth c H locs cells slots mc ms (F0 m pc ls st0) rest (va_Qv post B A1 a) (vx_X px BX AX) free) (hS : va_S A0 H0 H locs) (hA : ∀ q, q < H.size → A1 q → A0 q) (hf : ∀ q, free q → A0 q) (hAX : ∀ q, q < H.size → AX q → A0 q)
    (kx : ∀ (E : String) (ce : Cell) (q9 : Addr) (u : SX) (t : State) (H1 : Heap) (locs1 : List Loc), t.heap = H1 → s.vm.Alike t.vm → px u → BX E u t → H.size ≤ H1.size → (∀ q : Nat, q < H.size → ¬ AX q → H1[q]? = H[q]?) → va_S A0 H0 H1 locs1 → H1[q9]? = some ce → ce.vm = .none → s.vm.findClass E = some ce.cls → vx_W p l e R s m args below meth c H1 locs1 (cells + mc) (slots + ms) Q (F0 m pc ls rest) q9)
    (kk : ∀ (u : S) (t : State) (H1 : Heap) (locs1 : List Loc), t.heap = H1 → s.vm.Alike t.vm → post u → B u t → H.size ≤ H1.size → (∀ q : Nat, q < H.size → ¬ A1 q → H1[q]? = H[q]?) → va_S A0 H0 H1 locs1 → W p l e R s m args below meth c H1 locs1 (cells + mc) (slots + ms) Q (F0 m (pc + 5) ls (rest))) : W p l e R s m args below meth c H locs cells slots Q (F0 m pc ls st0) := by
  intro T hT X
  rcases hr T hT X with ⟨v, st₀, t, T', L, h0, X', hL, e1, e2, ⟨⟨u, hv, hp, hb⟩, hF⟩, st⟩ | ⟨q, st₀, t, T', L, E, ce, h0, X', hL, e1, e2, ⟨u, hp, hb, hF⟩, hce, hcv, hcl, st⟩
  · cases hv
    obtain ⟨k1, k2, k3⟩ := vx_keep h0 e1 hS hA hf hL hF
    obtain ⟨t2, a1, b1⟩ := kk u t T'.heap (locs ++ L) e1.symm (by rw [← e2]; exact X'.warmed.alike) hp hb k1 k2 k3 T' rfl X'
    exact ⟨t2, st t2 a1, b1⟩
  · obtain ⟨k1, k2, k3⟩ := vx_keep h0 e1 hS hAX hf hL hF
    obtain ⟨t2, a1, b1⟩ := kx E ce q u t T'.heap (locs ++ L) e1.symm (by rw [← e2]; exact X'.warmed.alike) hp hb k1 k2 k3 (by rw [e1]; exact hce) hcv hcl T' rfl X'
    exact ⟨t2, st.trans a1, b1⟩
theorem vx_callFi {S SX : Type} {post : Int32 → S → Prop} {px : SX → Prop} {B : S → State → Prop} {BX : String → SX → State → Prop} {AX : Nat → Prop} (hr : vx_Run5 p l e R s m args below meth c H locs cells slots mc ms (F0 m pc ls st0) rest (va_Qi post B A1 a) (vx_X px BX AX) free) (hS : va_S A0 H0 H locs) (hA : ∀ q, q < H.size → A1 q → A0 q) (hf : ∀ q, free q → A0 q) (hAX : ∀ q, q < H.size → AX q → A0 q)
    (kx : ∀ (E : String) (ce : Cell) (q9 : Addr) (u : SX) (t : State) (H1 : Heap) (locs1 : List Loc), t.heap = H1 → s.vm.Alike t.vm → px u → BX E u t → H.size ≤ H1.size → (∀ q : Nat, q < H.size → ¬ AX q → H1[q]? = H[q]?) → va_S A0 H0 H1 locs1 → H1[q9]? = some ce → ce.vm = .none → s.vm.findClass E = some ce.cls → vx_W p l e R s m args below meth c H1 locs1 (cells + mc) (slots + ms) Q (F0 m pc ls rest) q9)
    (kk : ∀ (r : Int32) (u : S) (t : State) (H1 : Heap) (locs1 : List Loc), t.heap = H1 → s.vm.Alike t.vm → post r u → B u t → H.size ≤ H1.size → (∀ q : Nat, q < H.size → ¬ A1 q → H1[q]? = H[q]?) → va_S A0 H0 H1 locs1 → W p l e R s m args below meth c H1 locs1 (cells + mc) (slots + ms) Q (F0 m (pc + 5) ls (.int r :: rest))) : W p l e R s m args below meth c H locs cells slots Q (F0 m pc ls st0) := by
  intro T hT X
  rcases hr T hT X with ⟨v, st₀, t, T', L, h0, X', hL, e1, e2, ⟨⟨r, u, hv, hp, hb⟩, hF⟩, st⟩ | ⟨q, st₀, t, T', L, E, ce, h0, X', hL, e1, e2, ⟨u, hp, hb, hF⟩, hce, hcv, hcl, st⟩
  · cases hv
    obtain ⟨k1, k2, k3⟩ := vx_keep h0 e1 hS hA hf hL hF
    obtain ⟨t2, a1, b1⟩ := kk r u t T'.heap (locs ++ L) e1.symm (by rw [← e2]; exact X'.warmed.alike) hp hb k1 k2 k3 T' rfl X'
    exact ⟨t2, st t2 a1, b1⟩
  · obtain ⟨k1, k2, k3⟩ := vx_keep h0 e1 hS hAX hf hL hF
    obtain ⟨t2, a1, b1⟩ := kx E ce q u t T'.heap (locs ++ L) e1.symm (by rw [← e2]; exact X'.warmed.alike) hp hb k1 k2 k3 (by rw [e1]; exact hce) hcv hcl T' rfl X'
    exact ⟨t2, st.trans a1, b1⟩
theorem vx_callFl {S SX : Type} {post : Int64 → S → Prop} {px : SX → Prop} {B : S → State → Prop} {BX : String → SX → State → Prop} {AX : Nat → Prop} (hr : vx_Run5 p l e R s m args below meth c H locs cells slots mc ms (F0 m pc ls st0) rest (va_Ql post B A1 a) (vx_X px BX AX) free) (hS : va_S A0 H0 H locs) (hA : ∀ q, q < H.size → A1 q → A0 q) (hf : ∀ q, free q → A0 q) (hAX : ∀ q, q < H.size → AX q → A0 q)
    (kx : ∀ (E : String) (ce : Cell) (q9 : Addr) (u : SX) (t : State) (H1 : Heap) (locs1 : List Loc), t.heap = H1 → s.vm.Alike t.vm → px u → BX E u t → H.size ≤ H1.size → (∀ q : Nat, q < H.size → ¬ AX q → H1[q]? = H[q]?) → va_S A0 H0 H1 locs1 → H1[q9]? = some ce → ce.vm = .none → s.vm.findClass E = some ce.cls → vx_W p l e R s m args below meth c H1 locs1 (cells + mc) (slots + ms) Q (F0 m pc ls rest) q9)
    (kk : ∀ (r : Int64) (u : S) (t : State) (H1 : Heap) (locs1 : List Loc), t.heap = H1 → s.vm.Alike t.vm → post r u → B u t → H.size ≤ H1.size → (∀ q : Nat, q < H.size → ¬ A1 q → H1[q]? = H[q]?) → va_S A0 H0 H1 locs1 → W p l e R s m args below meth c H1 locs1 (cells + mc) (slots + ms) Q (F0 m (pc + 5) ls (.long r :: rest))) : W p l e R s m args below meth c H locs cells slots Q (F0 m pc ls st0) := by
  intro T hT X
  rcases hr T hT X with ⟨v, st₀, t, T', L, h0, X', hL, e1, e2, ⟨⟨r, u, hv, hp, hb⟩, hF⟩, st⟩ | ⟨q, st₀, t, T', L, E, ce, h0, X', hL, e1, e2, ⟨u, hp, hb, hF⟩, hce, hcv, hcl, st⟩
  · cases hv
    obtain ⟨k1, k2, k3⟩ := vx_keep h0 e1 hS hA hf hL hF
    obtain ⟨t2, a1, b1⟩ := kk r u t T'.heap (locs ++ L) e1.symm (by rw [← e2]; exact X'.warmed.alike) hp hb k1 k2 k3 T' rfl X'
    exact ⟨t2, st t2 a1, b1⟩
  · obtain ⟨k1, k2, k3⟩ := vx_keep h0 e1 hS hAX hf hL hF
    obtain ⟨t2, a1, b1⟩ := kx E ce q u t T'.heap (locs ++ L) e1.symm (by rw [← e2]; exact X'.warmed.alike) hp hb k1 k2 k3 (by rw [e1]; exact hce) hcv hcl T' rfl X'
    exact ⟨t2, st.trans a1, b1⟩
theorem vx_callFf {S SX : Type} {post : UInt32 → S → Prop} {px : SX → Prop} {B : S → State → Prop} {BX : String → SX → State → Prop} {AX : Nat → Prop} (hr : vx_Run5 p l e R s m args below meth c H locs cells slots mc ms (F0 m pc ls st0) rest (va_Qf post B A1 a) (vx_X px BX AX) free) (hS : va_S A0 H0 H locs) (hA : ∀ q, q < H.size → A1 q → A0 q) (hf : ∀ q, free q → A0 q) (hAX : ∀ q, q < H.size → AX q → A0 q)
    (kx : ∀ (E : String) (ce : Cell) (q9 : Addr) (u : SX) (t : State) (H1 : Heap) (locs1 : List Loc), t.heap = H1 → s.vm.Alike t.vm → px u → BX E u t → H.size ≤ H1.size → (∀ q : Nat, q < H.size → ¬ AX q → H1[q]? = H[q]?) → va_S A0 H0 H1 locs1 → H1[q9]? = some ce → ce.vm = .none → s.vm.findClass E = some ce.cls → vx_W p l e R s m args below meth c H1 locs1 (cells + mc) (slots + ms) Q (F0 m pc ls rest) q9)
    (kk : ∀ (r : UInt32) (u : S) (t : State) (H1 : Heap) (locs1 : List Loc), t.heap = H1 → s.vm.Alike t.vm → post r u → B u t → H.size ≤ H1.size → (∀ q : Nat, q < H.size → ¬ A1 q → H1[q]? = H[q]?) → va_S A0 H0 H1 locs1 → W p l e R s m args below meth c H1 locs1 (cells + mc) (slots + ms) Q (F0 m (pc + 5) ls (.float r :: rest))) : W p l e R s m args below meth c H locs cells slots Q (F0 m pc ls st0) := by
  intro T hT X
  rcases hr T hT X with ⟨v, st₀, t, T', L, h0, X', hL, e1, e2, ⟨⟨r, u, hv, hp, hb⟩, hF⟩, st⟩ | ⟨q, st₀, t, T', L, E, ce, h0, X', hL, e1, e2, ⟨u, hp, hb, hF⟩, hce, hcv, hcl, st⟩
  · cases hv
    obtain ⟨k1, k2, k3⟩ := vx_keep h0 e1 hS hA hf hL hF
    obtain ⟨t2, a1, b1⟩ := kk r u t T'.heap (locs ++ L) e1.symm (by rw [← e2]; exact X'.warmed.alike) hp hb k1 k2 k3 T' rfl X'
    exact ⟨t2, st t2 a1, b1⟩
  · obtain ⟨k1, k2, k3⟩ := vx_keep h0 e1 hS hAX hf hL hF
    obtain ⟨t2, a1, b1⟩ := kx E ce q u t T'.heap (locs ++ L) e1.symm (by rw [← e2]; exact X'.warmed.alike) hp hb k1 k2 k3 (by rw [e1]; exact hce) hcv hcl T' rfl X'
    exact ⟨t2, st.trans a1, b1⟩
theorem vx_callFd {S SX : Type} {post : UInt64 → S → Prop} {px : SX → Prop} {B : S → State → Prop} {BX : String → SX → State → Prop} {AX : Nat → Prop} (hr : vx_Run5 p l e R s m args below meth c H locs cells slots mc ms (F0 m pc ls st0) rest (va_Qd post B A1 a) (vx_X px BX AX) free) (hS : va_S A0 H0 H locs) (hA : ∀ q, q < H.size → A1 q → A0 q) (hf : ∀ q, free q → A0 q) (hAX : ∀ q, q < H.size → AX q → A0 q)
    (kx : ∀ (E : String) (ce : Cell) (q9 : Addr) (u : SX) (t : State) (H1 : Heap) (locs1 : List Loc), t.heap = H1 → s.vm.Alike t.vm → px u → BX E u t → H.size ≤ H1.size → (∀ q : Nat, q < H.size → ¬ AX q → H1[q]? = H[q]?) → va_S A0 H0 H1 locs1 → H1[q9]? = some ce → ce.vm = .none → s.vm.findClass E = some ce.cls → vx_W p l e R s m args below meth c H1 locs1 (cells + mc) (slots + ms) Q (F0 m pc ls rest) q9)
    (kk : ∀ (r : UInt64) (u : S) (t : State) (H1 : Heap) (locs1 : List Loc), t.heap = H1 → s.vm.Alike t.vm → post r u → B u t → H.size ≤ H1.size → (∀ q : Nat, q < H.size → ¬ A1 q → H1[q]? = H[q]?) → va_S A0 H0 H1 locs1 → W p l e R s m args below meth c H1 locs1 (cells + mc) (slots + ms) Q (F0 m (pc + 5) ls (.double r :: rest))) : W p l e R s m args below meth c H locs cells slots Q (F0 m pc ls st0) := by
  intro T hT X
  rcases hr T hT X with ⟨v, st₀, t, T', L, h0, X', hL, e1, e2, ⟨⟨r, u, hv, hp, hb⟩, hF⟩, st⟩ | ⟨q, st₀, t, T', L, E, ce, h0, X', hL, e1, e2, ⟨u, hp, hb, hF⟩, hce, hcv, hcl, st⟩
  · cases hv
    obtain ⟨k1, k2, k3⟩ := vx_keep h0 e1 hS hA hf hL hF
    obtain ⟨t2, a1, b1⟩ := kk r u t T'.heap (locs ++ L) e1.symm (by rw [← e2]; exact X'.warmed.alike) hp hb k1 k2 k3 T' rfl X'
    exact ⟨t2, st t2 a1, b1⟩
  · obtain ⟨k1, k2, k3⟩ := vx_keep h0 e1 hS hAX hf hL hF
    obtain ⟨t2, a1, b1⟩ := kx E ce q u t T'.heap (locs ++ L) e1.symm (by rw [← e2]; exact X'.warmed.alike) hp hb k1 k2 k3 (by rw [e1]; exact hce) hcv hcl T' rfl X'
    exact ⟨t2, st.trans a1, b1⟩
end
/-! ===== END ===== -/
/-! ===== BEGIN by an interface, a method with a table of its own that may throw (follows va_callIFW, va_runFW) ===== -/
section
variable {p : Program} {l : Launch} {e : Env} {R : Room} {s : State} {m : MethodId} {args : Array Value} {below : List Frame} {meth : Method} {c : Code} {H : Heap} {locs : List Loc} {cells slots : Nat}
theorem vx_callIFW {T : State} (X : Stand p l e R s m args below meth c T locs cells slots) (hexec : p.tables.exec = Jvm.exec) {own C : String} {index count : Nat} {x y : MethodName} {bytes : ByteArray} {maxL : Nat} {ret : Option FieldType} {hh : List (Nat × Nat × Nat × Nat)}
    (hown : s.vm.findClass own = some m.cls) (hlink : (Cond.methodLink own index x).before args s = true) (hdecl : (Cond.declares x).before args s = true) (hface : (Cond.interfaceMethod x.cls x.cls x.name x.desc).before args s = true)
    (hsel : (Cond.selects C x y).before args s = true) (hinst : (Cond.instanceMethod y).before args s = true) (hpub : (Cond.publicMethod y).before args s = true) (hunh : (Cond.unhidden C x.name x.desc).before args s = true)
    (hcast : (Cond.castable C x.cls).before args s = true) (hcode : (Cond.codeWith y bytes maxL ret hh).before args s = true) (hx : x.cls ≠ "java/lang/invoke/MethodHandle" ∧ x.cls ≠ "java/lang/invoke/VarHandle")
    {W : Nat} {Pre : Pt → Array Value → Prop} {Post : Pt → Array Value → Option Value → Pt → Prop} {PostX : Pt → Array Value → Addr → Pt → Prop} (hK : vx_Back l R p e below s args y 5 W Pre Post PostX)
    {b : Addr} {cellB : Cell} {kB : Class} (hcell : T.heap[b]? = some cellB) (hobj : cellB.vm.isStatics = false) (hcls : s.vm.findClass C = some cellB.cls) (hkB : s.vm.classes[cellB.cls]? = some kB)
    {g : JFrame} (hg : g.method = m) (hsize : g.locals.size = c.maxLocals) {argsL rest : List Value} (hlen : ∀ sig, parseMethodDescriptor x.desc = some sig → argsL.length = sig.parameters.length)
    (hstack : g.stack = argsL.reverse ++ .ref b :: rest) (hW : 2 * g.monitorRoom + (rest.map fun v => v.category).sum ≤ W) (hdg : decode c.code g.pc = .ok (.invokeinterface index count, 5))
    (hpre : ∀ vm₁, s.WarmedH vm₁ → Pre ⟨T.setVm vm₁, locs, cells, slots⟩ (Value.ref b :: argsL).toArray) :
    (∃ (v : Option Value) (vm₁ : Vm) (B : Pt), s.WarmedH vm₁ ∧ Stand p l e R s m args below meth c B.U B.locs B.cells B.slots ∧ Post ⟨T.setVm vm₁, locs, cells, slots⟩ (Value.ref b :: argsL).toArray v B ∧
      ∀ target, Steps p.tables e below (B.U.setTop { g with pc := g.pc + 5, stack := v.toList ++ rest }) target → Steps p.tables e below (T.setTop g) target) ∨
    (∃ (q : Addr) (vm₁ : Vm) (B : Pt), s.WarmedH vm₁ ∧ Stand p l e R s m args below meth c B.U B.locs B.cells B.slots ∧ PostX ⟨T.setVm vm₁, locs, cells, slots⟩ (Value.ref b :: argsL).toArray q B ∧
      Steps p.tables e below (T.setTop g) ((B.U.setTop { g with stack := rest }).pushFrame (.throwing q))) := by
  obtain ⟨r0, r, hn, hrm, hstR, hsigR⟩ := Cond.declares_spec hdecl
  obtain ⟨cL, kL, r1, hcL, hkL, hiL, hfoundL, hn1⟩ := Cond.interfaceMethod_spec hface
  cases hn.symm.trans hn1
  have hr0cls : r0.cls = cL := Option.some.inj ((findClass_of_methodNamed hn).symm.trans hcL)
  obtain ⟨hnameR, hdescR⟩ := name_of_methodNamed hn hrm
  obtain ⟨mk, methM, hnamed, hmethM, -, habM⟩ := Cond.instanceMethod_spec hinst
  obtain ⟨c2, r2, m2, q1, q2, q3, q4, -⟩ := Cond.selects_spec hsel
  cases hcls.symm.trans q1
  cases hfoundL.symm.trans q2
  cases hnamed.symm.trans q3
  have hselP : selectMethod e.platform s.vm cellB.cls r0 = .method mk := by rw [Launch.admits_selectMethod X.admits]; exact q4
  have hpubM : hasFlag methM.accessFlags Acc.public_ = true := Cond.publicMethod_spec hnamed hmethM hpub
  have hway : ((cellB.cls :: s.vm.superclasses cellB.cls).any fun k => (declaredIn s.vm r.name r.desc k).any fun (_, z) => z.isPrivate || z.isStatic) = false := by
    rw [hnameR, hdescR]; exact Cond.unhidden_spec hcls hunh
  obtain ⟨c3, t3, w1, w2, w3⟩ := Cond.castable_spec hcast
  cases hcls.symm.trans w1
  cases hcL.symm.trans w2
  obtain ⟨vm₁, X₁, hstep₁⟩ := X.invokeinterface hexec hown hlink hn hrm hstR (by rw [hr0cls]; exact hkL) hiL hx (a := b) (cell := cellB) (kcell := kB) hcell
    (fun z h => by rw [h] at hobj; cases hobj) hkB (by rw [hr0cls]; exact w3) hselP hmethM hway hpubM habM (g := g) hg (argsL := argsL) (rest := rest) (hlen _ hsigR) hstack hdg
  rcases hK m meth c ⟨T.setVm vm₁, locs, cells, slots⟩ { g with stack := rest } (.invokeinterface index count) mk (Value.ref b :: argsL).toArray X₁ hg hsize hdg hW (X₁.named hnamed) (hpre vm₁ X₁.warmed) with ⟨v, B, X', hpost, hsteps⟩ | ⟨q, B, X', hpost, hsteps⟩
  · exact Or.inl ⟨v, vm₁, B, X₁.warmed, X', hpost, fun target h => hstep₁ _ fun acts => by rw [doInvoke_state]; exact hsteps.trans h⟩
  · exact Or.inr ⟨q, vm₁, B, X₁.warmed, X', hpost, hstep₁ _ fun acts => by rw [doInvoke_state]; exact hsteps⟩
theorem vx_runFW {x y : MethodName} {bytes cc : ByteArray} {maxL nL mc ms n index count : Nat} {ret : Option FieldType} {hh : List (Nat × Nat × Nat × Nat)} {ws : List Cond} {rm : Room} {Pc : Array Value → State → Prop} {Qc : Array Value → State → Outcome → State → Prop} {XC : String → State → State → Prop} {free : Addr → Prop} {Ts : List Cond} {own C : String} {cC : ClassId} {b : Addr} {As rest : List Value} {g : JFrame}
    (hat : ClassAt s C cC) (S : CallFix p m c cc nL s args Ts own) (hM : vx_Met l y ws rm Pc Qc XC mc ms free) (cw : va_CIW R s args own C index x y bytes maxL ret hh ws rm mc ms n) (hp : PreV s H C b Pc As)
    (hg : g.method = m) (hn : As.length = n) (hsize : g.locals.size = nL) (hstack : g.stack = As.reverse ++ .ref b :: rest) (hW : 2 * g.monitorRoom + (rest.map fun v => v.category).sum ≤ 8) (hdg : decode cc g.pc = .ok (.invokeinterface index count, 5)) (hf : cells + mc ≤ R.cells ∧ slots + ms ≤ R.slots) :
    vx_Run5 p l e R s m args below meth c H locs cells slots mc ms g rest (Qc (Value.ref b :: As).toArray) XC free := by
  obtain ⟨hrc, hrs, hfr, hlo, hws, hcw⟩ := cw.back
  have hini := cw.init
  have hK : vx_Back l R p e below s args y 5 8 (PreOf R mc ms Pc) (PostOf Qc mc ms free) (vx_Post XC mc ms free) := vx_backW (hh := hh) (bytes := bytes) (maxL := maxL) (ret := ret) hM hp.1 hrc hrs hfr hlo hws hcw (fun a' U hW => word_at hW (Or.inl (by first | rfl | simp [Cond.onTables, Cond.keeps, Cond.steady])) hini)
  obtain ⟨hx, hb, hml, ho, -⟩ := S
  obtain ⟨-, ⟨cellB, hcB, hoB, hclB⟩, hPc⟩ := hp
  obtain ⟨hfc, kB, hkB, -⟩ := hat
  cases hfc.symm.trans hclB
  intro T hT X
  rcases vx_callIFW X hx (C := C) (hh := hh) (bytes := bytes) (maxL := maxL) (ret := ret) ho cw.link cw.decl cw.face cw.sel cw.inst cw.pub cw.unh cw.cast cw.code cw.notMH hK (by rw [hT]; exact hcB) hoB hclB hkB hg (hsize.trans hml.symm) (argsL := As) (rest := rest) (fun sig h => hn.trans (cw.len sig h)) hstack hW (by rw [hb]; exact hdg)
    (fun vm₁ hW₁ => ⟨hf.1, hf.2, hPc (T.setVm vm₁) hT hW₁⟩) with ⟨v, vm₁, ⟨U', l2, c2, s2⟩, hW₁, X', ⟨g', mk, t, L, e1, e2, hq, h1, hL, h2, h3⟩, st⟩ | ⟨q, vm₁, ⟨U', l2, c2, s2⟩, hW₁, X', ⟨g', mk, t, L, E, ce, e1, e2, hq, hce, hcv, hcl, h1, hL, h2, h3⟩, st⟩
  · dsimp only [Pt.U, Pt.locs, Pt.cells, Pt.slots] at X' e1 e2 h1 h2 h3 st
    subst h1; subst h2; subst h3
    exact Or.inl ⟨v, (T.setVm vm₁).calling g' mk (Value.ref b :: As).toArray, t, U', L, hT, X', hL, e1, e2, hq, st⟩
  · dsimp only [Pt.U, Pt.locs, Pt.cells, Pt.slots] at X' e1 e2 h1 h2 h3 st hcl
    subst h1; subst h2; subst h3
    exact Or.inr ⟨q, (T.setVm vm₁).calling g' mk (Value.ref b :: As).toArray, t, U', L, E, ce, hT, X', hL, e1, e2, hq, hce, hcv, vx_cls hW₁ hcl, st⟩
end
/-! ===== END ===== -/
/-! ===== BEGIN .. of methods that hand back an object of the pool ===== -/
section
variable {p : Program} {l : Launch} {e : Env} {R : Room} {s : State} {m : MethodId} {args : Array Value} {below : List Frame} {meth : Method} {c : Code} {H : Heap} {locs : List Loc} {cells slots : Nat} {Q : State → Prop}
variable {mc ms : Nat} {free : Addr → Prop} {A0 A1 : Nat → Prop} {H0 : Heap} {a : Array Value} {pc : Nat} {ls : Array Slot} {st0 rest : List Value}
theorem vx_callq {S SX : Type} {post : Option Nat → S → Prop} {px : SX → Prop} {B : S → State → Prop} {BX : String → SX → State → Prop} {AX : Nat → Prop} (hr : vx_Run p l e R s m args below meth c H locs cells slots mc ms (F0 m pc ls st0) rest (va_Qq post B A1 a) (vx_X px BX AX) free) (hS : va_S A0 H0 H locs) (hA : ∀ q, q < H.size → A1 q → A0 q) (hf : ∀ q, free q → A0 q) (hAX : ∀ q, q < H.size → AX q → A0 q)
    (kx : ∀ (E : String) (ce : Cell) (q9 : Addr) (u : SX) (t : State) (H1 : Heap) (locs1 : List Loc), t.heap = H1 → s.vm.Alike t.vm → px u → BX E u t → H.size ≤ H1.size → (∀ q : Nat, q < H.size → ¬ AX q → H1[q]? = H[q]?) → va_S A0 H0 H1 locs1 → H1[q9]? = some ce → ce.vm = .none → s.vm.findClass E = some ce.cls → vx_W p l e R s m args below meth c H1 locs1 (cells + mc) (slots + ms) Q (F0 m pc ls rest) q9)
    (kk : ∀ (r : Option Nat) (u : S) (t : State) (H1 : Heap) (locs1 : List Loc), t.heap = H1 → s.vm.Alike t.vm → post r u → B u t → H.size ≤ H1.size → (∀ q : Nat, q < H.size → ¬ A1 q → H1[q]? = H[q]?) → va_S A0 H0 H1 locs1 → W p l e R s m args below meth c H1 locs1 (cells + mc) (slots + ms) Q (F0 m (pc + 3) ls (va_rf r :: rest))) : W p l e R s m args below meth c H locs cells slots Q (F0 m pc ls st0) := by
  intro T hT X
  rcases hr T hT X with ⟨v, st₀, t, T', L, h0, X', hL, e1, e2, ⟨⟨r, u, hv, hp, hb⟩, hF⟩, st⟩ | ⟨q, st₀, t, T', L, E, ce, h0, X', hL, e1, e2, ⟨u, hp, hb, hF⟩, hce, hcv, hcl, st⟩
  · cases hv
    obtain ⟨k1, k2, k3⟩ := vx_keep h0 e1 hS hA hf hL hF
    obtain ⟨t2, a1, b1⟩ := kk r u t T'.heap (locs ++ L) e1.symm (by rw [← e2]; exact X'.warmed.alike) hp hb k1 k2 k3 T' rfl X'
    exact ⟨t2, st t2 a1, b1⟩
  · obtain ⟨k1, k2, k3⟩ := vx_keep h0 e1 hS hAX hf hL hF
    obtain ⟨t2, a1, b1⟩ := kx E ce q u t T'.heap (locs ++ L) e1.symm (by rw [← e2]; exact X'.warmed.alike) hp hb k1 k2 k3 (by rw [e1]; exact hce) hcv hcl T' rfl X'
    exact ⟨t2, st.trans a1, b1⟩
end
/-! ===== END ===== -/
/-! ===== BEGIN .. a constant ===== -/
section
variable {p : Program} {l : Launch} {e : Env} {R : Room} {s : State} {m : MethodId} {args : Array Value} {below : List Frame} {meth : Method} {c : Code} {H : Heap} {locs : List Loc} {cells slots : Nat} {Q : State → Prop}
variable {mc ms : Nat} {free : Addr → Prop} {A0 A1 : Nat → Prop} {H0 : Heap} {a : Array Value} {pc : Nat} {ls : Array Slot} {st0 rest : List Value}
theorem vx_calle {ad : Nat → Nat} {S SX : Type} {post : Option Nat → S → Prop} {px : SX → Prop} {B : S → State → Prop} {BX : String → SX → State → Prop} {AX : Nat → Prop} (hr : vx_Run p l e R s m args below meth c H locs cells slots mc ms (F0 m pc ls st0) rest (va_Qe ad post B A1 a) (vx_X px BX AX) free) (hS : va_S A0 H0 H locs) (hA : ∀ q, q < H.size → A1 q → A0 q) (hf : ∀ q, free q → A0 q) (hAX : ∀ q, q < H.size → AX q → A0 q)
    (kx : ∀ (E : String) (ce : Cell) (q9 : Addr) (u : SX) (t : State) (H1 : Heap) (locs1 : List Loc), t.heap = H1 → s.vm.Alike t.vm → px u → BX E u t → H.size ≤ H1.size → (∀ q : Nat, q < H.size → ¬ AX q → H1[q]? = H[q]?) → va_S A0 H0 H1 locs1 → H1[q9]? = some ce → ce.vm = .none → s.vm.findClass E = some ce.cls → vx_W p l e R s m args below meth c H1 locs1 (cells + mc) (slots + ms) Q (F0 m pc ls rest) q9)
    (kk : ∀ (r : Option Nat) (u : S) (t : State) (H1 : Heap) (locs1 : List Loc), t.heap = H1 → s.vm.Alike t.vm → post r u → B u t → H.size ≤ H1.size → (∀ q : Nat, q < H.size → ¬ A1 q → H1[q]? = H[q]?) → va_S A0 H0 H1 locs1 → W p l e R s m args below meth c H1 locs1 (cells + mc) (slots + ms) Q (F0 m (pc + 3) ls (va_re ad r :: rest))) : W p l e R s m args below meth c H locs cells slots Q (F0 m pc ls st0) := by
  intro T hT X
  rcases hr T hT X with ⟨v, st₀, t, T', L, h0, X', hL, e1, e2, ⟨⟨r, u, hv, hp, hb⟩, hF⟩, st⟩ | ⟨q, st₀, t, T', L, E, ce, h0, X', hL, e1, e2, ⟨u, hp, hb, hF⟩, hce, hcv, hcl, st⟩
  · cases hv
    obtain ⟨k1, k2, k3⟩ := vx_keep h0 e1 hS hA hf hL hF
    obtain ⟨t2, a1, b1⟩ := kk r u t T'.heap (locs ++ L) e1.symm (by rw [← e2]; exact X'.warmed.alike) hp hb k1 k2 k3 T' rfl X'
    exact ⟨t2, st t2 a1, b1⟩
  · obtain ⟨k1, k2, k3⟩ := vx_keep h0 e1 hS hAX hf hL hF
    obtain ⟨t2, a1, b1⟩ := kx E ce q u t T'.heap (locs ++ L) e1.symm (by rw [← e2]; exact X'.warmed.alike) hp hb k1 k2 k3 (by rw [e1]; exact hce) hcv hcl T' rfl X'
    exact ⟨t2, st.trans a1, b1⟩
end
/-! ===== END ===== -/
/-! ===== BEGIN .. by an interface, an object ===== -/
section
variable {p : Program} {l : Launch} {e : Env} {R : Room} {s : State} {m : MethodId} {args : Array Value} {below : List Frame} {meth : Method} {c : Code} {H : Heap} {locs : List Loc} {cells slots : Nat} {Q : State → Prop}
variable {mc ms : Nat} {free : Addr → Prop} {A0 A1 : Nat → Prop} {H0 : Heap} {a : Array Value} {pc : Nat} {ls : Array Slot} {st0 rest : List Value}
theorem vx_callFq {S SX : Type} {post : Option Nat → S → Prop} {px : SX → Prop} {B : S → State → Prop} {BX : String → SX → State → Prop} {AX : Nat → Prop} (hr : vx_Run5 p l e R s m args below meth c H locs cells slots mc ms (F0 m pc ls st0) rest (va_Qq post B A1 a) (vx_X px BX AX) free) (hS : va_S A0 H0 H locs) (hA : ∀ q, q < H.size → A1 q → A0 q) (hf : ∀ q, free q → A0 q) (hAX : ∀ q, q < H.size → AX q → A0 q)
    (kx : ∀ (E : String) (ce : Cell) (q9 : Addr) (u : SX) (t : State) (H1 : Heap) (locs1 : List Loc), t.heap = H1 → s.vm.Alike t.vm → px u → BX E u t → H.size ≤ H1.size → (∀ q : Nat, q < H.size → ¬ AX q → H1[q]? = H[q]?) → va_S A0 H0 H1 locs1 → H1[q9]? = some ce → ce.vm = .none → s.vm.findClass E = some ce.cls → vx_W p l e R s m args below meth c H1 locs1 (cells + mc) (slots + ms) Q (F0 m pc ls rest) q9)
    (kk : ∀ (r : Option Nat) (u : S) (t : State) (H1 : Heap) (locs1 : List Loc), t.heap = H1 → s.vm.Alike t.vm → post r u → B u t → H.size ≤ H1.size → (∀ q : Nat, q < H.size → ¬ A1 q → H1[q]? = H[q]?) → va_S A0 H0 H1 locs1 → W p l e R s m args below meth c H1 locs1 (cells + mc) (slots + ms) Q (F0 m (pc + 5) ls (va_rf r :: rest))) : W p l e R s m args below meth c H locs cells slots Q (F0 m pc ls st0) := by
  intro T hT X
  rcases hr T hT X with ⟨v, st₀, t, T', L, h0, X', hL, e1, e2, ⟨⟨r, u, hv, hp, hb⟩, hF⟩, st⟩ | ⟨q, st₀, t, T', L, E, ce, h0, X', hL, e1, e2, ⟨u, hp, hb, hF⟩, hce, hcv, hcl, st⟩
  · cases hv
    obtain ⟨k1, k2, k3⟩ := vx_keep h0 e1 hS hA hf hL hF
    obtain ⟨t2, a1, b1⟩ := kk r u t T'.heap (locs ++ L) e1.symm (by rw [← e2]; exact X'.warmed.alike) hp hb k1 k2 k3 T' rfl X'
    exact ⟨t2, st t2 a1, b1⟩
  · obtain ⟨k1, k2, k3⟩ := vx_keep h0 e1 hS hAX hf hL hF
    obtain ⟨t2, a1, b1⟩ := kx E ce q u t T'.heap (locs ++ L) e1.symm (by rw [← e2]; exact X'.warmed.alike) hp hb k1 k2 k3 (by rw [e1]; exact hce) hcv hcl T' rfl X'
    exact ⟨t2, st.trans a1, b1⟩
end
/-! ===== END ===== -/
/-! ===== BEGIN .. by an interface, a constant ===== -/
section
variable {p : Program} {l : Launch} {e : Env} {R : Room} {s : State} {m : MethodId} {args : Array Value} {below : List Frame} {meth : Method} {c : Code} {H : Heap} {locs : List Loc} {cells slots : Nat} {Q : State → Prop}
variable {mc ms : Nat} {free : Addr → Prop} {A0 A1 : Nat → Prop} {H0 : Heap} {a : Array Value} {pc : Nat} {ls : Array Slot} {st0 rest : List Value}
theorem vx_callFe {ad : Nat → Nat} {S SX : Type} {post : Option Nat → S → Prop} {px : SX → Prop} {B : S → State → Prop} {BX : String → SX → State → Prop} {AX : Nat → Prop} (hr : vx_Run5 p l e R s m args below meth c H locs cells slots mc ms (F0 m pc ls st0) rest (va_Qe ad post B A1 a) (vx_X px BX AX) free) (hS : va_S A0 H0 H locs) (hA : ∀ q, q < H.size → A1 q → A0 q) (hf : ∀ q, free q → A0 q) (hAX : ∀ q, q < H.size → AX q → A0 q)
    (kx : ∀ (E : String) (ce : Cell) (q9 : Addr) (u : SX) (t : State) (H1 : Heap) (locs1 : List Loc), t.heap = H1 → s.vm.Alike t.vm → px u → BX E u t → H.size ≤ H1.size → (∀ q : Nat, q < H.size → ¬ AX q → H1[q]? = H[q]?) → va_S A0 H0 H1 locs1 → H1[q9]? = some ce → ce.vm = .none → s.vm.findClass E = some ce.cls → vx_W p l e R s m args below meth c H1 locs1 (cells + mc) (slots + ms) Q (F0 m pc ls rest) q9)
    (kk : ∀ (r : Option Nat) (u : S) (t : State) (H1 : Heap) (locs1 : List Loc), t.heap = H1 → s.vm.Alike t.vm → post r u → B u t → H.size ≤ H1.size → (∀ q : Nat, q < H.size → ¬ A1 q → H1[q]? = H[q]?) → va_S A0 H0 H1 locs1 → W p l e R s m args below meth c H1 locs1 (cells + mc) (slots + ms) Q (F0 m (pc + 5) ls (va_re ad r :: rest))) : W p l e R s m args below meth c H locs cells slots Q (F0 m pc ls st0) := by
  intro T hT X
  rcases hr T hT X with ⟨v, st₀, t, T', L, h0, X', hL, e1, e2, ⟨⟨r, u, hv, hp, hb⟩, hF⟩, st⟩ | ⟨q, st₀, t, T', L, E, ce, h0, X', hL, e1, e2, ⟨u, hp, hb, hF⟩, hce, hcv, hcl, st⟩
  · cases hv
    obtain ⟨k1, k2, k3⟩ := vx_keep h0 e1 hS hA hf hL hF
    obtain ⟨t2, a1, b1⟩ := kk r u t T'.heap (locs ++ L) e1.symm (by rw [← e2]; exact X'.warmed.alike) hp hb k1 k2 k3 T' rfl X'
    exact ⟨t2, st t2 a1, b1⟩
  · obtain ⟨k1, k2, k3⟩ := vx_keep h0 e1 hS hAX hf hL hF
    obtain ⟨t2, a1, b1⟩ := kx E ce q u t T'.heap (locs ++ L) e1.symm (by rw [← e2]; exact X'.warmed.alike) hp hb k1 k2 k3 (by rw [e1]; exact hce) hcv hcl T' rfl X'
    exact ⟨t2, st.trans a1, b1⟩
end
/-! ===== END ===== -/
/-! ===== BEGIN what the machine throws by itself: null at a field, at athrow ===== -/
section VXM2
variable {p : Program} {l : Launch} {e : Env} {R : Room} {s : State} {m : MethodId} {args : Array Value} {below : List Frame} {meth : Method} {c : Code} {H : Heap} {locs : List Loc} {cells slots : Nat}
variable {Q : State → Prop} {cc : ByteArray} {pc : Nat} {ls : Array Slot} {rest : List Value}
theorem vx_getfN {D cl tys} {own ref C : String} {T : u_T} {N ci index : Nat} {Ts : List Cond} (hexec : p.tables.exec = Jvm.exec) (hb : c.code = cc) (hts : ∀ w ∈ Ts, w.before args s = true) (hin : ∀ w ∈ u_ws C T N, w ∈ Ts) (hown : s.vm.findClass own = some m.cls) (hK : va_K D cl tys s) (hc : cl[ci]? = some (C, T, N)) (k : Nat) (hk : k < N) (hlink : (Cond.fieldLink own index ref (T k).2.1 (T k).2.2.1).before args s = true) (hsame : ∀ x, s.fieldFound? (T k).1 (T k).2.1 (T k).2.2.1 = some x → s.fieldFound? ref (T k).2.1 (T k).2.2.1 = some x) (hdg : decode cc pc = .ok (.getfield index, 3)) (kk : vx_NoteN p l e R s m args below meth c H locs cells slots Q (F0 m pc ls rest)) : W p l e R s m args below meth c H locs cells slots Q (F0 m pc ls (.null :: rest)) := by
  obtain ⟨hS, hfc, kC, hkC, -⟩ := hK.1 ci _ hc
  obtain ⟨cf, kf, fi, f, hi, -⟩ := hS k hk
  intro U hU X
  obtain ⟨vm', X1, st1⟩ := X.getfieldNull hexec hown hlink (hsame _ hi) (u_facts hfc hkC (u_lays hts hin hk) hi).1 (g := F0 m pc ls (.null :: rest)) rfl (rest := rest) rfl (by rw [hb]; exact hdg)
  obtain ⟨t, st, q⟩ := kk (U.setVm vm') hU X1
  exact ⟨t, st1 t st, q⟩
theorem vx_getfNN {D cl tys} {own ref C host : String} {T : u_T} {N ci index : Nat} {Ts : List Cond} (hexec : p.tables.exec = Jvm.exec) (hb : c.code = cc) (hts : ∀ w ∈ Ts, w.before args s = true) (hin : ∀ w ∈ u_ws C T N, w ∈ Ts) (hown : s.vm.findClass own = some m.cls) (hK : va_K D cl tys s) (hc : cl[ci]? = some (C, T, N)) (k : Nat) (hk : k < N) (hlink : (Cond.fieldLinkNest own index ref (T k).2.1 (T k).2.2.1 host).before args s = true) (hsame : ∀ x, s.fieldFound? (T k).1 (T k).2.1 (T k).2.2.1 = some x → s.fieldFound? ref (T k).2.1 (T k).2.2.1 = some x) (hdg : decode cc pc = .ok (.getfield index, 3)) (kk : vx_NoteN p l e R s m args below meth c H locs cells slots Q (F0 m pc ls rest)) : W p l e R s m args below meth c H locs cells slots Q (F0 m pc ls (.null :: rest)) := by
  obtain ⟨hS, hfc, kC, hkC, -⟩ := hK.1 ci _ hc
  obtain ⟨cf, kf, fi, f, hi, -⟩ := hS k hk
  intro U hU X
  obtain ⟨vm', X1, st1⟩ := X.getfieldNullNest hexec hown hlink (hsame _ hi) (u_facts hfc hkC (u_lays hts hin hk) hi).1 (g := F0 m pc ls (.null :: rest)) rfl (rest := rest) rfl (by rw [hb]; exact hdg)
  obtain ⟨t, st, q⟩ := kk (U.setVm vm') hU X1
  exact ⟨t, st1 t st, q⟩
theorem vx_putfN {D cl tys} {own ref C : String} {T : u_T} {N ci index : Nat} {Ts : List Cond} (hexec : p.tables.exec = Jvm.exec) (hb : c.code = cc) (hts : ∀ w ∈ Ts, w.before args s = true) (hin : ∀ w ∈ u_ws C T N, w ∈ Ts) (hown : s.vm.findClass own = some m.cls) (hK : va_K D cl tys s) (hc : cl[ci]? = some (C, T, N)) (k : Nat) (hk : k < N) (hlink : (Cond.fieldLink own index ref (T k).2.1 (T k).2.2.1).before args s = true) (hsame : ∀ x, s.fieldFound? (T k).1 (T k).2.1 (T k).2.2.1 = some x → s.fieldFound? ref (T k).2.1 (T k).2.2.1 = some x) (hfin : (T k).2.2.2 = false) {v : Value} (hdg : decode cc pc = .ok (.putfield index, 3)) (kk : vx_NoteN p l e R s m args below meth c H locs cells slots Q (F0 m pc ls rest)) : W p l e R s m args below meth c H locs cells slots Q (F0 m pc ls (v :: .null :: rest)) := by
  obtain ⟨hS, hfc, kC, hkC, -⟩ := hK.1 ci _ hc
  obtain ⟨cf, kf, fi, f, hi, -⟩ := hS k hk
  have hlay := hts _ (hin _ (u_in_lay hk))
  unfold u_lay at hlay
  rw [if_neg (by rw [hfin]; decide)] at hlay
  obtain ⟨c9, k9, cf9, kf9, fi9, f9, -, -, hi9, hst9, hnf9, -⟩ := Cond.lays_spec hlay
  cases hi.symm.trans hi9
  intro U hU X
  obtain ⟨vm', X1, st1⟩ := X.putfieldNull hexec hown hlink (hsame _ hi) hst9 hnf9 (g := F0 m pc ls (v :: .null :: rest)) rfl (v := v) (rest := rest) rfl (by rw [hb]; exact hdg)
  obtain ⟨t, st, q⟩ := kk (U.setVm vm') hU X1
  exact ⟨t, st1 t st, q⟩
theorem vx_putfNN {D cl tys} {own ref C host : String} {T : u_T} {N ci index : Nat} {Ts : List Cond} (hexec : p.tables.exec = Jvm.exec) (hb : c.code = cc) (hts : ∀ w ∈ Ts, w.before args s = true) (hin : ∀ w ∈ u_ws C T N, w ∈ Ts) (hown : s.vm.findClass own = some m.cls) (hK : va_K D cl tys s) (hc : cl[ci]? = some (C, T, N)) (k : Nat) (hk : k < N) (hlink : (Cond.fieldLinkNest own index ref (T k).2.1 (T k).2.2.1 host).before args s = true) (hsame : ∀ x, s.fieldFound? (T k).1 (T k).2.1 (T k).2.2.1 = some x → s.fieldFound? ref (T k).2.1 (T k).2.2.1 = some x) (hfin : (T k).2.2.2 = false) {v : Value} (hdg : decode cc pc = .ok (.putfield index, 3)) (kk : vx_NoteN p l e R s m args below meth c H locs cells slots Q (F0 m pc ls rest)) : W p l e R s m args below meth c H locs cells slots Q (F0 m pc ls (v :: .null :: rest)) := by
  obtain ⟨hS, hfc, kC, hkC, -⟩ := hK.1 ci _ hc
  obtain ⟨cf, kf, fi, f, hi, -⟩ := hS k hk
  have hlay := hts _ (hin _ (u_in_lay hk))
  unfold u_lay at hlay
  rw [if_neg (by rw [hfin]; decide)] at hlay
  obtain ⟨c9, k9, cf9, kf9, fi9, f9, -, -, hi9, hst9, hnf9, -⟩ := Cond.lays_spec hlay
  cases hi.symm.trans hi9
  intro U hU X
  obtain ⟨vm', X1, st1⟩ := X.putfieldNullNest hexec hown hlink (hsame _ hi) hst9 hnf9 (g := F0 m pc ls (v :: .null :: rest)) rfl (v := v) (rest := rest) rfl (by rw [hb]; exact hdg)
  obtain ⟨t, st, q⟩ := kk (U.setVm vm') hU X1
  exact ⟨t, st1 t st, q⟩
theorem vx_athrowN (hexec : p.tables.exec = Jvm.exec) (hb : c.code = cc) (hdg : decode cc pc = .ok (.athrow, 1)) (k : vx_NoteN p l e R s m args below meth c H locs cells slots Q (F0 m pc ls rest)) : W p l e R s m args below meth c H locs cells slots Q (F0 m pc ls (.null :: rest)) := by
  intro T hT X
  obtain ⟨t, st, q⟩ := k T hT X
  exact ⟨t, X.athrowNull hexec (g := F0 m pc ls (.null :: rest)) rfl (rest := rest) rfl (by rw [hb]; exact hdg) t st, q⟩
end VXM2
/-! ===== END ===== -/
end
section
def RX0 : String := "Raywalk$Angle"
def TX0 : u_T := fun k => match k with
  | _ => ("", "", "", false)
def tyX0 : Nat → FieldType := fun k => match k with
  | _ => .int
theorem nmX0 : ∀ a, a < 0 → ∀ b, b < 0 → a ≠ b → (TX0 a).2.1 ≠ (TX0 b).2.1 := by decide +kernel
theorem tyX0_ok : ∀ k, k < 0 → parseFieldDescriptor (TX0 k).2.2.1 = some (tyX0 k) := by decide +kernel
abbrev cX0_between : ByteArray := prog_2_method_2_code
def yX0_between : MethodName := ⟨RX0, "between", "(II)J"⟩
abbrev cX0_arc : ByteArray := prog_2_method_3_code
def yX0_arc : MethodName := ⟨RX0, "arc", "(JJ)J"⟩
abbrev cX0_timesQuotient : ByteArray := prog_2_method_4_code
def yX0_timesQuotient : MethodName := ⟨RX0, "timesQuotient", "(JJJ)J"⟩
abbrev cX0_roundDown : ByteArray := prog_2_method_5_code
def yX0_roundDown : MethodName := ⟨RX0, "roundDown", "(JI)I"⟩
abbrev cX0_exponentAndHead : ByteArray := prog_2_method_6_code
def yX0_exponentAndHead : MethodName := ⟨RX0, "exponentAndHead", "(J)I"⟩
abbrev cX0_compareDigits : ByteArray := prog_2_method_7_code
def yX0_compareDigits : MethodName := ⟨RX0, "compareDigits", "(II)I"⟩
abbrev cX0_rankOf : ByteArray := prog_2_method_8_code
def yX0_rankOf : MethodName := ⟨RX0, "rankOf", "(I)I"⟩
abbrev cX0_sideBetween : ByteArray := prog_2_method_9_code
def yX0_sideBetween : MethodName := ⟨RX0, "sideBetween", "(JJ)I"⟩
def RX1 : String := "Raywalk$Field"
def TX1 : u_T := fun k => match k with
  | 0 => ("Raywalk$Field", "x", "[I", true)
  | 1 => ("Raywalk$Field", "y", "[I", true)
  | 2 => ("Raywalk$Field", "count", "I", false)
  | 3 => ("Raywalk$Field", "round", "[I", true)
  | 4 => ("Raywalk$Field", "roundCount", "I", false)
  | 5 => ("Raywalk$Field", "hull", "[I", true)
  | 6 => ("Raywalk$Field", "hullCount", "I", false)
  | 7 => ("Raywalk$Field", "step", "LRaywalk$Step;", true)
  | _ => ("Raywalk$Field", "nextStep", "LRaywalk$Step;", true)
def tyX1 : Nat → FieldType := fun k => match k with
  | 0 => .array .int
  | 1 => .array .int
  | 2 => .int
  | 3 => .array .int
  | 4 => .int
  | 5 => .array .int
  | 6 => .int
  | 7 => .object "Raywalk$Step"
  | _ => .object "Raywalk$Step"
theorem nmX1 : ∀ a, a < 9 → ∀ b, b < 9 → a ≠ b → (TX1 a).2.1 ≠ (TX1 b).2.1 := by decide +kernel
theorem tyX1_ok : ∀ k, k < 9 → parseFieldDescriptor (TX1 k).2.2.1 = some (tyX1 k) := by decide +kernel
abbrev cX1_init : ByteArray := prog_3_method_1_code
def yX1_init : MethodName := ⟨RX1, "<init>", "()V"⟩
abbrev cX1_numberAt : ByteArray := prog_3_method_2_code
def yX1_numberAt : MethodName := ⟨RX1, "numberAt", "(II)I"⟩
abbrev cX1_add : ByteArray := prog_3_method_3_code
def yX1_add : MethodName := ⟨RX1, "add", "(II)I"⟩
abbrev cX1_drop : ByteArray := prog_3_method_4_code
def yX1_drop : MethodName := ⟨RX1, "drop", "(I)V"⟩
abbrev cX1_moveTo : ByteArray := prog_3_method_5_code
def yX1_moveTo : MethodName := ⟨RX1, "moveTo", "(III)Z"⟩
abbrev cX1_turnAll : ByteArray := prog_3_method_6_code
def yX1_turnAll : MethodName := ⟨RX1, "turnAll", "()V"⟩
abbrev cX1_mirrorAll : ByteArray := prog_3_method_7_code
def yX1_mirrorAll : MethodName := ⟨RX1, "mirrorAll", "()V"⟩
abbrev cX1_stepBetween : ByteArray := prog_3_method_8_code
def yX1_stepBetween : MethodName := ⟨RX1, "stepBetween", "(LRaywalk$Step;II)V"⟩
abbrev cX1_cross : ByteArray := prog_3_method_9_code
def yX1_cross : MethodName := ⟨RX1, "cross", "(III)I"⟩
abbrev cX1_dot : ByteArray := prog_3_method_10_code
def yX1_dot : MethodName := ⟨RX1, "dot", "(III)I"⟩
abbrev cX1_distance : ByteArray := prog_3_method_11_code
def yX1_distance : MethodName := ⟨RX1, "distance", "(II)I"⟩
abbrev cX1_following : ByteArray := prog_3_method_12_code
def yX1_following : MethodName := ⟨RX1, "following", "(II)I"⟩
abbrev cX1_lay : ByteArray := prog_3_method_13_code
def yX1_lay : MethodName := ⟨RX1, "lay", "()V"⟩
abbrev cX1_layRound : ByteArray := prog_3_method_14_code
def yX1_layRound : MethodName := ⟨RX1, "layRound", "()V"⟩
abbrev cX1_takeSteps : ByteArray := prog_3_method_15_code
def yX1_takeSteps : MethodName := ⟨RX1, "takeSteps", "(III)V"⟩
abbrev cX1_orderFrom : ByteArray := prog_3_method_16_code
def yX1_orderFrom : MethodName := ⟨RX1, "orderFrom", "(III)I"⟩
abbrev cX1_comesBefore : ByteArray := prog_3_method_17_code
def yX1_comesBefore : MethodName := ⟨RX1, "comesBefore", "(II)Z"⟩
abbrev cX1_layHull : ByteArray := prog_3_method_18_code
def yX1_layHull : MethodName := ⟨RX1, "layHull", "()V"⟩
abbrev cX1_lowest : ByteArray := prog_3_method_19_code
def yX1_lowest : MethodName := ⟨RX1, "lowest", "()I"⟩
abbrev cX1_cornerAfter : ByteArray := prog_3_method_20_code
def yX1_cornerAfter : MethodName := ⟨RX1, "cornerAfter", "(I)I"⟩
abbrev cX1_isOutside : ByteArray := prog_3_method_21_code
def yX1_isOutside : MethodName := ⟨RX1, "isOutside", "(III)Z"⟩
abbrev cX1_takeRoundSteps : ByteArray := prog_3_method_22_code
def yX1_takeRoundSteps : MethodName := ⟨RX1, "takeRoundSteps", "(I)V"⟩
abbrev cX1_isRoundStar : ByteArray := prog_3_method_23_code
def yX1_isRoundStar : MethodName := ⟨RX1, "isRoundStar", "()Z"⟩
abbrev cX1_areaOfStar : ByteArray := prog_3_method_24_code
def yX1_areaOfStar : MethodName := ⟨RX1, "areaOfStar", "()I"⟩
abbrev cX1_areaOfHull : ByteArray := prog_3_method_25_code
def yX1_areaOfHull : MethodName := ⟨RX1, "areaOfHull", "()I"⟩
abbrev cX1_isCentreOnWalk : ByteArray := prog_3_method_26_code
def yX1_isCentreOnWalk : MethodName := ⟨RX1, "isCentreOnWalk", "()Z"⟩
abbrev cX1_windings : ByteArray := prog_3_method_27_code
def yX1_windings : MethodName := ⟨RX1, "windings", "()I"⟩
abbrev cX1_windingOf : ByteArray := prog_3_method_28_code
def yX1_windingOf : MethodName := ⟨RX1, "windingOf", "(II)I"⟩
abbrev cX1_isRoundSound : ByteArray := prog_3_method_29_code
def yX1_isRoundSound : MethodName := ⟨RX1, "isRoundSound", "()Z"⟩
abbrev cX1_isHullSound : ByteArray := prog_3_method_30_code
def yX1_isHullSound : MethodName := ⟨RX1, "isHullSound", "()Z"⟩
abbrev cX1_isStarSound : ByteArray := prog_3_method_31_code
def yX1_isStarSound : MethodName := ⟨RX1, "isStarSound", "()Z"⟩
def RX2 : String := "Raywalk$Step"
def TX2 : u_T := fun k => match k with
  | 0 => ("Raywalk$Step", "across", "I", false)
  | 1 => ("Raywalk$Step", "up", "I", false)
  | 2 => ("Raywalk$Step", "signs", "I", false)
  | _ => ("Raywalk$Step", "lookAcross", "I", false)
def tyX2 : Nat → FieldType := fun k => match k with
  | 0 => .int
  | 1 => .int
  | 2 => .int
  | _ => .int
theorem nmX2 : ∀ a, a < 4 → ∀ b, b < 4 → a ≠ b → (TX2 a).2.1 ≠ (TX2 b).2.1 := by decide +kernel
theorem tyX2_ok : ∀ k, k < 4 → parseFieldDescriptor (TX2 k).2.2.1 = some (tyX2 k) := by decide +kernel
abbrev cX2_init : ByteArray := prog_4_method_1_code
def yX2_init : MethodName := ⟨RX2, "<init>", "()V"⟩
abbrev cX2_become : ByteArray := prog_4_method_2_code
def yX2_become : MethodName := ⟨RX2, "become", "(III)V"⟩
abbrev cX2_becomeByRule : ByteArray := prog_4_method_3_code
def yX2_becomeByRule : MethodName := ⟨RX2, "becomeByRule", "(LRaywalk$Step;I)V"⟩
abbrev cX2_isNull : ByteArray := prog_4_method_4_code
def yX2_isNull : MethodName := ⟨RX2, "isNull", "()Z"⟩
abbrev cX2_isUpper : ByteArray := prog_4_method_5_code
def yX2_isUpper : MethodName := ⟨RX2, "isUpper", "()Z"⟩
abbrev cX2_isTwinOf : ByteArray := prog_4_method_6_code
def yX2_isTwinOf : MethodName := ⟨RX2, "isTwinOf", "(LRaywalk$Step;)Z"⟩
abbrev cX2_isOfNoSize : ByteArray := prog_4_method_7_code
def yX2_isOfNoSize : MethodName := ⟨RX2, "isOfNoSize", "()Z"⟩
abbrev cX2_isDiagonal : ByteArray := prog_4_method_8_code
def yX2_isDiagonal : MethodName := ⟨RX2, "isDiagonal", "()Z"⟩
abbrev cX2_isFixed : ByteArray := prog_4_method_9_code
def yX2_isFixed : MethodName := ⟨RX2, "isFixed", "()Z"⟩
abbrev cX2_orderTo : ByteArray := prog_4_method_10_code
def yX2_orderTo : MethodName := ⟨RX2, "orderTo", "(LRaywalk$Step;)I"⟩
abbrev cX2_crossWith : ByteArray := prog_4_method_11_code
def yX2_crossWith : MethodName := ⟨RX2, "crossWith", "(LRaywalk$Step;)I"⟩
abbrev cX2_sideOf : ByteArray := prog_4_method_12_code
def yX2_sideOf : MethodName := ⟨RX2, "sideOf", "(LRaywalk$Step;)I"⟩
abbrev cX2_angle : ByteArray := prog_4_method_13_code
def yX2_angle : MethodName := ⟨RX2, "angle", "()J"⟩
abbrev cX2_firstDigits : ByteArray := prog_4_method_14_code
def yX2_firstDigits : MethodName := ⟨RX2, "firstDigits", "(J)I"⟩
abbrev cX2_lastDigits : ByteArray := prog_4_method_15_code
def yX2_lastDigits : MethodName := ⟨RX2, "lastDigits", "()I"⟩
def RX3 : String := "Raywalk"
def TX3 : u_T := fun k => match k with
  | 0 => ("Raywalk", "cells", "[LRaywalk$Step;", true)
  | 1 => ("Raywalk", "cellsBefore", "[LRaywalk$Step;", true)
  | 2 => ("Raywalk", "angles", "[J", true)
  | 3 => ("Raywalk", "comer", "LRaywalk$Step;", true)
  | 4 => ("Raywalk", "helper", "LRaywalk$Step;", true)
  | 5 => ("Raywalk", "field", "LRaywalk$Field;", true)
  | 6 => ("Raywalk", "cellActs", "I", false)
  | 7 => ("Raywalk", "placeActs", "I", false)
  | 8 => ("Raywalk", "refusals", "I", false)
  | _ => ("Raywalk", "knocks", "I", false)
def tyX3 : Nat → FieldType := fun k => match k with
  | 0 => .array (.object "Raywalk$Step")
  | 1 => .array (.object "Raywalk$Step")
  | 2 => .array .long
  | 3 => .object "Raywalk$Step"
  | 4 => .object "Raywalk$Step"
  | 5 => .object "Raywalk$Field"
  | 6 => .int
  | 7 => .int
  | 8 => .int
  | _ => .int
theorem nmX3 : ∀ a, a < 10 → ∀ b, b < 10 → a ≠ b → (TX3 a).2.1 ≠ (TX3 b).2.1 := by decide +kernel
theorem tyX3_ok : ∀ k, k < 10 → parseFieldDescriptor (TX3 k).2.2.1 = some (tyX3 k) := by decide +kernel
abbrev cX3_init : ByteArray := prog_1_method_1_code
def yX3_init : MethodName := ⟨RX3, "<init>", "()V"⟩
abbrev cX3_put : ByteArray := prog_1_method_2_code
def yX3_put : MethodName := ⟨RX3, "put", "(IIII)I"⟩
abbrev cX3_make : ByteArray := prog_1_method_3_code
def yX3_make : MethodName := ⟨RX3, "make", "(II)I"⟩
abbrev cX3_stretch : ByteArray := prog_1_method_4_code
def yX3_stretch : MethodName := ⟨RX3, "stretch", "(II)I"⟩
abbrev cX3_addSteps : ByteArray := prog_1_method_5_code
def yX3_addSteps : MethodName := ⟨RX3, "addSteps", "(III)I"⟩
abbrev cX3_takeStep : ByteArray := prog_1_method_6_code
def yX3_takeStep : MethodName := ⟨RX3, "takeStep", "(III)I"⟩
abbrev cX3_sortSteps : ByteArray := prog_1_method_7_code
def yX3_sortSteps : MethodName := ⟨RX3, "sortSteps", "(Z)I"⟩
abbrev cX3_sinkIntoSorted : ByteArray := prog_1_method_8_code
def yX3_sinkIntoSorted : MethodName := ⟨RX3, "sinkIntoSorted", "(IZ)V"⟩
abbrev cX3_comeOrRefuse : ByteArray := prog_1_method_9_code
def yX3_comeOrRefuse : MethodName := ⟨RX3, "comeOrRefuse", "(IIII)I"⟩
abbrev cX3_comeTo : ByteArray := prog_1_method_10_code
def yX3_comeTo : MethodName := ⟨RX3, "comeTo", "(I)I"⟩
abbrev cX3_refuse : ByteArray := prog_1_method_11_code
def yX3_refuse : MethodName := ⟨RX3, "refuse", "()I"⟩
abbrev cX3_across : ByteArray := prog_1_method_12_code
def yX3_across : MethodName := ⟨RX3, "across", "(I)I"⟩
abbrev cX3_up : ByteArray := prog_1_method_13_code
def yX3_up : MethodName := ⟨RX3, "up", "(I)I"⟩
abbrev cX3_signs : ByteArray := prog_1_method_14_code
def yX3_signs : MethodName := ⟨RX3, "signs", "(I)I"⟩
abbrev cX3_upper : ByteArray := prog_1_method_15_code
def yX3_upper : MethodName := ⟨RX3, "upper", "(I)I"⟩
abbrev cX3_lower : ByteArray := prog_1_method_16_code
def yX3_lower : MethodName := ⟨RX3, "lower", "(I)I"⟩
abbrev cX3_grade : ByteArray := prog_1_method_17_code
def yX3_grade : MethodName := ⟨RX3, "grade", "(II)I"⟩
abbrev cX3_order : ByteArray := prog_1_method_18_code
def yX3_order : MethodName := ⟨RX3, "order", "(III)I"⟩
abbrev cX3_like : ByteArray := prog_1_method_19_code
def yX3_like : MethodName := ⟨RX3, "like", "(II)Z"⟩
abbrev cX3_same : ByteArray := prog_1_method_20_code
def yX3_same : MethodName := ⟨RX3, "same", "(III)Z"⟩
abbrev cX3_side : ByteArray := prog_1_method_21_code
def yX3_side : MethodName := ⟨RX3, "side", "(II)I"⟩
abbrev cX3_eighth : ByteArray := prog_1_method_22_code
def yX3_eighth : MethodName := ⟨RX3, "eighth", "(I)I"⟩
abbrev cX3_rule : ByteArray := prog_1_method_23_code
def yX3_rule : MethodName := ⟨RX3, "rule", "(II)I"⟩
abbrev cX3_find : ByteArray := prog_1_method_24_code
def yX3_find : MethodName := ⟨RX3, "find", "(IZ)I"⟩
abbrev cX3_addPlace : ByteArray := prog_1_method_25_code
def yX3_addPlace : MethodName := ⟨RX3, "addPlace", "(II)I"⟩
abbrev cX3_removePlace : ByteArray := prog_1_method_26_code
def yX3_removePlace : MethodName := ⟨RX3, "removePlace", "(I)I"⟩
abbrev cX3_movePlace : ByteArray := prog_1_method_27_code
def yX3_movePlace : MethodName := ⟨RX3, "movePlace", "(III)I"⟩
abbrev cX3_centre : ByteArray := prog_1_method_28_code
def yX3_centre : MethodName := ⟨RX3, "centre", "(II)I"⟩
abbrev cX3_turnPlaces : ByteArray := prog_1_method_29_code
def yX3_turnPlaces : MethodName := ⟨RX3, "turnPlaces", "()I"⟩
abbrev cX3_mirrorPlaces : ByteArray := prog_1_method_30_code
def yX3_mirrorPlaces : MethodName := ⟨RX3, "mirrorPlaces", "()I"⟩
abbrev cX3_places : ByteArray := prog_1_method_31_code
def yX3_places : MethodName := ⟨RX3, "places", "()I"⟩
abbrev cX3_place : ByteArray := prog_1_method_32_code
def yX3_place : MethodName := ⟨RX3, "place", "(IZ)I"⟩
abbrev cX3_centreAt : ByteArray := prog_1_method_33_code
def yX3_centreAt : MethodName := ⟨RX3, "centreAt", "(Z)I"⟩
abbrev cX3_bearing : ByteArray := prog_1_method_34_code
def yX3_bearing : MethodName := ⟨RX3, "bearing", "(III)I"⟩
abbrev cX3_bearingOrder : ByteArray := prog_1_method_35_code
def yX3_bearingOrder : MethodName := ⟨RX3, "bearingOrder", "(III)I"⟩
abbrev cX3_left : ByteArray := prog_1_method_36_code
def yX3_left : MethodName := ⟨RX3, "left", "(III)I"⟩
abbrev cX3_roundCount : ByteArray := prog_1_method_37_code
def yX3_roundCount : MethodName := ⟨RX3, "roundCount", "()I"⟩
abbrev cX3_roundText : ByteArray := prog_1_method_38_code
def yX3_roundText : MethodName := ⟨RX3, "roundText", "()Ljava/lang/String;"⟩
abbrev cX3_isStar : ByteArray := prog_1_method_39_code
def yX3_isStar : MethodName := ⟨RX3, "isStar", "()Z"⟩
abbrev cX3_starArea : ByteArray := prog_1_method_40_code
def yX3_starArea : MethodName := ⟨RX3, "starArea", "()I"⟩
abbrev cX3_hullCount : ByteArray := prog_1_method_41_code
def yX3_hullCount : MethodName := ⟨RX3, "hullCount", "()I"⟩
abbrev cX3_hullText : ByteArray := prog_1_method_42_code
def yX3_hullText : MethodName := ⟨RX3, "hullText", "()Ljava/lang/String;"⟩
abbrev cX3_hullArea : ByteArray := prog_1_method_43_code
def yX3_hullArea : MethodName := ⟨RX3, "hullArea", "()I"⟩
abbrev cX3_rounds : ByteArray := prog_1_method_44_code
def yX3_rounds : MethodName := ⟨RX3, "rounds", "()I"⟩
abbrev cX3_textOf : ByteArray := prog_1_method_45_code
def yX3_textOf : MethodName := ⟨RX3, "textOf", "([II)Ljava/lang/String;"⟩
abbrev cX3_house : ByteArray := prog_1_method_46_code
def yX3_house : MethodName := ⟨RX3, "house", "(I)I"⟩
abbrev cX3_knock : ByteArray := prog_1_method_47_code
def yX3_knock : MethodName := ⟨RX3, "knock", "()I"⟩
abbrev cX3_isSound : ByteArray := prog_1_method_48_code
def yX3_isSound : MethodName := ⟨RX3, "isSound", "()Z"⟩
abbrev cX3_areAnglesSound : ByteArray := prog_1_method_49_code
def yX3_areAnglesSound : MethodName := ⟨RX3, "areAnglesSound", "()Z"⟩
abbrev cX3_isPairSound : ByteArray := prog_1_method_50_code
def yX3_isPairSound : MethodName := ⟨RX3, "isPairSound", "(II)Z"⟩
abbrev cX3_digest : ByteArray := prog_1_method_51_code
def yX3_digest : MethodName := ⟨RX3, "digest", "()J"⟩
abbrev cX3_withCell : ByteArray := prog_1_method_52_code
def yX3_withCell : MethodName := ⟨RX3, "withCell", "(JI)J"⟩
abbrev cX3_withField : ByteArray := prog_1_method_53_code
def yX3_withField : MethodName := ⟨RX3, "withField", "(J)J"⟩
abbrev cX3_withRow : ByteArray := prog_1_method_54_code
def yX3_withRow : MethodName := ⟨RX3, "withRow", "(J[II)J"⟩
abbrev cX3_with : ByteArray := prog_1_method_55_code
def yX3_with : MethodName := ⟨RX3, "with", "(JJ)J"⟩
abbrev cX3_checkCell : ByteArray := prog_1_method_56_code
def yX3_checkCell : MethodName := ⟨RX3, "checkCell", "(I)V"⟩
abbrev cX3_checkPlace : ByteArray := prog_1_method_57_code
def yX3_checkPlace : MethodName := ⟨RX3, "checkPlace", "(I)V"⟩
abbrev cX3_checkSpot : ByteArray := prog_1_method_58_code
def yX3_checkSpot : MethodName := ⟨RX3, "checkSpot", "(II)V"⟩
abbrev cX3_checkBetween : ByteArray := prog_1_method_59_code
def yX3_checkBetween : MethodName := ⟨RX3, "checkBetween", "(III)V"⟩
abbrev cX3_isCoordinate : ByteArray := prog_1_method_60_code
def yX3_isCoordinate : MethodName := ⟨RX3, "isCoordinate", "(I)Z"⟩
abbrev cX3_signOf : ByteArray := prog_1_method_61_code
def yX3_signOf : MethodName := ⟨RX3, "signOf", "(J)I"⟩
def RX4 : String := "RaywalkLaw$Out"
def TX4 : u_T := fun k => match k with
  | _ => ("RaywalkLaw$Out", "n", "J", false)
def tyX4 : Nat → FieldType := fun k => match k with
  | _ => .long
theorem nmX4 : ∀ a, a < 1 → ∀ b, b < 1 → a ≠ b → (TX4 a).2.1 ≠ (TX4 b).2.1 := by decide +kernel
theorem tyX4_ok : ∀ k, k < 1 → parseFieldDescriptor (TX4 k).2.2.1 = some (tyX4 k) := by decide +kernel
abbrev cX4_init : ByteArray := prog_6_method_1_code
def yX4_init : MethodName := ⟨RX4, "<init>", "()V"⟩
def RX5 : String := "RaywalkModel"
def TX5 : u_T := fun k => match k with
  | 0 => ("RaywalkModel", "thrown", "I", false)
  | 1 => ("RaywalkModel", "across", "[I", true)
  | 2 => ("RaywalkModel", "up", "[I", true)
  | 3 => ("RaywalkModel", "signs", "[I", true)
  | 4 => ("RaywalkModel", "size", "[J", true)
  | 5 => ("RaywalkModel", "x", "[I", true)
  | 6 => ("RaywalkModel", "y", "[I", true)
  | 7 => ("RaywalkModel", "many", "I", false)
  | 8 => ("RaywalkModel", "centreX", "I", false)
  | 9 => ("RaywalkModel", "centreY", "I", false)
  | _ => ("RaywalkModel", "house", "[I", true)
def tyX5 : Nat → FieldType := fun k => match k with
  | 0 => .int
  | 1 => .array .int
  | 2 => .array .int
  | 3 => .array .int
  | 4 => .array .long
  | 5 => .array .int
  | 6 => .array .int
  | 7 => .int
  | 8 => .int
  | 9 => .int
  | _ => .array .int
theorem nmX5 : ∀ a, a < 11 → ∀ b, b < 11 → a ≠ b → (TX5 a).2.1 ≠ (TX5 b).2.1 := by decide +kernel
theorem tyX5_ok : ∀ k, k < 11 → parseFieldDescriptor (TX5 k).2.2.1 = some (tyX5 k) := by decide +kernel
abbrev cX5_init : ByteArray := prog_7_method_1_code
def yX5_init : MethodName := ⟨RX5, "<init>", "()V"⟩
abbrev cX5_refuse : ByteArray := prog_7_method_3_code
def yX5_refuse : MethodName := ⟨RX5, "refuse", "(ZI)Z"⟩
abbrev cX5_start : ByteArray := prog_7_method_4_code
def yX5_start : MethodName := ⟨RX5, "start", "(ZI)Z"⟩
abbrev cX5_isIn : ByteArray := prog_7_method_5_code
def yX5_isIn : MethodName := ⟨RX5, "isIn", "(III)Z"⟩
abbrev cX5_isNoCell : ByteArray := prog_7_method_6_code
def yX5_isNoCell : MethodName := ⟨RX5, "isNoCell", "(I)Z"⟩
abbrev cX5_isNoAt : ByteArray := prog_7_method_7_code
def yX5_isNoAt : MethodName := ⟨RX5, "isNoAt", "(II)Z"⟩
abbrev cX5_isNoPlace : ByteArray := prog_7_method_8_code
def yX5_isNoPlace : MethodName := ⟨RX5, "isNoPlace", "(I)Z"⟩
abbrev cX5_one : ByteArray := prog_7_method_9_code
def yX5_one : MethodName := ⟨RX5, "one", "(Z)I"⟩
abbrev cX5_cross : ByteArray := prog_7_method_10_code
def yX5_cross : MethodName := ⟨RX5, "cross", "(IIII)I"⟩
abbrev cX5_dot : ByteArray := prog_7_method_11_code
def yX5_dot : MethodName := ⟨RX5, "dot", "(IIII)I"⟩
abbrev cX5_sign : ByteArray := prog_7_method_12_code
def yX5_sign : MethodName := ⟨RX5, "sign", "(II)I"⟩
abbrev cX5_orderOf : ByteArray := prog_7_method_13_code
def yX5_orderOf : MethodName := ⟨RX5, "orderOf", "(IIIIII)I"⟩
abbrev cX5_wayOrder : ByteArray := prog_7_method_14_code
def yX5_wayOrder : MethodName := ⟨RX5, "wayOrder", "(IIII)I"⟩
abbrev cX5_part : ByteArray := prog_7_method_15_code
def yX5_part : MethodName := ⟨RX5, "part", "(JJJ)J"⟩
abbrev cX5_arc : ByteArray := prog_7_method_16_code
def yX5_arc : MethodName := ⟨RX5, "arc", "(JJ)J"⟩
abbrev cX5_slant : ByteArray := prog_7_method_17_code
def yX5_slant : MethodName := ⟨RX5, "slant", "(II)J"⟩
abbrev cX5_lookOf : ByteArray := prog_7_method_18_code
def yX5_lookOf : MethodName := ⟨RX5, "lookOf", "(III)I"⟩
abbrev cX5_sizeOf : ByteArray := prog_7_method_19_code
def yX5_sizeOf : MethodName := ⟨RX5, "sizeOf", "(III)J"⟩
abbrev cX5_gradeOf : ByteArray := prog_7_method_20_code
def yX5_gradeOf : MethodName := ⟨RX5, "gradeOf", "(JII)I"⟩
abbrev cX5_look : ByteArray := prog_7_method_21_code
def yX5_look : MethodName := ⟨RX5, "look", "(I)I"⟩
abbrev cX5_upSignOf : ByteArray := prog_7_method_22_code
def yX5_upSignOf : MethodName := ⟨RX5, "upSignOf", "(I)I"⟩
abbrev cX5_isNull : ByteArray := prog_7_method_23_code
def yX5_isNull : MethodName := ⟨RX5, "isNull", "(I)Z"⟩
abbrev cX5_isZero : ByteArray := prog_7_method_24_code
def yX5_isZero : MethodName := ⟨RX5, "isZero", "(I)Z"⟩
abbrev cX5_orderAt : ByteArray := prog_7_method_25_code
def yX5_orderAt : MethodName := ⟨RX5, "orderAt", "(II)I"⟩
abbrev cX5_isLike : ByteArray := prog_7_method_26_code
def yX5_isLike : MethodName := ⟨RX5, "isLike", "(II)Z"⟩
abbrev cX5_sideAt : ByteArray := prog_7_method_27_code
def yX5_sideAt : MethodName := ⟨RX5, "sideAt", "(II)I"⟩
abbrev cX5_isNotAhead : ByteArray := prog_7_method_28_code
def yX5_isNotAhead : MethodName := ⟨RX5, "isNotAhead", "(III)I"⟩
abbrev cX5_eighthOf : ByteArray := prog_7_method_29_code
def yX5_eighthOf : MethodName := ⟨RX5, "eighthOf", "(I)I"⟩
abbrev cX5_upperOf : ByteArray := prog_7_method_30_code
def yX5_upperOf : MethodName := ⟨RX5, "upperOf", "(I)I"⟩
abbrev cX5_lowerOf : ByteArray := prog_7_method_31_code
def yX5_lowerOf : MethodName := ⟨RX5, "lowerOf", "(I)I"⟩
abbrev cX5_failed : ByteArray := prog_7_method_32_code
def yX5_failed : MethodName := ⟨RX5, "failed", "()I"⟩
abbrev cX5_move : ByteArray := prog_7_method_33_code
def yX5_move : MethodName := ⟨RX5, "move", "(IIIII)I"⟩
abbrev cX5_put : ByteArray := prog_7_method_34_code
def yX5_put : MethodName := ⟨RX5, "put", "(IIII)I"⟩
abbrev cX5_make : ByteArray := prog_7_method_35_code
def yX5_make : MethodName := ⟨RX5, "make", "(II)I"⟩
abbrev cX5_moveTo : ByteArray := prog_7_method_36_code
def yX5_moveTo : MethodName := ⟨RX5, "moveTo", "(IIIII)I"⟩
abbrev cX5_stretch : ByteArray := prog_7_method_37_code
def yX5_stretch : MethodName := ⟨RX5, "stretch", "(II)I"⟩
abbrev cX5_addSteps : ByteArray := prog_7_method_38_code
def yX5_addSteps : MethodName := ⟨RX5, "addSteps", "(III)I"⟩
abbrev cX5_takeStep : ByteArray := prog_7_method_39_code
def yX5_takeStep : MethodName := ⟨RX5, "takeStep", "(III)I"⟩
abbrev cX5_sortSteps : ByteArray := prog_7_method_40_code
def yX5_sortSteps : MethodName := ⟨RX5, "sortSteps", "(Z)I"⟩
abbrev cX5_across : ByteArray := prog_7_method_41_code
def yX5_across : MethodName := ⟨RX5, "across", "(I)I"⟩
abbrev cX5_up : ByteArray := prog_7_method_42_code
def yX5_up : MethodName := ⟨RX5, "up", "(I)I"⟩
abbrev cX5_signs : ByteArray := prog_7_method_43_code
def yX5_signs : MethodName := ⟨RX5, "signs", "(I)I"⟩
abbrev cX5_upper : ByteArray := prog_7_method_44_code
def yX5_upper : MethodName := ⟨RX5, "upper", "(I)I"⟩
abbrev cX5_lower : ByteArray := prog_7_method_45_code
def yX5_lower : MethodName := ⟨RX5, "lower", "(I)I"⟩
abbrev cX5_grade : ByteArray := prog_7_method_46_code
def yX5_grade : MethodName := ⟨RX5, "grade", "(II)I"⟩
abbrev cX5_startTwo : ByteArray := prog_7_method_47_code
def yX5_startTwo : MethodName := ⟨RX5, "startTwo", "(II)Z"⟩
abbrev cX5_order : ByteArray := prog_7_method_48_code
def yX5_order : MethodName := ⟨RX5, "order", "(III)I"⟩
abbrev cX5_like : ByteArray := prog_7_method_49_code
def yX5_like : MethodName := ⟨RX5, "like", "(II)Z"⟩
abbrev cX5_same : ByteArray := prog_7_method_50_code
def yX5_same : MethodName := ⟨RX5, "same", "(III)Z"⟩
abbrev cX5_side : ByteArray := prog_7_method_51_code
def yX5_side : MethodName := ⟨RX5, "side", "(II)I"⟩
abbrev cX5_eighth : ByteArray := prog_7_method_52_code
def yX5_eighth : MethodName := ⟨RX5, "eighth", "(I)I"⟩
abbrev cX5_rule : ByteArray := prog_7_method_53_code
def yX5_rule : MethodName := ⟨RX5, "rule", "(II)I"⟩
abbrev cX5_found : ByteArray := prog_7_method_54_code
def yX5_found : MethodName := ⟨RX5, "found", "(IZ)I"⟩
abbrev cX5_find : ByteArray := prog_7_method_55_code
def yX5_find : MethodName := ⟨RX5, "find", "(IZ)I"⟩
abbrev cX5_at : ByteArray := prog_7_method_56_code
def yX5_at : MethodName := ⟨RX5, "at", "(II)I"⟩
abbrev cX5_addPlace : ByteArray := prog_7_method_57_code
def yX5_addPlace : MethodName := ⟨RX5, "addPlace", "(II)I"⟩
abbrev cX5_removePlace : ByteArray := prog_7_method_58_code
def yX5_removePlace : MethodName := ⟨RX5, "removePlace", "(I)I"⟩
abbrev cX5_movePlace : ByteArray := prog_7_method_59_code
def yX5_movePlace : MethodName := ⟨RX5, "movePlace", "(III)I"⟩
abbrev cX5_centre : ByteArray := prog_7_method_60_code
def yX5_centre : MethodName := ⟨RX5, "centre", "(II)I"⟩
abbrev cX5_turnPlaces : ByteArray := prog_7_method_61_code
def yX5_turnPlaces : MethodName := ⟨RX5, "turnPlaces", "()I"⟩
abbrev cX5_mirrorPlaces : ByteArray := prog_7_method_62_code
def yX5_mirrorPlaces : MethodName := ⟨RX5, "mirrorPlaces", "()I"⟩
abbrev cX5_places : ByteArray := prog_7_method_63_code
def yX5_places : MethodName := ⟨RX5, "places", "()I"⟩
abbrev cX5_place : ByteArray := prog_7_method_64_code
def yX5_place : MethodName := ⟨RX5, "place", "(IZ)I"⟩
abbrev cX5_centreAt : ByteArray := prog_7_method_65_code
def yX5_centreAt : MethodName := ⟨RX5, "centreAt", "(Z)I"⟩
abbrev cX5_bearing : ByteArray := prog_7_method_66_code
def yX5_bearing : MethodName := ⟨RX5, "bearing", "(III)I"⟩
abbrev cX5_bearingOrder : ByteArray := prog_7_method_67_code
def yX5_bearingOrder : MethodName := ⟨RX5, "bearingOrder", "(III)I"⟩
abbrev cX5_left : ByteArray := prog_7_method_68_code
def yX5_left : MethodName := ⟨RX5, "left", "(III)I"⟩
abbrev cX5_isOut : ByteArray := prog_7_method_69_code
def yX5_isOut : MethodName := ⟨RX5, "isOut", "(I)Z"⟩
abbrev cX5_outs : ByteArray := prog_7_method_70_code
def yX5_outs : MethodName := ⟨RX5, "outs", "()I"⟩
abbrev cX5_outOrder : ByteArray := prog_7_method_71_code
def yX5_outOrder : MethodName := ⟨RX5, "outOrder", "(II)I"⟩
abbrev cX5_outCross : ByteArray := prog_7_method_72_code
def yX5_outCross : MethodName := ⟨RX5, "outCross", "(II)I"⟩
abbrev cX5_far : ByteArray := prog_7_method_73_code
def yX5_far : MethodName := ⟨RX5, "far", "(I)I"⟩
abbrev cX5_round : ByteArray := prog_7_method_74_code
def yX5_round : MethodName := ⟨RX5, "round", "()[I"⟩
abbrev cX5_text : ByteArray := prog_7_method_75_code
def yX5_text : MethodName := ⟨RX5, "text", "([I)Ljava/lang/String;"⟩
abbrev cX5_roundCount : ByteArray := prog_7_method_76_code
def yX5_roundCount : MethodName := ⟨RX5, "roundCount", "()I"⟩
abbrev cX5_roundText : ByteArray := prog_7_method_77_code
def yX5_roundText : MethodName := ⟨RX5, "roundText", "()Ljava/lang/String;"⟩
abbrev cX5_isStarred : ByteArray := prog_7_method_78_code
def yX5_isStarred : MethodName := ⟨RX5, "isStarred", "([I)Z"⟩
abbrev cX5_isStar : ByteArray := prog_7_method_79_code
def yX5_isStar : MethodName := ⟨RX5, "isStar", "()Z"⟩
abbrev cX5_swept : ByteArray := prog_7_method_80_code
def yX5_swept : MethodName := ⟨RX5, "swept", "([I)I"⟩
abbrev cX5_starArea : ByteArray := prog_7_method_81_code
def yX5_starArea : MethodName := ⟨RX5, "starArea", "()I"⟩
abbrev cX5_turn : ByteArray := prog_7_method_82_code
def yX5_turn : MethodName := ⟨RX5, "turn", "(III)I"⟩
abbrev cX5_isRim : ByteArray := prog_7_method_83_code
def yX5_isRim : MethodName := ⟨RX5, "isRim", "(II)Z"⟩
abbrev cX5_isCorner : ByteArray := prog_7_method_84_code
def yX5_isCorner : MethodName := ⟨RX5, "isCorner", "(I)Z"⟩
abbrev cX5_corners : ByteArray := prog_7_method_85_code
def yX5_corners : MethodName := ⟨RX5, "corners", "()[I"⟩
abbrev cX5_hullCount : ByteArray := prog_7_method_86_code
def yX5_hullCount : MethodName := ⟨RX5, "hullCount", "()I"⟩
abbrev cX5_hullText : ByteArray := prog_7_method_87_code
def yX5_hullText : MethodName := ⟨RX5, "hullText", "()Ljava/lang/String;"⟩
abbrev cX5_area : ByteArray := prog_7_method_88_code
def yX5_area : MethodName := ⟨RX5, "area", "([I)I"⟩
abbrev cX5_hullArea : ByteArray := prog_7_method_89_code
def yX5_hullArea : MethodName := ⟨RX5, "hullArea", "()I"⟩
abbrev cX5_roundsTold : ByteArray := prog_7_method_90_code
def yX5_roundsTold : MethodName := ⟨RX5, "roundsTold", "()I"⟩
abbrev cX5_rounds : ByteArray := prog_7_method_91_code
def yX5_rounds : MethodName := ⟨RX5, "rounds", "()I"⟩
abbrev cX5_house : ByteArray := prog_7_method_92_code
def yX5_house : MethodName := ⟨RX5, "house", "(I)I"⟩
abbrev cX5_knock : ByteArray := prog_7_method_93_code
def yX5_knock : MethodName := ⟨RX5, "knock", "()I"⟩
abbrev cX5_isSound : ByteArray := prog_7_method_94_code
def yX5_isSound : MethodName := ⟨RX5, "isSound", "()Z"⟩
abbrev cX5_add : ByteArray := prog_7_method_95_code
def yX5_add : MethodName := ⟨RX5, "add", "(JJ)J"⟩
abbrev cX5_addCells : ByteArray := prog_7_method_96_code
def yX5_addCells : MethodName := ⟨RX5, "addCells", "(J)J"⟩
abbrev cX5_digest : ByteArray := prog_7_method_97_code
def yX5_digest : MethodName := ⟨RX5, "digest", "()J"⟩
def RJ5 : String := "java/lang/AbstractStringBuilder"
def TJ5 : u_T := fun k => match k with
  | _ => ("", "", "", false)
def tyJ5 : Nat → FieldType := fun k => match k with
  | _ => .int
theorem nmJ5 : ∀ a, a < 0 → ∀ b, b < 0 → a ≠ b → (TJ5 a).2.1 ≠ (TJ5 b).2.1 := by decide +kernel
theorem tyJ5_ok : ∀ k, k < 0 → parseFieldDescriptor (TJ5 k).2.2.1 = some (tyJ5 k) := by decide +kernel
abbrev cJ5_init_d00df : ByteArray := prog_8_method_2_code
def yJ5_init_d00df : MethodName := ⟨RJ5, "<init>", "(I)V"⟩
abbrev cJ5_length_8abf5 : ByteArray := prog_8_method_6_code
def yJ5_length_8abf5 : MethodName := ⟨RJ5, "length", "()I"⟩
abbrev cJ5_ensureCapacityInternal_d00df : ByteArray := prog_8_method_9_code
def yJ5_ensureCapacityInternal_d00df : MethodName := ⟨RJ5, "ensureCapacityInternal", "(I)V"⟩
abbrev cJ5_newCapacity_0f7a4 : ByteArray := prog_8_method_10_code
def yJ5_newCapacity_0f7a4 : MethodName := ⟨RJ5, "newCapacity", "(I)I"⟩
abbrev cJ5_inflate_da8c8 : ByteArray := prog_8_method_11_code
def yJ5_inflate_da8c8 : MethodName := ⟨RJ5, "inflate", "()V"⟩
abbrev cJ5_append_cf1ce : ByteArray := prog_8_method_22_code
def yJ5_append_cf1ce : MethodName := ⟨RJ5, "append", "(Ljava/lang/String;)Ljava/lang/AbstractStringBuilder;"⟩
abbrev cJ5_appendNull_278bc : ByteArray := prog_8_method_26_code
def yJ5_appendNull_278bc : MethodName := ⟨RJ5, "appendNull", "()Ljava/lang/AbstractStringBuilder;"⟩
abbrev cJ5_append_3fe6f : ByteArray := prog_8_method_31_code
def yJ5_append_3fe6f : MethodName := ⟨RJ5, "append", "(C)Ljava/lang/AbstractStringBuilder;"⟩
abbrev cJ5_append_c97b9 : ByteArray := prog_8_method_32_code
def yJ5_append_c97b9 : MethodName := ⟨RJ5, "append", "(I)Ljava/lang/AbstractStringBuilder;"⟩
abbrev cJ5_getValue_6d5f1 : ByteArray := prog_8_method_64_code
def yJ5_getValue_6d5f1 : MethodName := ⟨RJ5, "getValue", "()[B"⟩
abbrev cJ5_isLatin1_aae02 : ByteArray := prog_8_method_68_code
def yJ5_isLatin1_aae02 : MethodName := ⟨RJ5, "isLatin1", "()Z"⟩
abbrev cJ5_inflateIfNeededFor_a7421 : ByteArray := prog_8_method_71_code
def yJ5_inflateIfNeededFor_a7421 : MethodName := ⟨RJ5, "inflateIfNeededFor", "(Ljava/lang/String;)V"⟩
abbrev cJ5_putStringAt_47b60 : ByteArray := prog_8_method_73_code
def yJ5_putStringAt_47b60 : MethodName := ⟨RJ5, "putStringAt", "(ILjava/lang/String;)V"⟩
def RJx8e188 : String := "java/lang/Cloneable"
def TJx8e188 : u_T := fun k => match k with
  | _ => ("", "", "", false)
def tyJx8e188 : Nat → FieldType := fun k => match k with
  | _ => .int
theorem nmJx8e188 : ∀ a, a < 0 → ∀ b, b < 0 → a ≠ b → (TJx8e188 a).2.1 ≠ (TJx8e188 b).2.1 := by decide +kernel
theorem tyJx8e188_ok : ∀ k, k < 0 → parseFieldDescriptor (TJx8e188 k).2.2.1 = some (tyJx8e188 k) := by decide +kernel
def RJ6 : String := "java/lang/Integer"
def TJ6 : u_T := fun k => match k with
  | _ => ("", "", "", false)
def tyJ6 : Nat → FieldType := fun k => match k with
  | _ => .int
theorem nmJ6 : ∀ a, a < 0 → ∀ b, b < 0 → a ≠ b → (TJ6 a).2.1 ≠ (TJ6 b).2.1 := by decide +kernel
theorem tyJ6_ok : ∀ k, k < 0 → parseFieldDescriptor (TJ6 k).2.2.1 = some (tyJ6 k) := by decide +kernel
abbrev cJ6_getChars_ba4f3 : ByteArray := prog_13_method_12_code
def yJ6_getChars_ba4f3 : MethodName := ⟨RJ6, "getChars", "(II[B)I"⟩
abbrev cJ6_stringSize_0f7a4 : ByteArray := prog_13_method_13_code
def yJ6_stringSize_0f7a4 : MethodName := ⟨RJ6, "stringSize", "(I)I"⟩
abbrev cJ6_bitCount_0f7a4 : ByteArray := prog_13_method_49_code
def yJ6_bitCount_0f7a4 : MethodName := ⟨RJ6, "bitCount", "(I)I"⟩
abbrev cJ6_signum_0f7a4 : ByteArray := prog_13_method_56_code
def yJ6_signum_0f7a4 : MethodName := ⟨RJ6, "signum", "(I)I"⟩
def RJ9 : String := "java/lang/Math"
def TJ9 : u_T := fun k => match k with
  | _ => ("", "", "", false)
def tyJ9 : Nat → FieldType := fun k => match k with
  | _ => .int
theorem nmJ9 : ∀ a, a < 0 → ∀ b, b < 0 → a ≠ b → (TJ9 a).2.1 ≠ (TJ9 b).2.1 := by decide +kernel
theorem tyJ9_ok : ∀ k, k < 0 → parseFieldDescriptor (TJ9 k).2.2.1 = some (tyJ9 k) := by decide +kernel
abbrev cJ9_abs_0f7a4 : ByteArray := prog_14_method_59_code
def yJ9_abs_0f7a4 : MethodName := ⟨RJ9, "abs", "(I)I"⟩
abbrev cJ9_max_7cf53 : ByteArray := prog_14_method_65_code
def yJ9_max_7cf53 : MethodName := ⟨RJ9, "max", "(II)I"⟩
abbrev cJ9_min_7cf53 : ByteArray := prog_14_method_69_code
def yJ9_min_7cf53 : MethodName := ⟨RJ9, "min", "(II)I"⟩
def RJ0 : String := "java/lang/String"
def TJ0 : u_T := fun k => match k with
  | 0 => ("java/lang/String", "value", "[B", true)
  | 1 => ("java/lang/String", "coder", "B", true)
  | 2 => ("java/lang/String", "hash", "I", false)
  | _ => ("java/lang/String", "hashIsZero", "Z", false)
def tyJ0 : Nat → FieldType := fun k => match k with
  | 0 => .array .byte
  | 1 => .byte
  | 2 => .int
  | _ => .boolean
theorem nmJ0 : ∀ a, a < 4 → ∀ b, b < 4 → a ≠ b → (TJ0 a).2.1 ≠ (TJ0 b).2.1 := by decide +kernel
theorem tyJ0_ok : ∀ k, k < 4 → parseFieldDescriptor (TJ0 k).2.2.1 = some (tyJ0 k) := by decide +kernel
abbrev cJ0_init_81219 : ByteArray := prog_16_method_53_code
def yJ0_init_81219 : MethodName := ⟨RJ0, "<init>", "(Ljava/lang/StringBuilder;)V"⟩
abbrev cJ0_length_8abf5 : ByteArray := prog_16_method_54_code
def yJ0_length_8abf5 : MethodName := ⟨RJ0, "length", "()I"⟩
abbrev cJ0_getBytes_840e7 : ByteArray := prog_16_method_147_code
def yJ0_getBytes_840e7 : MethodName := ⟨RJ0, "getBytes", "([BIB)V"⟩
abbrev cJ0_init_db425 : ByteArray := prog_16_method_150_code
def yJ0_init_db425 : MethodName := ⟨RJ0, "<init>", "(Ljava/lang/AbstractStringBuilder;Ljava/lang/Void;)V"⟩
abbrev cJ0_coder_7d493 : ByteArray := prog_16_method_152_code
def yJ0_coder_7d493 : MethodName := ⟨RJ0, "coder", "()B"⟩
abbrev cJ0_checkIndex_df160 : ByteArray := prog_16_method_155_code
def yJ0_checkIndex_df160 : MethodName := ⟨RJ0, "checkIndex", "(II)V"⟩
abbrev cJ0_checkBoundsOffCount_cabcc : ByteArray := prog_16_method_157_code
def yJ0_checkBoundsOffCount_cabcc : MethodName := ⟨RJ0, "checkBoundsOffCount", "(III)I"⟩
abbrev cJ0_checkBoundsBeginEnd_23922 : ByteArray := prog_16_method_158_code
def yJ0_checkBoundsBeginEnd_23922 : MethodName := ⟨RJ0, "checkBoundsBeginEnd", "(III)V"⟩
def RJ4 : String := "java/lang/StringBuilder"
def TJ4 : u_T := fun k => match k with
  | 0 => ("java/lang/AbstractStringBuilder", "value", "[B", false)
  | 1 => ("java/lang/AbstractStringBuilder", "coder", "B", false)
  | 2 => ("java/lang/AbstractStringBuilder", "maybeLatin1", "Z", false)
  | _ => ("java/lang/AbstractStringBuilder", "count", "I", false)
def tyJ4 : Nat → FieldType := fun k => match k with
  | 0 => .array .byte
  | 1 => .byte
  | 2 => .boolean
  | _ => .int
theorem nmJ4 : ∀ a, a < 4 → ∀ b, b < 4 → a ≠ b → (TJ4 a).2.1 ≠ (TJ4 b).2.1 := by decide +kernel
theorem tyJ4_ok : ∀ k, k < 4 → parseFieldDescriptor (TJ4 k).2.2.1 = some (tyJ4 k) := by decide +kernel
abbrev cJ4_init_da8c8 : ByteArray := prog_17_method_1_code
def yJ4_init_da8c8 : MethodName := ⟨RJ4, "<init>", "()V"⟩
abbrev cJ4_append_15ec4 : ByteArray := prog_17_method_7_code
def yJ4_append_15ec4 : MethodName := ⟨RJ4, "append", "(Ljava/lang/String;)Ljava/lang/StringBuilder;"⟩
abbrev cJ4_append_cf468 : ByteArray := prog_17_method_14_code
def yJ4_append_cf468 : MethodName := ⟨RJ4, "append", "(C)Ljava/lang/StringBuilder;"⟩
abbrev cJ4_append_bf812 : ByteArray := prog_17_method_15_code
def yJ4_append_bf812 : MethodName := ⟨RJ4, "append", "(I)Ljava/lang/StringBuilder;"⟩
abbrev cJ4_toString_0e30d : ByteArray := prog_17_method_42_code
def yJ4_toString_0e30d : MethodName := ⟨RJ4, "toString", "()Ljava/lang/String;"⟩
abbrev cJ4_length_8abf5 : ByteArray := prog_17_method_93_code
def yJ4_length_8abf5 : MethodName := ⟨RJ4, "length", "()I"⟩
def RJ1 : String := "java/lang/StringLatin1"
def TJ1 : u_T := fun k => match k with
  | _ => ("", "", "", false)
def tyJ1 : Nat → FieldType := fun k => match k with
  | _ => .int
theorem nmJ1 : ∀ a, a < 0 → ∀ b, b < 0 → a ≠ b → (TJ1 a).2.1 ≠ (TJ1 b).2.1 := by decide +kernel
theorem tyJ1_ok : ∀ k, k < 0 → parseFieldDescriptor (TJ1 k).2.2.1 = some (tyJ1 k) := by decide +kernel
abbrev cJ1_canEncode_fc78d : ByteArray := prog_18_method_3_code
def yJ1_canEncode_fc78d : MethodName := ⟨RJ1, "canEncode", "(C)Z"⟩
abbrev cJ1_inflate_0e8fd : ByteArray := prog_18_method_50_code
def yJ1_inflate_0e8fd : MethodName := ⟨RJ1, "inflate", "([BI[BII)V"⟩
def RJ2 : String := "java/lang/StringUTF16"
def TJ2 : u_T := fun k => match k with
  | _ => ("", "", "", false)
def tyJ2 : Nat → FieldType := fun k => match k with
  | _ => .int
theorem nmJ2 : ∀ a, a < 0 → ∀ b, b < 0 → a ≠ b → (TJ2 a).2.1 ≠ (TJ2 b).2.1 := by decide +kernel
theorem tyJ2_ok : ∀ k, k < 0 → parseFieldDescriptor (TJ2 k).2.2.1 = some (tyJ2 k) := by decide +kernel
abbrev cJ2_newBytesFor_77867 : ByteArray := prog_19_method_2_code
def yJ2_newBytesFor_77867 : MethodName := ⟨RJ2, "newBytesFor", "(I)[B"⟩
abbrev cJ2_newBytesLength_0f7a4 : ByteArray := prog_19_method_3_code
def yJ2_newBytesLength_0f7a4 : MethodName := ⟨RJ2, "newBytesLength", "(I)I"⟩
abbrev cJ2_putChar_b72d1 : ByteArray := prog_19_method_4_code
def yJ2_putChar_b72d1 : MethodName := ⟨RJ2, "putChar", "([BII)V"⟩
abbrev cJ2_getChar_3b067 : ByteArray := prog_19_method_5_code
def yJ2_getChar_3b067 : MethodName := ⟨RJ2, "getChar", "([BI)C"⟩
abbrev cJ2_length_9d52b : ByteArray := prog_19_method_6_code
def yJ2_length_9d52b : MethodName := ⟨RJ2, "length", "([B)I"⟩
abbrev cJ2_coderFromArrayLen_85cad : ByteArray := prog_19_method_15_code
def yJ2_coderFromArrayLen_85cad : MethodName := ⟨RJ2, "coderFromArrayLen", "([BI)B"⟩
abbrev cJ2_compress_39247 : ByteArray := prog_19_method_17_code
def yJ2_compress_39247 : MethodName := ⟨RJ2, "compress", "([BII)[B"⟩
abbrev cJ2_compress_5af95 : ByteArray := prog_19_method_22_code
def yJ2_compress_5af95 : MethodName := ⟨RJ2, "compress", "([BI[BII)I"⟩
abbrev cJ2_putCharSB_b72d1 : ByteArray := prog_19_method_71_code
def yJ2_putCharSB_b72d1 : MethodName := ⟨RJ2, "putCharSB", "([BII)V"⟩
abbrev cJ2_getChars_46870 : ByteArray := prog_19_method_77_code
def yJ2_getChars_46870 : MethodName := ⟨RJ2, "getChars", "(III[B)I"⟩
abbrev cJ2_putCharsAt_cd4e5 : ByteArray := prog_19_method_81_code
def yJ2_putCharsAt_cd4e5 : MethodName := ⟨RJ2, "putCharsAt", "([BICCCC)I"⟩
abbrev cJ2_inflate_0e8fd : ByteArray := prog_19_method_86_code
def yJ2_inflate_0e8fd : MethodName := ⟨RJ2, "inflate", "([BI[BII)V"⟩
abbrev cJ2_getChars_ba4f3 : ByteArray := prog_19_method_89_code
def yJ2_getChars_ba4f3 : MethodName := ⟨RJ2, "getChars", "(II[B)I"⟩
abbrev cJ2_checkIndex_2214a : ByteArray := prog_19_method_91_code
def yJ2_checkIndex_2214a : MethodName := ⟨RJ2, "checkIndex", "(I[B)V"⟩
abbrev cJ2_checkBoundsBeginEnd_d044e : ByteArray := prog_19_method_93_code
def yJ2_checkBoundsBeginEnd_d044e : MethodName := ⟨RJ2, "checkBoundsBeginEnd", "(II[B)V"⟩
abbrev cJ2_checkBoundsOffCount_d044e : ByteArray := prog_19_method_94_code
def yJ2_checkBoundsOffCount_d044e : MethodName := ⟨RJ2, "checkBoundsOffCount", "(II[B)V"⟩
def RJ10 : String := "java/lang/System"
def TJ10 : u_T := fun k => match k with
  | _ => ("", "", "", false)
def tyJ10 : Nat → FieldType := fun k => match k with
  | _ => .int
theorem nmJ10 : ∀ a, a < 0 → ∀ b, b < 0 → a ≠ b → (TJ10 a).2.1 ≠ (TJ10 b).2.1 := by decide +kernel
theorem tyJ10_ok : ∀ k, k < 0 → parseFieldDescriptor (TJ10 k).2.2.1 = some (tyJ10 k) := by decide +kernel
def RJ7 : String := "java/util/Arrays"
def TJ7 : u_T := fun k => match k with
  | _ => ("", "", "", false)
def tyJ7 : Nat → FieldType := fun k => match k with
  | _ => .int
theorem nmJ7 : ∀ a, a < 0 → ∀ b, b < 0 → a ≠ b → (TJ7 a).2.1 ≠ (TJ7 b).2.1 := by decide +kernel
theorem tyJ7_ok : ∀ k, k < 0 → parseFieldDescriptor (TJ7 k).2.2.1 = some (tyJ7 k) := by decide +kernel
abbrev cJ7_copyOf_9075b : ByteArray := prog_22_method_121_code
def yJ7_copyOf_9075b : MethodName := ⟨RJ7, "copyOf", "([BI)[B"⟩
abbrev cJ7_checkLength_df160 : ByteArray := prog_22_method_131_code
def yJ7_checkLength_df160 : MethodName := ⟨RJ7, "checkLength", "(II)V"⟩
abbrev cJ7_copyOfRange_39247 : ByteArray := prog_22_method_132_code
def yJ7_copyOfRange_39247 : MethodName := ⟨RJ7, "copyOfRange", "([BII)[B"⟩
abbrev cJ7_copyOfRangeByte_39247 : ByteArray := prog_22_method_133_code
def yJ7_copyOfRangeByte_39247 : MethodName := ⟨RJ7, "copyOfRangeByte", "([BII)[B"⟩
def RJ8 : String := "jdk/internal/util/ArraysSupport"
def TJ8 : u_T := fun k => match k with
  | _ => ("", "", "", false)
def tyJ8 : Nat → FieldType := fun k => match k with
  | _ => .int
theorem nmJ8 : ∀ a, a < 0 → ∀ b, b < 0 → a ≠ b → (TJ8 a).2.1 ≠ (TJ8 b).2.1 := by decide +kernel
theorem tyJ8_ok : ∀ k, k < 0 → parseFieldDescriptor (TJ8 k).2.2.1 = some (tyJ8 k) := by decide +kernel
abbrev cJ8_newLength_cabcc : ByteArray := prog_23_method_27_code
def yJ8_newLength_cabcc : MethodName := ⟨RJ8, "newLength", "(III)I"⟩
abbrev cJ8_hugeLength_7cf53 : ByteArray := prog_23_method_28_code
def yJ8_hugeLength_7cf53 : MethodName := ⟨RJ8, "hugeLength", "(II)I"⟩
def RJ3 : String := "jdk/internal/util/Preconditions"
def TJ3 : u_T := fun k => match k with
  | _ => ("", "", "", false)
def tyJ3 : Nat → FieldType := fun k => match k with
  | _ => .int
theorem nmJ3 : ∀ a, a < 0 → ∀ b, b < 0 → a ≠ b → (TJ3 a).2.1 ≠ (TJ3 b).2.1 := by decide +kernel
theorem tyJ3_ok : ∀ k, k < 0 → parseFieldDescriptor (TJ3 k).2.2.1 = some (tyJ3 k) := by decide +kernel
abbrev cJ3_checkIndex_8e157 : ByteArray := prog_24_method_11_code
def yJ3_checkIndex_8e157 : MethodName := ⟨RJ3, "checkIndex", "(IILjava/util/function/BiFunction;)I"⟩
abbrev cJ3_checkFromToIndex_8c36e : ByteArray := prog_24_method_12_code
def yJ3_checkFromToIndex_8c36e : MethodName := ⟨RJ3, "checkFromToIndex", "(IIILjava/util/function/BiFunction;)I"⟩
abbrev cJ3_checkFromIndexSize_8c36e : ByteArray := prog_24_method_13_code
def yJ3_checkFromIndexSize_8c36e : MethodName := ⟨RJ3, "checkFromIndexSize", "(IIILjava/util/function/BiFunction;)I"⟩
def RL : String := "RaywalkLaw"
abbrev cL_put : ByteArray := method_2_code
def yL_put : MethodName := ⟨RL, "put", "(LRaywalk;IIIILRaywalkLaw$Out;)I"⟩
abbrev cL_make : ByteArray := method_3_code
def yL_make : MethodName := ⟨RL, "make", "(LRaywalk;IILRaywalkLaw$Out;)I"⟩
abbrev cL_stretch : ByteArray := method_4_code
def yL_stretch : MethodName := ⟨RL, "stretch", "(LRaywalk;IILRaywalkLaw$Out;)I"⟩
abbrev cL_addSteps : ByteArray := method_5_code
def yL_addSteps : MethodName := ⟨RL, "addSteps", "(LRaywalk;IIILRaywalkLaw$Out;)I"⟩
abbrev cL_takeStep : ByteArray := method_6_code
def yL_takeStep : MethodName := ⟨RL, "takeStep", "(LRaywalk;IIILRaywalkLaw$Out;)I"⟩
abbrev cL_across : ByteArray := method_7_code
def yL_across : MethodName := ⟨RL, "across", "(LRaywalk;ILRaywalkLaw$Out;)I"⟩
abbrev cL_up : ByteArray := method_8_code
def yL_up : MethodName := ⟨RL, "up", "(LRaywalk;ILRaywalkLaw$Out;)I"⟩
abbrev cL_signs : ByteArray := method_9_code
def yL_signs : MethodName := ⟨RL, "signs", "(LRaywalk;ILRaywalkLaw$Out;)I"⟩
abbrev cL_upper : ByteArray := method_10_code
def yL_upper : MethodName := ⟨RL, "upper", "(LRaywalk;ILRaywalkLaw$Out;)I"⟩
abbrev cL_lower : ByteArray := method_11_code
def yL_lower : MethodName := ⟨RL, "lower", "(LRaywalk;ILRaywalkLaw$Out;)I"⟩
abbrev cL_grade : ByteArray := method_12_code
def yL_grade : MethodName := ⟨RL, "grade", "(LRaywalk;IILRaywalkLaw$Out;)I"⟩
abbrev cL_order : ByteArray := method_13_code
def yL_order : MethodName := ⟨RL, "order", "(LRaywalk;IIILRaywalkLaw$Out;)I"⟩
abbrev cL_like : ByteArray := method_14_code
def yL_like : MethodName := ⟨RL, "like", "(LRaywalk;IILRaywalkLaw$Out;)I"⟩
abbrev cL_same : ByteArray := method_15_code
def yL_same : MethodName := ⟨RL, "same", "(LRaywalk;IIILRaywalkLaw$Out;)I"⟩
abbrev cL_side : ByteArray := method_16_code
def yL_side : MethodName := ⟨RL, "side", "(LRaywalk;IILRaywalkLaw$Out;)I"⟩
abbrev cL_eighth : ByteArray := method_17_code
def yL_eighth : MethodName := ⟨RL, "eighth", "(LRaywalk;ILRaywalkLaw$Out;)I"⟩
abbrev cL_rule : ByteArray := method_18_code
def yL_rule : MethodName := ⟨RL, "rule", "(LRaywalk;IILRaywalkLaw$Out;)I"⟩
abbrev cL_find : ByteArray := method_19_code
def yL_find : MethodName := ⟨RL, "find", "(LRaywalk;IZLRaywalkLaw$Out;)I"⟩
abbrev cL_addPlace : ByteArray := method_20_code
def yL_addPlace : MethodName := ⟨RL, "addPlace", "(LRaywalk;IILRaywalkLaw$Out;)I"⟩
abbrev cL_removePlace : ByteArray := method_21_code
def yL_removePlace : MethodName := ⟨RL, "removePlace", "(LRaywalk;ILRaywalkLaw$Out;)I"⟩
abbrev cL_movePlace : ByteArray := method_22_code
def yL_movePlace : MethodName := ⟨RL, "movePlace", "(LRaywalk;IIILRaywalkLaw$Out;)I"⟩
abbrev cL_centre : ByteArray := method_23_code
def yL_centre : MethodName := ⟨RL, "centre", "(LRaywalk;IILRaywalkLaw$Out;)I"⟩
abbrev cL_place : ByteArray := method_24_code
def yL_place : MethodName := ⟨RL, "place", "(LRaywalk;IZLRaywalkLaw$Out;)I"⟩
abbrev cL_bearing : ByteArray := method_25_code
def yL_bearing : MethodName := ⟨RL, "bearing", "(LRaywalk;IIILRaywalkLaw$Out;)I"⟩
abbrev cL_bearingOrder : ByteArray := method_26_code
def yL_bearingOrder : MethodName := ⟨RL, "bearingOrder", "(LRaywalk;IIILRaywalkLaw$Out;)I"⟩
abbrev cL_left : ByteArray := method_27_code
def yL_left : MethodName := ⟨RL, "left", "(LRaywalk;IIILRaywalkLaw$Out;)I"⟩
abbrev cL_house : ByteArray := method_28_code
def yL_house : MethodName := ⟨RL, "house", "(LRaywalk;ILRaywalkLaw$Out;)I"⟩
abbrev cL_law : ByteArray := code
def yL_law : MethodName := ⟨RL, "law", "([I)Z"⟩
abbrev vwCl : List vw_C := [(RJ0, TJ0, 4), (RJ4, TJ4, 4), (RX1, TX1, 9), (RX2, TX2, 4), (RX3, TX3, 10), (RX4, TX4, 1), (RX5, TX5, 11)]
end
section
/-! THE MODEL OF THE HEAP: objects have numbers (places); a number's rest by 16 is its kind: 0 to 6 the classes of vwCl, 8 int[], 9 long[], 10 byte[], 11 Step[]; 12 to 14 things outside the world that a static holds, 15 an exception. A renaming r tells the addresses. -/
section AJ
/-- private methods of AbstractStringBuilder, chosen on a StringBuilder: said by other words of the tables -/
def aj_PM : List MethodName := [yJ5_ensureCapacityInternal_d00df, yJ5_newCapacity_0f7a4, yJ5_putStringAt_47b60, yJ5_inflateIfNeededFor_a7421]
def aj_XW : List Cond := aj_PM.map (fun y => Cond.selects RJ4 y y)
def aj_TB : List Cond := (lw_tbl ++ aj_XW).filter goodWord
def aj_R (k : Nat) : String := match k with | 0 => RJ0 | 1 => RJ4 | 2 => RX1 | 3 => RX2 | 4 => RX3 | 5 => RX4 | _ => RX5
def aj_T (k : Nat) : u_T := match k with | 0 => TJ0 | 1 => TJ4 | 2 => TX1 | 3 => TX2 | 4 => TX3 | 5 => TX4 | _ => TX5
def aj_n (k : Nat) : Nat := match k with | 0 => 4 | 1 => 4 | 2 => 9 | 3 => 4 | 4 => 10 | 5 => 1 | _ => 11
def aj_ty (k : Nat) : Nat → FieldType := match k with | 0 => tyJ0 | 1 => tyJ4 | 2 => tyX1 | 3 => tyX2 | 4 => tyX3 | 5 => tyX4 | _ => tyX5
theorem aj_cl : ∀ k, k < 7 → vwCl[k]? = some (aj_R k, aj_T k, aj_n k) := by
  intro k h
  match k, h with
  | 0, _ => rfl
  | 1, _ => rfl
  | 2, _ => rfl
  | 3, _ => rfl
  | 4, _ => rfl
  | 5, _ => rfl
  | 6, _ => rfl
set_option maxRecDepth 100000 in
theorem aj_cl_in : ∀ k, k < 7 → ∀ w ∈ u_ws (aj_R k) (aj_T k) (aj_n k), w ∈ aj_TB := by decide +kernel
theorem aj_nm : ∀ k, k < 7 → ∀ a, a < aj_n k → ∀ b, b < aj_n k → a ≠ b → (aj_T k a).2.1 ≠ (aj_T k b).2.1 := by decide +kernel
theorem aj_tyok : ∀ k, k < 7 → ∀ j, j < aj_n k → parseFieldDescriptor (aj_T k j).2.2.1 = some (aj_ty k j) := by decide +kernel
-- values with numbers for objects, and with addresses
def aj_v (r : Nat → Nat) (v : Value) : Value := match v with
  | .ref a => .ref (r a)
  | w => w
theorem aj_v_cat (r : Nat → Nat) (v : Value) : (aj_v r v).category = v.category := by cases v <;> rfl
theorem aj_st_cat (r : Nat → Nat) (st : List Value) : ((st.map (aj_v r)).map fun v => v.category) = st.map fun v => v.category := by
  rw [List.map_map]; exact List.map_congr_left (fun v _ => aj_v_cat r v)
def aj_fv (r : Nat → Nat) (I : Nat → Nat → Int32) (J : Nat → Nat → Int64) (V : Nat → Nat → Option Nat) (i k : Nat) (ty : FieldType) : Value := match ty with
  | .long => .long (J i k)
  | .object _ => va_rf ((V i k).map r)
  | .array _ => va_rf ((V i k).map r)
  | _ => .int (I i k)
def aj_el (cs : Nat → ClassId) (r : Nat → Nat) (I : Nat → Nat → Int32) (J : Nat → Nat → Int64) (V : Nat → Nat → Option Nat) (N : Nat → Nat) (i : Nat) : va_E :=
  if i % 16 < 7 then .inr (i % 16, (List.range (aj_n (i % 16))).map (fun k => aj_fv r I J V i k (aj_ty (i % 16) k)))
  else if i % 16 = 9 then .inl (cs 1, (N i, .inr (.inl (J i))))
  else if i % 16 = 11 then .inl (cs 3, (N i, .inr (.inr (.inr (.inr (fun j => (V i j).map r))))))
  else if i % 16 = 10 then .inl (cs 2, (N i, .inl (I i)))
  else .inl (cs 0, (N i, .inl (I i)))
def aj_ws (cs : Nat → ClassId) (r : Nat → Nat) (I : Nat → Nat → Int32) (J : Nat → Nat → Int64) (V : Nat → Nat → Option Nat) (N : Nat → Nat) (L : List Nat) : va_W := L.map (fun i => (r i, aj_el cs r I J V N i))
def aj_tys (cs : Nat → ClassId) : List (ClassId × FieldType) := [(cs 0, .int), (cs 1, .long), (cs 2, .byte), (cs 3, .object "Raywalk$Step")]
-- updates
def aj_u {α : Type} (f : Nat → Nat → α) (i k : Nat) (v : α) : Nat → Nat → α := fun a b => if a = i ∧ b = k then v else f a b
def aj_ur {α : Type} (f : Nat → α) (i : Nat) (v : α) : Nat → α := fun a => if a = i then v else f a
theorem aj_u_s {α : Type} (f : Nat → Nat → α) (i k : Nat) (v : α) : aj_u f i k v i k = v := if_pos ⟨rfl, rfl⟩
theorem aj_u_n {α : Type} (f : Nat → Nat → α) {i k a b : Nat} (v : α) (h : ¬ (a = i ∧ b = k)) : aj_u f i k v a b = f a b := if_neg h
theorem aj_u_o {α : Type} (f : Nat → Nat → α) {i k a : Nat} (v : α) (h : a ≠ i) : aj_u f i k v a = f a := funext fun b => if_neg (fun q => h q.1)
theorem aj_ur_s {α : Type} (f : Nat → α) (i : Nat) (v : α) : aj_ur f i v i = v := if_pos rfl
theorem aj_ur_n {α : Type} (f : Nat → α) {i a : Nat} (v : α) (h : a ≠ i) : aj_ur f i v a = f a := if_neg h
-- locals: place by place
def aj_lvs (r : Nat → Nat) : Nat → List (Option Value) → List (Nat × Value)
  | _, [] => []
  | i, none :: l => aj_lvs r (i + 1) l
  | i, some v :: l => (i, aj_v r v) :: aj_lvs r (i + 1) l
theorem aj_lvs_mem (r : Nat → Nat) : ∀ (l : List (Option Value)) (i : Nat) (q : Nat × Value), q ∈ aj_lvs r i l ↔ ∃ (k : Nat) (v : Value), l[k]? = some (some v) ∧ q = (i + k, aj_v r v) := by
  intro l
  induction l with
  | nil => intro i q; simp [aj_lvs]
  | cons a l ih =>
    intro i q
    cases a with
    | none =>
      show q ∈ aj_lvs r (i + 1) l ↔ _
      rw [ih]
      constructor
      · rintro ⟨k, v, h1, h2⟩
        exact ⟨k + 1, v, by simpa using h1, by rw [h2]; congr 1; omega⟩
      · rintro ⟨k, v, h1, h2⟩
        cases k with
        | zero => simp at h1
        | succ k => exact ⟨k, v, by simpa using h1, by rw [h2]; congr 1; omega⟩
    | some w =>
      show q ∈ (i, aj_v r w) :: aj_lvs r (i + 1) l ↔ _
      rw [List.mem_cons, ih]
      constructor
      · rintro (h | ⟨k, v, h1, h2⟩)
        · exact ⟨0, w, rfl, by rw [h]; rfl⟩
        · exact ⟨k + 1, v, by simpa using h1, by rw [h2]; congr 1; omega⟩
      · rintro ⟨k, v, h1, h2⟩
        cases k with
        | zero =>
          have h3 : w = v := by simpa using h1
          subst h3
          exact Or.inl h2
        | succ k => exact Or.inr ⟨k, v, by simpa using h1, by rw [h2]; congr 1; omega⟩
theorem aj_lh_mono {ls : Array Slot} {nL : Nat} {l l' : List (Nat × Value)} (h : lv_has ls nL l) (hs : ∀ q ∈ l', q ∈ l) : lv_has ls nL l' := ⟨h.1, h.2.1, fun q hq => h.2.2 q (hs q hq)⟩
def aj_ini : List Value → List (Option Value)
  | [] => []
  | v :: l => if v.category = 2 then some v :: none :: aj_ini l else some v :: aj_ini l
theorem aj_lvs_none (r : Nat → Nat) : ∀ (n i : Nat), aj_lvs r i (List.replicate n none) = [] := by
  intro n
  induction n with
  | zero => intro i; rfl
  | succ n ih => intro i; show aj_lvs r (i + 1) (List.replicate n none) = []; exact ih (i + 1)
theorem aj_ini_args (r : Nat → Nat) (n : Nat) : ∀ (av : List Value) (i : Nat), aj_lvs r i (aj_ini av ++ List.replicate n none) = lv_args i (av.map (aj_v r)) := by
  intro av
  induction av with
  | nil => intro i; exact aj_lvs_none r n i
  | cons v l ih =>
    intro i
    have hc := aj_v_cat r v
    show aj_lvs r i ((if v.category = 2 then some v :: none :: aj_ini l else some v :: aj_ini l) ++ List.replicate n none) = (i, aj_v r v) :: lv_args (if (aj_v r v).category = 2 then i + 2 else i + 1) (l.map (aj_v r))
    rw [hc]
    by_cases h : v.category = 2
    · rw [if_pos h, if_pos h]
      show (i, aj_v r v) :: aj_lvs r (i + 1 + 1) (aj_ini l ++ List.replicate n none) = _
      rw [ih]
    · rw [if_neg h, if_neg h]
      show (i, aj_v r v) :: aj_lvs r (i + 1) (aj_ini l ++ List.replicate n none) = _
      rw [ih]
/-- no long just ahead of place i -/
def aj_nl (lv : List (Option Value)) (i : Nat) : Prop := ∀ (j : Nat) (v : Value), lv[j]? = some (some v) → j + 1 = i → v.category = 1
theorem aj_set1 {r : Nat → Nat} {ls : Array Slot} {nL i : Nat} {lv : List (Option Value)} {v : Value} (hn : aj_nl lv i) (h : lv_has ls nL ((i, aj_v r v) :: (aj_lvs r 0 lv).filter (fun q => !(q.1 == i) && !(q.1 + 1 == i && q.2.category == 2)))) : lv_has ls nL (aj_lvs r 0 (lv.set i (some v))) := by
  refine aj_lh_mono h (fun q hq => ?_)
  obtain ⟨k, w, h1, h2⟩ := (aj_lvs_mem r _ 0 q).mp hq
  by_cases hk : i = k
  · subst hk
    have hl : i < lv.length := by
      have := (List.getElem?_eq_some_iff.mp h1).1
      simpa using this
    rw [List.getElem?_set_self hl] at h1
    cases h1
    rw [h2, Nat.zero_add]
    exact List.mem_cons_self
  · rw [List.getElem?_set_ne hk] at h1
    refine List.mem_cons_of_mem _ (List.mem_filter.mpr ⟨(aj_lvs_mem r _ 0 q).mpr ⟨k, w, h1, h2⟩, ?_⟩)
    subst h2
    by_cases h3 : k + 1 = i
    · have h4 := hn k w h1 h3
      simp [aj_v_cat, h4, Ne.symm hk]
    · simp [h3, Ne.symm hk]
theorem aj_set2 {r : Nat → Nat} {ls : Array Slot} {nL i : Nat} {lv : List (Option Value)} {v : Value} (hn : aj_nl lv i) (h : lv_has ls nL ((i, aj_v r v) :: (aj_lvs r 0 lv).filter (fun q => !(q.1 == i) && (!(q.1 == i + 1) && !(q.1 + 1 == i && q.2.category == 2))))) : lv_has ls nL (aj_lvs r 0 ((lv.set i (some v)).set (i + 1) none)) := by
  refine aj_lh_mono h (fun q hq => ?_)
  obtain ⟨k, w, h1, h2⟩ := (aj_lvs_mem r _ 0 q).mp hq
  by_cases hk1 : i + 1 = k
  · subst hk1
    have hl : i + 1 < (lv.set i (some v)).length := by
      have := (List.getElem?_eq_some_iff.mp h1).1
      simpa using this
    rw [List.getElem?_set_self hl] at h1
    cases h1
  rw [List.getElem?_set_ne hk1] at h1
  by_cases hk : i = k
  · subst hk
    have hl : i < lv.length := by
      have := (List.getElem?_eq_some_iff.mp h1).1
      simpa using this
    rw [List.getElem?_set_self hl] at h1
    cases h1
    rw [h2, Nat.zero_add]
    exact List.mem_cons_self
  · rw [List.getElem?_set_ne hk] at h1
    refine List.mem_cons_of_mem _ (List.mem_filter.mpr ⟨(aj_lvs_mem r _ 0 q).mpr ⟨k, w, h1, h2⟩, ?_⟩)
    subst h2
    by_cases h3 : k + 1 = i
    · have h4 := hn k w h1 h3
      simp [aj_v_cat, h4, Ne.symm hk, Ne.symm hk1]
    · simp [h3, Ne.symm hk, Ne.symm hk1]
theorem aj_lget {r : Nat → Nat} {ls : Array Slot} {nL i : Nat} {lv : List (Option Value)} {v : Value} (h : lv_has ls nL (aj_lvs r 0 lv)) (hv : lv[i]? = some (some v)) : ls[i]? = some (.val (aj_v r v)) := by
  have := h.2.2 (i, aj_v r v) ((aj_lvs_mem r _ 0 _).mpr ⟨i, v, hv, by rw [Nat.zero_add]⟩)
  exact this
-- places in the world
theorem aj_ws_at {cs : Nat → ClassId} {r : Nat → Nat} {I : Nat → Nat → Int32} {J : Nat → Nat → Int64} {V : Nat → Nat → Option Nat} {N : Nat → Nat} {L : List Nat} {i : Nat} (h : i ∈ L) : ∃ k : Nat, L[k]? = some i ∧ (aj_ws cs r I J V N L)[k]? = some (r i, aj_el cs r I J V N i) := by
  obtain ⟨k, hk⟩ := List.getElem?_of_mem h
  exact ⟨k, hk, by unfold aj_ws; rw [List.getElem?_map, hk]; rfl⟩
theorem aj_ws_inj {cs : Nat → ClassId} {r : Nat → Nat} {I : Nat → Nat → Int32} {J : Nat → Nat → Int64} {V : Nat → Nat → Option Nat} {N : Nat → Nat} {L : List Nat} {A : Nat → Prop} (hD : va_D A (aj_ws cs r I J V N L)) {i j : Nat} (hi : i ∈ L) (hj : j ∈ L) (h : r i = r j) : i = j := by
  obtain ⟨a, h1, h2⟩ := aj_ws_at (cs := cs) (r := r) (I := I) (J := J) (V := V) (N := N) hi
  obtain ⟨b, h3, h4⟩ := aj_ws_at (cs := cs) (r := r) (I := I) (J := J) (V := V) (N := N) hj
  have := hD.1 a b _ _ h2 h4 h
  subst this
  exact Option.some.inj (h1.symm.trans h3)
theorem aj_ws_set {cs : Nat → ClassId} {r : Nat → Nat} {I I' : Nat → Nat → Int32} {J J' : Nat → Nat → Int64} {V V' : Nat → Nat → Option Nat} {N N' : Nat → Nat} {L : List Nat} {A : Nat → Prop} (hD : va_D A (aj_ws cs r I J V N L)) {i k : Nat} (hk : L[k]? = some i) (ho : ∀ j, j ≠ i → aj_el cs r I' J' V' N' j = aj_el cs r I J V N j) :
    (aj_ws cs r I J V N L).set k (r i, aj_el cs r I' J' V' N' i) = aj_ws cs r I' J' V' N' L := by
  refine List.ext_getElem? (fun a => ?_)
  by_cases ha : k = a
  · subst ha
    have hl : k < (aj_ws cs r I J V N L).length := by
      unfold aj_ws; rw [List.length_map]; exact (List.getElem?_eq_some_iff.mp hk).1
    rw [List.getElem?_set_self hl]
    unfold aj_ws; rw [List.getElem?_map, hk]; rfl
  · rw [List.getElem?_set_ne ha]
    unfold aj_ws; rw [List.getElem?_map, List.getElem?_map]
    cases hb : L[a]? with
    | none => rfl
    | some j =>
      have hne : j ≠ i := by
        intro e
        subst e
        have h1 : (aj_ws cs r I J V N L)[k]? = some (r j, aj_el cs r I J V N j) := by unfold aj_ws; rw [List.getElem?_map, hk]; rfl
        have h2 : (aj_ws cs r I J V N L)[a]? = some (r j, aj_el cs r I J V N j) := by unfold aj_ws; rw [List.getElem?_map, hb]; rfl
        exact ha (hD.1 k a _ _ h1 h2 rfl)
      exact congrArg some (Prod.ext rfl (ho j hne).symm)
theorem aj_fv_congr {r : Nat → Nat} {I I' : Nat → Nat → Int32} {J J' : Nat → Nat → Int64} {V V' : Nat → Nat → Option Nat} {i k : Nat} {ty : FieldType} (h1 : I' i k = I i k) (h2 : J' i k = J i k) (h3 : V' i k = V i k) : aj_fv r I' J' V' i k ty = aj_fv r I J V i k ty := by
  unfold aj_fv; rw [h1, h2, h3]
theorem aj_el_congr {cs : Nat → ClassId} {r : Nat → Nat} {I I' : Nat → Nat → Int32} {J J' : Nat → Nat → Int64} {V V' : Nat → Nat → Option Nat} {N N' : Nat → Nat} {i : Nat} (h1 : I' i = I i) (h2 : J' i = J i) (h3 : V' i = V i) (h4 : N' i = N i) : aj_el cs r I' J' V' N' i = aj_el cs r I J V N i := by
  unfold aj_el
  rw [h1, h2, h3, h4]
  have : ∀ k, aj_fv r I' J' V' i k (aj_ty (i % 16) k) = aj_fv r I J V i k (aj_ty (i % 16) k) := fun k => aj_fv_congr (by rw [h1]) (by rw [h2]) (by rw [h3])
  simp only [this]
/-- the objects are as told: only what the kinds of the numbers of L tell counts -/
theorem aj_ws_congr {cs : Nat → ClassId} {r r' : Nat → Nat} {I I' : Nat → Nat → Int32} {J J' : Nat → Nat → Int64} {V V' : Nat → Nat → Option Nat} {N N' : Nat → Nat} {L : List Nat} (h : ∀ i ∈ L, r' i = r i ∧ aj_el cs r' I' J' V' N' i = aj_el cs r I J V N i) : aj_ws cs r' I' J' V' N' L = aj_ws cs r I J V N L := by
  unfold aj_ws
  exact List.map_congr_left (fun i hi => by rw [(h i hi).1, (h i hi).2])
-- THE FRAME OF A METHOD, all that stays while it runs
abbrev aj_G : Type := va_G × (Nat → ClassId) × Program × Launch × Env × Room × State × MethodId × Array Value × List Frame × Method × Code × (Nat → Prop) × Nat × (Nat → Nat) × List Nat × List Nat × (State → Prop)
abbrev gD (G : aj_G) : va_G := G.1
abbrev gcs (G : aj_G) : Nat → ClassId := G.2.1
abbrev gp (G : aj_G) : Program := G.2.2.1
abbrev gl (G : aj_G) : Launch := G.2.2.2.1
abbrev ge (G : aj_G) : Env := G.2.2.2.2.1
abbrev gR (G : aj_G) : Room := G.2.2.2.2.2.1
abbrev gs (G : aj_G) : State := G.2.2.2.2.2.2.1
abbrev gm (G : aj_G) : MethodId := G.2.2.2.2.2.2.2.1
abbrev ga (G : aj_G) : Array Value := G.2.2.2.2.2.2.2.2.1
abbrev gb (G : aj_G) : List Frame := G.2.2.2.2.2.2.2.2.2.1
abbrev gt (G : aj_G) : Method := G.2.2.2.2.2.2.2.2.2.2.1
abbrev gc (G : aj_G) : Code := G.2.2.2.2.2.2.2.2.2.2.2.1
abbrev gA (G : aj_G) : Nat → Prop := G.2.2.2.2.2.2.2.2.2.2.2.2.1
abbrev gn (G : aj_G) : Nat := G.2.2.2.2.2.2.2.2.2.2.2.2.2.1
abbrev gr (G : aj_G) : Nat → Nat := G.2.2.2.2.2.2.2.2.2.2.2.2.2.2.1
abbrev gL (G : aj_G) : List Nat := G.2.2.2.2.2.2.2.2.2.2.2.2.2.2.2.1
abbrev gF (G : aj_G) : List Nat := G.2.2.2.2.2.2.2.2.2.2.2.2.2.2.2.2.1
abbrev gQ (G : aj_G) : State → Prop := G.2.2.2.2.2.2.2.2.2.2.2.2.2.2.2.2.2
def aj_W (G : aj_G) (H : Heap) (locs : List Loc) (cells slots : Nat) (g : JFrame) : Prop := W (gp G) (gl G) (ge G) (gR G) (gs G) (gm G) (ga G) (gb G) (gt G) (gc G) H locs cells slots (gQ G) g
/-- what stands outside the world: the statics that throwing reads, Raywalk.MARKS -/
def aj_mk (j : Nat) : Value := .int (([-1, -1, 0, -1, 1, -1, 1, 0, 1, 1, 0, 1, -1, 1, -1, 0] : List Int32).getD j 0)
def aj_NM : List (String × Nat × MethodName × String) := [("Raywalk", 22, yX2_init, "Raywalk"), ("Raywalk", 32, yX1_init, "Raywalk"), ("Raywalk$Field", 24, yX2_init, "Raywalk"), ("Raywalk$Step", 37, yX3_signOf, "Raywalk"), ("Raywalk$Angle", 28, yX3_signOf, "Raywalk"), ("RaywalkLaw", 111, yX4_init, "RaywalkLaw")]
def aj_ex : List String := ["java/lang/IllegalArgumentException", "java/lang/IndexOutOfBoundsException"]
def aj_DC : List MethodName := [⟨"java/lang/RuntimeException", "<init>", "(Ljava/lang/String;)V"⟩, ⟨"java/lang/Exception", "<init>", "(Ljava/lang/String;)V"⟩, ⟨"java/lang/Throwable", "<init>", "(Ljava/lang/String;)V"⟩]
def aj_SR : List (String × Nat × String) := [("Raywalk", 329, "no such cell"), ("Raywalk", 338, "out of its range"), ("Raywalk", 334, "no such place")]
/-- words of the tables that stand by the machine's tables alone, but are not among those that a method's own list may hold -/
def aj_GV (U : State) : Prop := va_AO "Raywalk$Step" U ∧ (∀ x ∈ aj_NM, va_Nw (.methodLinkNest x.1 x.2.1 x.2.2.1 x.2.2.2) U) ∧ va_Nw (.fieldLinkNest "RaywalkLaw" 13 "RaywalkLaw$Out" "n" "J" "RaywalkLaw") U ∧ (∀ x ∈ aj_ex, va_Nw (.castable x x) U) ∧ (∀ x ∈ aj_DC, va_Nw (.declares x) U) ∧ (∀ x ∈ aj_SR, ∃ sa, vk_R x.1 x.2.1 x.2.2 sa U) ∧ va_Nc "java/lang/IllegalArgumentException" "java/lang/IndexOutOfBoundsException" U
theorem aj_GV.warm {u U : State} (hW : u.WarmedH U.vm) (h : aj_GV u) : aj_GV U := ⟨h.1.moved hW.alike, fun x hx => (h.2.1 x hx).warmM hW, h.2.2.1.warmF hW, fun x hx => (h.2.2.2.1 x hx).warmC hW, fun x hx => (h.2.2.2.2.1 x hx).warmD hW, fun x hx => (h.2.2.2.2.2.1 x hx).elim fun sa z => ⟨sa, z.warm hW⟩, h.2.2.2.2.2.2.moved hW.alike⟩
/-- for texts: COMPACT_STRINGS, the digits' rows (13, 14), the constants "" (28) and " " (44) and their rows (60, 76) -/
def aj_dg (t : Bool) (j : Nat) : Value := .int (Int32.ofNat (48 + (if t then j / 10 else j % 10)))
def aj_GT (r : Nat → Nat) (A : Nat → Prop) (U : State) (H : Heap) : Prop :=
  ((va_Z "java/lang/String" "COMPACT_STRINGS" "Z" (.int 1) A U H ∧ va_Z "java/lang/Integer" "DigitTens" "[B" (.ref (r 13)) A U H ∧ va_Z "java/lang/Integer" "DigitOnes" "[B" (.ref (r 14)) A U H) ∧ va_T .byte (r 13) 100 (aj_dg true) A U H ∧ va_T .byte (r 14) 100 (aj_dg false) A U H ∧ vk_S 2 [0, 1] [[], [32]] (fun i => r (28 + 16 * i)) (fun i => r (60 + 16 * i)) A U H) ∧ vk_R "RaywalkModel" 220 "" (r 28) U ∧ vk_R "RaywalkModel" 222 " " (r 44) U ∧ va_Nw (.castable "[B" "java/lang/Cloneable") U
theorem aj_GT.warm {r : Nat → Nat} {A : Nat → Prop} {u U : State} {H : Heap} (hW : u.WarmedH U.vm) (h : aj_GT r A u H) : aj_GT r A U H := ⟨⟨⟨h.1.1.1.moved hW.alike, h.1.1.2.1.moved hW.alike, h.1.1.2.2.moved hW.alike⟩, h.1.2.1.moved hW.alike, h.1.2.2.1.moved hW.alike, vk_S.moved hW.alike h.1.2.2.2⟩, h.2.1.warm hW, h.2.2.1.warm hW, h.2.2.2.warmC hW⟩
theorem aj_GT.kept {r : Nat → Nat} {A : Nat → Prop} {U : State} {H H1 : Heap} (h : aj_GT r A U H) (hq : ∀ a : Nat, a < H.size → ¬ A a → H1[a]? = H[a]?) : aj_GT r A U H1 := ⟨⟨⟨h.1.1.1.kept hq, h.1.1.2.1.kept hq, h.1.1.2.2.kept hq⟩, h.1.2.1.kept hq, h.1.2.2.1.kept hq, h.1.2.2.2.kept hq⟩, h.2⟩
theorem aj_GT.narrow {r : Nat → Nat} {A B : Nat → Prop} {U : State} {H : Heap} (h : aj_GT r A U H) (hAB : ∀ q, B q → A q) : aj_GT r B U H := ⟨⟨⟨h.1.1.1.narrow hAB, h.1.1.2.1.narrow hAB, h.1.1.2.2.narrow hAB⟩, h.1.2.1.narrow hAB, h.1.2.2.1.narrow hAB, h.1.2.2.2.narrow hAB⟩, h.2⟩
def aj_GW (r : Nat → Nat) (A : Nat → Prop) (U : State) (H : Heap) : Prop :=
  (vx_Zq Bundle.tN "UNASSIGNED_STACK" Bundle.steD A U H ∧ vx_Zq Bundle.tN "SUPPRESSED_SENTINEL" Bundle.listD A U H ∧ va_Z "Raywalk" "MARKS" "[I" (.ref (r 12)) A U H ∧ va_T .int (r 12) 16 aj_mk A U H ∧ aj_GT r A U H) ∧ aj_GV U
theorem aj_GW.warm {r : Nat → Nat} {A : Nat → Prop} {u U : State} {H : Heap} (hW : u.WarmedH U.vm) (h : aj_GW r A u H) : aj_GW r A U H := ⟨⟨h.1.1.moved hW.alike, h.1.2.1.moved hW.alike, h.1.2.2.1.moved hW.alike, h.1.2.2.2.1.moved hW.alike, h.1.2.2.2.2.warm hW⟩, h.2.warm hW⟩
theorem aj_GW.kept {r : Nat → Nat} {A : Nat → Prop} {U : State} {H H1 : Heap} (h : aj_GW r A U H) (hq : ∀ a : Nat, a < H.size → ¬ A a → H1[a]? = H[a]?) : aj_GW r A U H1 := ⟨⟨h.1.1.kept hq, h.1.2.1.kept hq, h.1.2.2.1.kept hq, h.1.2.2.2.1.kept hq, h.1.2.2.2.2.kept hq⟩, h.2⟩
theorem aj_GW.narrow {r : Nat → Nat} {A B : Nat → Prop} {U : State} {H : Heap} (h : aj_GW r A U H) (hAB : ∀ q, B q → A q) : aj_GW r B U H := ⟨⟨h.1.1.narrow hAB, h.1.2.1.narrow hAB, h.1.2.2.1.narrow hAB, h.1.2.2.2.1.narrow hAB, h.1.2.2.2.2.narrow hAB⟩, h.2⟩
def aj_sp (i : Nat) : Prop := i % 16 = 12 ∨ i % 16 = 13 ∨ i % 16 = 14
/-- the machine at place pc, with locals lv, stack st, the objects' ints I, longs J, references V, lengths N, the objects L alive, bc cells and bs slots still to be made -/
def aj_X (G : aj_G) (pc : Nat) (lv : List (Option Value)) (st : List Value) (I : Nat → Nat → Int32) (J : Nat → Nat → Int64) (V : Nat → Nat → Option Nat) (N : Nat → Nat) (L : List Nat) (bc bs : Nat) : Prop :=
  ∀ (r : Nat → Nat) (H : Heap) (locs : List Loc) (cells slots : Nat) (ls : Array Slot), va_P (gD G) vwCl (aj_ws (gcs G) r I J V N L) H → va_D (gA G) (aj_ws (gcs G) r I J V N L) → va_S (gA G) (gs G).heap H locs →
    (∀ i ∈ gL G, i ∈ L) → (∀ i, i ∉ gF G → r i = gr G i) → cells + bc ≤ (gR G).cells → slots + bs ≤ (gR G).slots → lv_has ls (gn G) (aj_lvs r 0 lv) →
    aj_W G H locs cells slots (F0 (gm G) pc ls (st.map (aj_v r)))
/-- what holds all along -/
def aj_C (G : aj_G) (cc : ByteArray) (tbl : List (Nat × Instr × Nat)) (own : String) (R0 : Room) (nL : Nat) : Prop :=
  (gp G).tables.exec = Jvm.exec ∧ (gc G).code = cc ∧ (gc G).maxLocals = gn G ∧ (gs G).vm.findClass own = some (gm G).cls ∧ (∀ w ∈ aj_TB, w.before (ga G) (gs G) = true) ∧ va_K (gD G) vwCl (aj_tys (gcs G)) (gs G) ∧ (∀ q, (gs G).heap.size ≤ q → gA G q) ∧
  (∀ e ∈ tbl, decode cc e.1 = .ok e.2) ∧ gR G = R0 ∧ gn G = nL ∧ (gl G).stackTraces = false ∧ (∀ i ∈ gF G, ¬ aj_sp i) ∧ aj_GW (gr G) (gA G) (gs G) (gs G).heap ∧ (gt G).locks = false
section CX
variable {G : aj_G} {cc : ByteArray} {tbl : List (Nat × Instr × Nat)} {own : String} {R0 : Room} {nL : Nat}
theorem aj_C.x (C : aj_C G cc tbl own R0 nL) : (gp G).tables.exec = Jvm.exec := C.1
theorem aj_C.b (C : aj_C G cc tbl own R0 nL) : (gc G).code = cc := C.2.1
theorem aj_C.ml (C : aj_C G cc tbl own R0 nL) : (gc G).maxLocals = gn G := C.2.2.1
theorem aj_C.o (C : aj_C G cc tbl own R0 nL) : (gs G).vm.findClass own = some (gm G).cls := C.2.2.2.1
theorem aj_C.ts (C : aj_C G cc tbl own R0 nL) : ∀ w ∈ aj_TB, w.before (ga G) (gs G) = true := C.2.2.2.2.1
theorem aj_C.k (C : aj_C G cc tbl own R0 nL) : va_K (gD G) vwCl (aj_tys (gcs G)) (gs G) := C.2.2.2.2.2.1
theorem aj_C.a (C : aj_C G cc tbl own R0 nL) : ∀ q, (gs G).heap.size ≤ q → gA G q := C.2.2.2.2.2.2.1
theorem aj_C.d (C : aj_C G cc tbl own R0 nL) {k pc : Nat} {i : Instr} {n : Nat} (h : tbl[k]? = some (pc, i, n)) : decode cc pc = .ok (i, n) := C.2.2.2.2.2.2.2.1 ((pc, i, n) : Nat × Instr × Nat) (List.mem_of_getElem? h)
theorem aj_C.r (C : aj_C G cc tbl own R0 nL) : gR G = R0 := C.2.2.2.2.2.2.2.2.1
theorem aj_C.n (C : aj_C G cc tbl own R0 nL) : gn G = nL := C.2.2.2.2.2.2.2.2.2.1
theorem aj_C.st (C : aj_C G cc tbl own R0 nL) : (gl G).stackTraces = false := C.2.2.2.2.2.2.2.2.2.2.1
theorem aj_C.f (C : aj_C G cc tbl own R0 nL) : ∀ i ∈ gF G, ¬ aj_sp i := C.2.2.2.2.2.2.2.2.2.2.2.1
theorem aj_C.gw (C : aj_C G cc tbl own R0 nL) : aj_GW (gr G) (gA G) (gs G) (gs G).heap := C.2.2.2.2.2.2.2.2.2.2.2.2.1
theorem aj_C.lk (C : aj_C G cc tbl own R0 nL) : (gt G).locks = false := C.2.2.2.2.2.2.2.2.2.2.2.2.2
end CX
section RW
variable {G : aj_G} {cc : ByteArray} {tbl : List (Nat × Instr × Nat)} {own : String} {R0 : Room} {nL : Nat} {pc q : Nat} {lv lv' : List (Option Value)} {st st' : List Value} {I : Nat → Nat → Int32} {J : Nat → Nat → Int64} {V : Nat → Nat → Option Nat} {N : Nat → Nat} {L : List Nat} {bc bs : Nat}
theorem aj_pure (h : ∀ (r : Nat → Nat) (H : Heap) (locs : List Loc) (cells slots : Nat) (ls : Array Slot), lv_has ls (gn G) (aj_lvs r 0 lv) → aj_W G H locs cells slots (F0 (gm G) q ls (st'.map (aj_v r))) → aj_W G H locs cells slots (F0 (gm G) pc ls (st.map (aj_v r)))) (k : aj_X G q lv st' I J V N L bc bs) : aj_X G pc lv st I J V N L bc bs :=
  fun r H locs cells slots ls hP hD hS hL hF hc hs hl => h r H locs cells slots ls hl (k r H locs cells slots ls hP hD hS hL hF hc hs hl)
theorem x_iadd (C : aj_C G cc tbl own R0 nL) (k : Nat) {x y : Int32} (h : tbl[k]? = some (pc, .iadd, 1)) (hq : pc + 1 = q) (kk : aj_X G q lv (.int (x + y) :: st) I J V N L bc bs) : aj_X G pc lv (.int y :: .int x :: st) I J V N L bc bs := by
  subst hq
  exact aj_pure (k := kk) (h := fun r H locs cells slots ls hl w => by
    exact lv_iadd C.x C.b (C.d h) w)
theorem x_isub (C : aj_C G cc tbl own R0 nL) (k : Nat) {x y : Int32} (h : tbl[k]? = some (pc, .isub, 1)) (hq : pc + 1 = q) (kk : aj_X G q lv (.int (x - y) :: st) I J V N L bc bs) : aj_X G pc lv (.int y :: .int x :: st) I J V N L bc bs := by
  subst hq
  exact aj_pure (k := kk) (h := fun r H locs cells slots ls hl w => by
    exact lv_isub C.x C.b (C.d h) w)
theorem x_imul (C : aj_C G cc tbl own R0 nL) (k : Nat) {x y : Int32} (h : tbl[k]? = some (pc, .imul, 1)) (hq : pc + 1 = q) (kk : aj_X G q lv (.int (x * y) :: st) I J V N L bc bs) : aj_X G pc lv (.int y :: .int x :: st) I J V N L bc bs := by
  subst hq
  exact aj_pure (k := kk) (h := fun r H locs cells slots ls hl w => by
    exact lv_imul C.x C.b (C.d h) w)
theorem x_iand (C : aj_C G cc tbl own R0 nL) (k : Nat) {x y : Int32} (h : tbl[k]? = some (pc, .iand, 1)) (hq : pc + 1 = q) (kk : aj_X G q lv (.int (x &&& y) :: st) I J V N L bc bs) : aj_X G pc lv (.int y :: .int x :: st) I J V N L bc bs := by
  subst hq
  exact aj_pure (k := kk) (h := fun r H locs cells slots ls hl w => by
    exact lv_iand C.x C.b (C.d h) w)
theorem x_ior (C : aj_C G cc tbl own R0 nL) (k : Nat) {x y : Int32} (h : tbl[k]? = some (pc, .ior, 1)) (hq : pc + 1 = q) (kk : aj_X G q lv (.int (x ||| y) :: st) I J V N L bc bs) : aj_X G pc lv (.int y :: .int x :: st) I J V N L bc bs := by
  subst hq
  exact aj_pure (k := kk) (h := fun r H locs cells slots ls hl w => by
    exact lv_ior C.x C.b (C.d h) w)
theorem x_ixor (C : aj_C G cc tbl own R0 nL) (k : Nat) {x y : Int32} (h : tbl[k]? = some (pc, .ixor, 1)) (hq : pc + 1 = q) (kk : aj_X G q lv (.int (x ^^^ y) :: st) I J V N L bc bs) : aj_X G pc lv (.int y :: .int x :: st) I J V N L bc bs := by
  subst hq
  exact aj_pure (k := kk) (h := fun r H locs cells slots ls hl w => by
    exact lv_ixor C.x C.b (C.d h) w)
theorem x_ladd (C : aj_C G cc tbl own R0 nL) (k : Nat) {x y : Int64} (h : tbl[k]? = some (pc, .ladd, 1)) (hq : pc + 1 = q) (kk : aj_X G q lv (.long (x + y) :: st) I J V N L bc bs) : aj_X G pc lv (.long y :: .long x :: st) I J V N L bc bs := by
  subst hq
  exact aj_pure (k := kk) (h := fun r H locs cells slots ls hl w => by
    exact lv_ladd C.x C.b (C.d h) w)
theorem x_lsub (C : aj_C G cc tbl own R0 nL) (k : Nat) {x y : Int64} (h : tbl[k]? = some (pc, .lsub, 1)) (hq : pc + 1 = q) (kk : aj_X G q lv (.long (x - y) :: st) I J V N L bc bs) : aj_X G pc lv (.long y :: .long x :: st) I J V N L bc bs := by
  subst hq
  exact aj_pure (k := kk) (h := fun r H locs cells slots ls hl w => by
    exact lv_lsub C.x C.b (C.d h) w)
theorem x_lmul (C : aj_C G cc tbl own R0 nL) (k : Nat) {x y : Int64} (h : tbl[k]? = some (pc, .lmul, 1)) (hq : pc + 1 = q) (kk : aj_X G q lv (.long (x * y) :: st) I J V N L bc bs) : aj_X G pc lv (.long y :: .long x :: st) I J V N L bc bs := by
  subst hq
  exact aj_pure (k := kk) (h := fun r H locs cells slots ls hl w => by
    exact lv_lmul C.x C.b (C.d h) w)
theorem x_land (C : aj_C G cc tbl own R0 nL) (k : Nat) {x y : Int64} (h : tbl[k]? = some (pc, .land, 1)) (hq : pc + 1 = q) (kk : aj_X G q lv (.long (x &&& y) :: st) I J V N L bc bs) : aj_X G pc lv (.long y :: .long x :: st) I J V N L bc bs := by
  subst hq
  exact aj_pure (k := kk) (h := fun r H locs cells slots ls hl w => by
    exact lv_land C.x C.b (C.d h) w)
theorem x_lor (C : aj_C G cc tbl own R0 nL) (k : Nat) {x y : Int64} (h : tbl[k]? = some (pc, .lor, 1)) (hq : pc + 1 = q) (kk : aj_X G q lv (.long (x ||| y) :: st) I J V N L bc bs) : aj_X G pc lv (.long y :: .long x :: st) I J V N L bc bs := by
  subst hq
  exact aj_pure (k := kk) (h := fun r H locs cells slots ls hl w => by
    exact lv_lor C.x C.b (C.d h) w)
theorem x_lxor (C : aj_C G cc tbl own R0 nL) (k : Nat) {x y : Int64} (h : tbl[k]? = some (pc, .lxor, 1)) (hq : pc + 1 = q) (kk : aj_X G q lv (.long (x ^^^ y) :: st) I J V N L bc bs) : aj_X G pc lv (.long y :: .long x :: st) I J V N L bc bs := by
  subst hq
  exact aj_pure (k := kk) (h := fun r H locs cells slots ls hl w => by
    exact lv_lxor C.x C.b (C.d h) w)
theorem x_ineg (C : aj_C G cc tbl own R0 nL) (k : Nat) {x : Int32} (h : tbl[k]? = some (pc, .ineg, 1)) (hq : pc + 1 = q) (kk : aj_X G q lv (.int (-x) :: st) I J V N L bc bs) : aj_X G pc lv (.int x :: st) I J V N L bc bs := by
  subst hq
  exact aj_pure (k := kk) (h := fun r H locs cells slots ls hl w => by
    exact lv_ineg C.x C.b (C.d h) w)
theorem x_lneg (C : aj_C G cc tbl own R0 nL) (k : Nat) {x : Int64} (h : tbl[k]? = some (pc, .lneg, 1)) (hq : pc + 1 = q) (kk : aj_X G q lv (.long (-x) :: st) I J V N L bc bs) : aj_X G pc lv (.long x :: st) I J V N L bc bs := by
  subst hq
  exact aj_pure (k := kk) (h := fun r H locs cells slots ls hl w => by
    exact lv_lneg C.x C.b (C.d h) w)
theorem x_ishl (C : aj_C G cc tbl own R0 nL) (k : Nat) {x y : Int32} (h : tbl[k]? = some (pc, .ishl, 1)) (hq : pc + 1 = q) (kk : aj_X G q lv (.int (x <<< (y &&& 31)) :: st) I J V N L bc bs) : aj_X G pc lv (.int y :: .int x :: st) I J V N L bc bs := by
  subst hq
  exact aj_pure (k := kk) (h := fun r H locs cells slots ls hl w => by
    exact lv_ishl C.x C.b (C.d h) w)
theorem x_ishr (C : aj_C G cc tbl own R0 nL) (k : Nat) {x y : Int32} (h : tbl[k]? = some (pc, .ishr, 1)) (hq : pc + 1 = q) (kk : aj_X G q lv (.int (x >>> (y &&& 31)) :: st) I J V N L bc bs) : aj_X G pc lv (.int y :: .int x :: st) I J V N L bc bs := by
  subst hq
  exact aj_pure (k := kk) (h := fun r H locs cells slots ls hl w => by
    exact lv_ishr C.x C.b (C.d h) w)
theorem x_iushr (C : aj_C G cc tbl own R0 nL) (k : Nat) {x y : Int32} (h : tbl[k]? = some (pc, .iushr, 1)) (hq : pc + 1 = q) (kk : aj_X G q lv (.int (x.toUInt32 >>> (y.toUInt32 &&& Int32.toUInt32 31)).toInt32 :: st) I J V N L bc bs) : aj_X G pc lv (.int y :: .int x :: st) I J V N L bc bs := by
  subst hq
  exact aj_pure (k := kk) (h := fun r H locs cells slots ls hl w => by
    exact lv_iushr C.x C.b (C.d h) rfl w)
theorem x_lshr (C : aj_C G cc tbl own R0 nL) (k : Nat) {x : Int64} {y : Int32} (h : tbl[k]? = some (pc, .lshr, 1)) (hq : pc + 1 = q) (kk : aj_X G q lv (.long (x >>> (y.toInt64 &&& 63)) :: st) I J V N L bc bs) : aj_X G pc lv (.int y :: .long x :: st) I J V N L bc bs := by
  subst hq
  exact aj_pure (k := kk) (h := fun r H locs cells slots ls hl w => by
    exact lv_lshr C.x C.b (C.d h) rfl w)
theorem x_idiv (C : aj_C G cc tbl own R0 nL) (k : Nat) {x y : Int32} (hn : ¬ y = 0) (h : tbl[k]? = some (pc, .idiv, 1)) (hq : pc + 1 = q) (kk : aj_X G q lv (.int (x / y) :: st) I J V N L bc bs) : aj_X G pc lv (.int y :: .int x :: st) I J V N L bc bs := by
  subst hq
  exact aj_pure (k := kk) (h := fun r H locs cells slots ls hl w => by
    exact lv_idiv C.x C.b (C.d h) hn w)
theorem x_irem (C : aj_C G cc tbl own R0 nL) (k : Nat) {x y : Int32} (hn : ¬ y = 0) (h : tbl[k]? = some (pc, .irem, 1)) (hq : pc + 1 = q) (kk : aj_X G q lv (.int (x - x / y * y) :: st) I J V N L bc bs) : aj_X G pc lv (.int y :: .int x :: st) I J V N L bc bs := by
  subst hq
  exact aj_pure (k := kk) (h := fun r H locs cells slots ls hl w => by
    exact lv_irem C.x C.b (C.d h) hn w)
theorem x_ldiv (C : aj_C G cc tbl own R0 nL) (k : Nat) {x y : Int64} (hn : ¬ y = 0) (h : tbl[k]? = some (pc, .ldiv, 1)) (hq : pc + 1 = q) (kk : aj_X G q lv (.long (x / y) :: st) I J V N L bc bs) : aj_X G pc lv (.long y :: .long x :: st) I J V N L bc bs := by
  subst hq
  exact aj_pure (k := kk) (h := fun r H locs cells slots ls hl w => by
    exact lv_ldiv C.x C.b (C.d h) hn w)
theorem x_lrem (C : aj_C G cc tbl own R0 nL) (k : Nat) {x y : Int64} (hn : ¬ y = 0) (h : tbl[k]? = some (pc, .lrem, 1)) (hq : pc + 1 = q) (kk : aj_X G q lv (.long (x - x / y * y) :: st) I J V N L bc bs) : aj_X G pc lv (.long y :: .long x :: st) I J V N L bc bs := by
  subst hq
  exact aj_pure (k := kk) (h := fun r H locs cells slots ls hl w => by
    exact lv_lrem C.x C.b (C.d h) hn w)
theorem x_i2l (C : aj_C G cc tbl own R0 nL) (k : Nat) {x : Int32} (h : tbl[k]? = some (pc, .i2l, 1)) (hq : pc + 1 = q) (kk : aj_X G q lv (.long x.toInt64 :: st) I J V N L bc bs) : aj_X G pc lv (.int x :: st) I J V N L bc bs := by
  subst hq
  exact aj_pure (k := kk) (h := fun r H locs cells slots ls hl w => by
    exact lv_i2l C.x C.b (C.d h) rfl w)
theorem x_l2i (C : aj_C G cc tbl own R0 nL) (k : Nat) {x : Int64} (h : tbl[k]? = some (pc, .l2i, 1)) (hq : pc + 1 = q) (kk : aj_X G q lv (.int x.toInt32 :: st) I J V N L bc bs) : aj_X G pc lv (.long x :: st) I J V N L bc bs := by
  subst hq
  exact aj_pure (k := kk) (h := fun r H locs cells slots ls hl w => by
    exact lv_l2i C.x C.b (C.d h) rfl w)
theorem x_i2b (C : aj_C G cc tbl own R0 nL) (k : Nat) {x : Int32} (h : tbl[k]? = some (pc, .i2b, 1)) (hq : pc + 1 = q) (kk : aj_X G q lv (.int x.toInt8.toInt32 :: st) I J V N L bc bs) : aj_X G pc lv (.int x :: st) I J V N L bc bs := by
  subst hq
  exact aj_pure (k := kk) (h := fun r H locs cells slots ls hl w => by
    exact lv_i2b C.x C.b (C.d h) rfl w)
theorem x_i2c (C : aj_C G cc tbl own R0 nL) (k : Nat) {x : Int32} (h : tbl[k]? = some (pc, .i2c, 1)) (hq : pc + 1 = q) (kk : aj_X G q lv (.int (x.toUInt32 % 65536).toInt32 :: st) I J V N L bc bs) : aj_X G pc lv (.int x :: st) I J V N L bc bs := by
  subst hq
  exact aj_pure (k := kk) (h := fun r H locs cells slots ls hl w => by
    exact lv_i2c C.x C.b (C.d h) rfl w)
theorem x_iconst (C : aj_C G cc tbl own R0 nL) (k : Nat) {n : Int} {v : Int32}  (hv : Int32.ofInt n = v) (h : tbl[k]? = some (pc, .iconst n, 1)) (hq : pc + 1 = q) (kk : aj_X G q lv (.int v :: st) I J V N L bc bs) : aj_X G pc lv (st) I J V N L bc bs := by
  subst hq
  exact aj_pure (k := kk) (h := fun r H locs cells slots ls hl w => by
    exact lv_iconst C.x C.b (C.d h) hv w)
theorem x_bipush (C : aj_C G cc tbl own R0 nL) (k : Nat) {n : Int} {v : Int32} (hv : (Int8.ofInt n).toInt32 = v) (h : tbl[k]? = some (pc, .bipush n, 2)) (hq : pc + 2 = q) (kk : aj_X G q lv (.int v :: st) I J V N L bc bs) : aj_X G pc lv (st) I J V N L bc bs := by
  subst hq
  exact aj_pure (k := kk) (h := fun r H locs cells slots ls hl w => by
    exact lv_bipush C.x C.b (C.d h) hv w)
theorem x_sipush (C : aj_C G cc tbl own R0 nL) (k : Nat) {n : Int} {v : Int32} (hv : (Int16.ofInt n).toInt32 = v) (h : tbl[k]? = some (pc, .sipush n, 3)) (hq : pc + 3 = q) (kk : aj_X G q lv (.int v :: st) I J V N L bc bs) : aj_X G pc lv (st) I J V N L bc bs := by
  subst hq
  exact aj_pure (k := kk) (h := fun r H locs cells slots ls hl w => by
    exact lv_sipush C.x C.b (C.d h) hv w)
theorem x_lconst (C : aj_C G cc tbl own R0 nL) (k : Nat) {n : Fin 2} {v : Int64} (hv : Int64.ofNat (n : Nat) = v) (h : tbl[k]? = some (pc, .lconst n, 1)) (hq : pc + 1 = q) (kk : aj_X G q lv (.long v :: st) I J V N L bc bs) : aj_X G pc lv (st) I J V N L bc bs := by
  subst hq
  exact aj_pure (k := kk) (h := fun r H locs cells slots ls hl w => by
    exact lv_lconst C.x C.b (C.d h) hv w)
theorem x_null (C : aj_C G cc tbl own R0 nL) (k : Nat)  (h : tbl[k]? = some (pc, .aconst_null, 1)) (hq : pc + 1 = q) (kk : aj_X G q lv (.null :: st) I J V N L bc bs) : aj_X G pc lv (st) I J V N L bc bs := by
  subst hq
  exact aj_pure (k := kk) (h := fun r H locs cells slots ls hl w => by
    exact lv_null C.x C.b (C.d h) w)
theorem x_lcmp (C : aj_C G cc tbl own R0 nL) (k : Nat) {x y : Int64} (h : tbl[k]? = some (pc, .lcmp, 1)) (hq : pc + 1 = q) (kk : aj_X G q lv (.int (lg_cmp x y) :: st) I J V N L bc bs) : aj_X G pc lv (.long y :: .long x :: st) I J V N L bc bs := by
  subst hq
  exact aj_pure (k := kk) (h := fun r H locs cells slots ls hl w => by
    exact W.lcmp C.x C.b (C.d h) w)
theorem x_dupi (C : aj_C G cc tbl own R0 nL) (k : Nat) {x : Int32} (h : tbl[k]? = some (pc, .dup, 1)) (hq : pc + 1 = q) (kk : aj_X G q lv (.int x :: .int x :: st) I J V N L bc bs) : aj_X G pc lv (.int x :: st) I J V N L bc bs := by
  subst hq
  exact aj_pure (k := kk) (h := fun r H locs cells slots ls hl w => by
    exact lv_dup C.x C.b (C.d h) rfl w)
theorem x_dupr (C : aj_C G cc tbl own R0 nL) (k : Nat) {x : Nat} (h : tbl[k]? = some (pc, .dup, 1)) (hq : pc + 1 = q) (kk : aj_X G q lv (.ref x :: .ref x :: st) I J V N L bc bs) : aj_X G pc lv (.ref x :: st) I J V N L bc bs := by
  subst hq
  exact aj_pure (k := kk) (h := fun r H locs cells slots ls hl w => by
    exact lv_dup C.x C.b (C.d h) rfl w)
theorem x_dup_x1 (C : aj_C G cc tbl own R0 nL) (k : Nat) {x y : Value} (h1 : x.category = 1) (h2 : y.category = 1) (h : tbl[k]? = some (pc, .dup_x1, 1)) (hq : pc + 1 = q) (kk : aj_X G q lv (x :: y :: x :: st) I J V N L bc bs) : aj_X G pc lv (x :: y :: st) I J V N L bc bs := by
  subst hq
  exact aj_pure (k := kk) (h := fun r H locs cells slots ls hl w => by
    exact lv_dup_x1 C.x C.b (C.d h) ((aj_v_cat r x).trans h1) ((aj_v_cat r y).trans h2) w)
theorem x_dup2 (C : aj_C G cc tbl own R0 nL) (k : Nat) {x : Int32} {y : Nat} (h : tbl[k]? = some (pc, .dup2, 1)) (hq : pc + 1 = q) (kk : aj_X G q lv (.int x :: .ref y :: .int x :: .ref y :: st) I J V N L bc bs) : aj_X G pc lv (.int x :: .ref y :: st) I J V N L bc bs := by
  subst hq
  exact aj_pure (k := kk) (h := fun r H locs cells slots ls hl w => by
    exact lv_dup2_11 C.x C.b (C.d h) rfl rfl w)
theorem x_pop (C : aj_C G cc tbl own R0 nL) (k : Nat) {x : Value} (h1 : x.category = 1) (h : tbl[k]? = some (pc, .pop, 1)) (hq : pc + 1 = q) (kk : aj_X G q lv (st) I J V N L bc bs) : aj_X G pc lv (x :: st) I J V N L bc bs := by
  subst hq
  exact aj_pure (k := kk) (h := fun r H locs cells slots ls hl w => by
    exact lv_pop C.x C.b (C.d h) ((aj_v_cat r x).trans h1) w)
theorem x_pop2 (C : aj_C G cc tbl own R0 nL) (k : Nat) {x : Value} (h1 : x.category = 2) (h : tbl[k]? = some (pc, .pop2, 1)) (hq : pc + 1 = q) (kk : aj_X G q lv (st) I J V N L bc bs) : aj_X G pc lv (x :: st) I J V N L bc bs := by
  subst hq
  exact aj_pure (k := kk) (h := fun r H locs cells slots ls hl w => by
    exact lv_pop2_2 C.x C.b (C.d h) ((aj_v_cat r x).trans h1) w)
theorem x_ldc (C : aj_C G cc tbl own R0 nL) (k : Nat) {i : Nat} {v : Int32} (hw : Cond.constant own i v ∈ aj_TB) (h : tbl[k]? = some (pc, .ldc i, 2)) (hq : pc + 2 = q) (kk : aj_X G q lv (.int v :: st) I J V N L bc bs) : aj_X G pc lv (st) I J V N L bc bs := by
  subst hq
  exact aj_pure (k := kk) (h := fun r H locs cells slots ls hl w => by
    exact lv_ldc C.x C.b C.o (C.ts _ hw) (C.d h) w)
theorem x_ldcw (C : aj_C G cc tbl own R0 nL) (k : Nat) {i : Nat} {v : Int32} (hw : Cond.constant own i v ∈ aj_TB) (h : tbl[k]? = some (pc, .ldc_w i, 3)) (hq : pc + 3 = q) (kk : aj_X G q lv (.int v :: st) I J V N L bc bs) : aj_X G pc lv (st) I J V N L bc bs := by
  subst hq
  exact aj_pure (k := kk) (h := fun r H locs cells slots ls hl w => by
    exact lv_ldcw C.x C.b C.o (C.ts _ hw) (C.d h) w)
theorem x_ldc2 (C : aj_C G cc tbl own R0 nL) (k : Nat) {i : Nat} {v : Int64} (hw : Cond.constantLong own i v ∈ aj_TB) (h : tbl[k]? = some (pc, .ldc2_w i, 3)) (hq : pc + 3 = q) (kk : aj_X G q lv (.long v :: st) I J V N L bc bs) : aj_X G pc lv (st) I J V N L bc bs := by
  subst hq
  exact aj_pure (k := kk) (h := fun r H locs cells slots ls hl w => by
    exact lv_ldc2 C.x C.b C.o (C.ts _ hw) (C.d h) w)
theorem x_iload (C : aj_C G cc tbl own R0 nL) (k : Nat) {i : Nat} {x : Int32} (hv : lv[i]? = some (some (.int x))) (h : tbl[k]? = some (pc, .iload i, 2)) (hq : pc + 2 = q) (kk : aj_X G q lv (.int x :: st) I J V N L bc bs) : aj_X G pc lv (st) I J V N L bc bs := by
  subst hq
  exact aj_pure (k := kk) (h := fun r H locs cells slots ls hl w => by
    exact lv_iload C.x C.b (C.d h) (aj_lget hl hv) w)
theorem x_lload (C : aj_C G cc tbl own R0 nL) (k : Nat) {i : Nat} {x : Int64} (hv : lv[i]? = some (some (.long x))) (h : tbl[k]? = some (pc, .lload i, 2)) (hq : pc + 2 = q) (kk : aj_X G q lv (.long x :: st) I J V N L bc bs) : aj_X G pc lv (st) I J V N L bc bs := by
  subst hq
  exact aj_pure (k := kk) (h := fun r H locs cells slots ls hl w => by
    exact lv_lload C.x C.b (C.d h) (aj_lget hl hv) w)
theorem x_aload (C : aj_C G cc tbl own R0 nL) (k : Nat) {i : Nat} {x : Nat} (hv : lv[i]? = some (some (.ref x))) (h : tbl[k]? = some (pc, .aload i, 2)) (hq : pc + 2 = q) (kk : aj_X G q lv (.ref x :: st) I J V N L bc bs) : aj_X G pc lv (st) I J V N L bc bs := by
  subst hq
  exact aj_pure (k := kk) (h := fun r H locs cells slots ls hl w => by
    exact lv_aload C.x C.b (C.d h) (aj_lget hl hv) w)
theorem x_iload_n (C : aj_C G cc tbl own R0 nL) (k : Nat) {i : Fin 4} {x : Int32} (hv : lv[(i : Nat)]? = some (some (.int x))) (h : tbl[k]? = some (pc, .iload_n i, 1)) (hq : pc + 1 = q) (kk : aj_X G q lv (.int x :: st) I J V N L bc bs) : aj_X G pc lv (st) I J V N L bc bs := by
  subst hq
  exact aj_pure (k := kk) (h := fun r H locs cells slots ls hl w => by
    exact lv_iload_n C.x C.b (C.d h) rfl (aj_lget hl hv) w)
theorem x_lload_n (C : aj_C G cc tbl own R0 nL) (k : Nat) {i : Fin 4} {x : Int64} (hv : lv[(i : Nat)]? = some (some (.long x))) (h : tbl[k]? = some (pc, .lload_n i, 1)) (hq : pc + 1 = q) (kk : aj_X G q lv (.long x :: st) I J V N L bc bs) : aj_X G pc lv (st) I J V N L bc bs := by
  subst hq
  exact aj_pure (k := kk) (h := fun r H locs cells slots ls hl w => by
    exact lv_lload_n C.x C.b (C.d h) rfl (aj_lget hl hv) w)
theorem x_aload_n (C : aj_C G cc tbl own R0 nL) (k : Nat) {i : Fin 4} {x : Nat} (hv : lv[(i : Nat)]? = some (some (.ref x))) (h : tbl[k]? = some (pc, .aload_n i, 1)) (hq : pc + 1 = q) (kk : aj_X G q lv (.ref x :: st) I J V N L bc bs) : aj_X G pc lv (st) I J V N L bc bs := by
  subst hq
  exact aj_pure (k := kk) (h := fun r H locs cells slots ls hl w => by
    exact lv_aload_n C.x C.b (C.d h) rfl (aj_lget hl hv) w)
theorem x_if_eq (C : aj_C G cc tbl own R0 nL) (k : Nat) {x : Int32} {off : Int} {t : Nat} (h : tbl[k]? = some (pc, .ifCond .eq off, 3)) (ht : (pc : Int) + off = (t : Int)) (hq : pc + 3 = q) (kt : (x = 0) → aj_X G t lv st I J V N L bc bs) (kf : ¬ (x = 0) → aj_X G q lv st I J V N L bc bs) : aj_X G pc lv (.int x :: st) I J V N L bc bs := by
  subst hq
  intro r H locs cells slots ls hP hD hS hL hF hc hs hl
  exact lv_if_eq C.x C.b (C.d h) ht (fun z => kt z r H locs cells slots ls hP hD hS hL hF hc hs hl) (fun z => kf z r H locs cells slots ls hP hD hS hL hF hc hs hl)
theorem x_if_ne (C : aj_C G cc tbl own R0 nL) (k : Nat) {x : Int32} {off : Int} {t : Nat} (h : tbl[k]? = some (pc, .ifCond .ne off, 3)) (ht : (pc : Int) + off = (t : Int)) (hq : pc + 3 = q) (kt : (¬ x = 0) → aj_X G t lv st I J V N L bc bs) (kf : x = 0 → aj_X G q lv st I J V N L bc bs) : aj_X G pc lv (.int x :: st) I J V N L bc bs := by
  subst hq
  intro r H locs cells slots ls hP hD hS hL hF hc hs hl
  exact lv_if_ne C.x C.b (C.d h) ht (fun z => kt z r H locs cells slots ls hP hD hS hL hF hc hs hl) (fun z => kf z r H locs cells slots ls hP hD hS hL hF hc hs hl)
theorem x_if_lt (C : aj_C G cc tbl own R0 nL) (k : Nat) {x : Int32} {off : Int} {t : Nat} (h : tbl[k]? = some (pc, .ifCond .lt off, 3)) (ht : (pc : Int) + off = (t : Int)) (hq : pc + 3 = q) (kt : (x < 0) → aj_X G t lv st I J V N L bc bs) (kf : ¬ (x < 0) → aj_X G q lv st I J V N L bc bs) : aj_X G pc lv (.int x :: st) I J V N L bc bs := by
  subst hq
  intro r H locs cells slots ls hP hD hS hL hF hc hs hl
  exact lv_if_lt C.x C.b (C.d h) ht (fun z => kt z r H locs cells slots ls hP hD hS hL hF hc hs hl) (fun z => kf z r H locs cells slots ls hP hD hS hL hF hc hs hl)
theorem x_if_ge (C : aj_C G cc tbl own R0 nL) (k : Nat) {x : Int32} {off : Int} {t : Nat} (h : tbl[k]? = some (pc, .ifCond .ge off, 3)) (ht : (pc : Int) + off = (t : Int)) (hq : pc + 3 = q) (kt : (0 ≤ x) → aj_X G t lv st I J V N L bc bs) (kf : ¬ (0 ≤ x) → aj_X G q lv st I J V N L bc bs) : aj_X G pc lv (.int x :: st) I J V N L bc bs := by
  subst hq
  intro r H locs cells slots ls hP hD hS hL hF hc hs hl
  exact lv_if_ge C.x C.b (C.d h) ht (fun z => kt z r H locs cells slots ls hP hD hS hL hF hc hs hl) (fun z => kf z r H locs cells slots ls hP hD hS hL hF hc hs hl)
theorem x_if_gt (C : aj_C G cc tbl own R0 nL) (k : Nat) {x : Int32} {off : Int} {t : Nat} (h : tbl[k]? = some (pc, .ifCond .gt off, 3)) (ht : (pc : Int) + off = (t : Int)) (hq : pc + 3 = q) (kt : (0 < x) → aj_X G t lv st I J V N L bc bs) (kf : ¬ (0 < x) → aj_X G q lv st I J V N L bc bs) : aj_X G pc lv (.int x :: st) I J V N L bc bs := by
  subst hq
  intro r H locs cells slots ls hP hD hS hL hF hc hs hl
  exact lv_if_gt C.x C.b (C.d h) ht (fun z => kt z r H locs cells slots ls hP hD hS hL hF hc hs hl) (fun z => kf z r H locs cells slots ls hP hD hS hL hF hc hs hl)
theorem x_if_le (C : aj_C G cc tbl own R0 nL) (k : Nat) {x : Int32} {off : Int} {t : Nat} (h : tbl[k]? = some (pc, .ifCond .le off, 3)) (ht : (pc : Int) + off = (t : Int)) (hq : pc + 3 = q) (kt : (x ≤ 0) → aj_X G t lv st I J V N L bc bs) (kf : ¬ (x ≤ 0) → aj_X G q lv st I J V N L bc bs) : aj_X G pc lv (.int x :: st) I J V N L bc bs := by
  subst hq
  intro r H locs cells slots ls hP hD hS hL hF hc hs hl
  exact lv_if_le C.x C.b (C.d h) ht (fun z => kt z r H locs cells slots ls hP hD hS hL hF hc hs hl) (fun z => kf z r H locs cells slots ls hP hD hS hL hF hc hs hl)
theorem x_icmp_eq (C : aj_C G cc tbl own R0 nL) (k : Nat) {x y : Int32} {off : Int} {t : Nat} (h : tbl[k]? = some (pc, .if_icmp .eq off, 3)) (ht : (pc : Int) + off = (t : Int)) (hq : pc + 3 = q) (kt : (x = y) → aj_X G t lv st I J V N L bc bs) (kf : ¬ (x = y) → aj_X G q lv st I J V N L bc bs) : aj_X G pc lv (.int y :: .int x :: st) I J V N L bc bs := by
  subst hq
  intro r H locs cells slots ls hP hD hS hL hF hc hs hl
  exact lv_icmp_eq C.x C.b (C.d h) ht (fun z => kt z r H locs cells slots ls hP hD hS hL hF hc hs hl) (fun z => kf z r H locs cells slots ls hP hD hS hL hF hc hs hl)
theorem x_icmp_ne (C : aj_C G cc tbl own R0 nL) (k : Nat) {x y : Int32} {off : Int} {t : Nat} (h : tbl[k]? = some (pc, .if_icmp .ne off, 3)) (ht : (pc : Int) + off = (t : Int)) (hq : pc + 3 = q) (kt : (¬ x = y) → aj_X G t lv st I J V N L bc bs) (kf : x = y → aj_X G q lv st I J V N L bc bs) : aj_X G pc lv (.int y :: .int x :: st) I J V N L bc bs := by
  subst hq
  intro r H locs cells slots ls hP hD hS hL hF hc hs hl
  exact lv_icmp_ne C.x C.b (C.d h) ht (fun z => kt z r H locs cells slots ls hP hD hS hL hF hc hs hl) (fun z => kf z r H locs cells slots ls hP hD hS hL hF hc hs hl)
theorem x_icmp_lt (C : aj_C G cc tbl own R0 nL) (k : Nat) {x y : Int32} {off : Int} {t : Nat} (h : tbl[k]? = some (pc, .if_icmp .lt off, 3)) (ht : (pc : Int) + off = (t : Int)) (hq : pc + 3 = q) (kt : (x < y) → aj_X G t lv st I J V N L bc bs) (kf : ¬ (x < y) → aj_X G q lv st I J V N L bc bs) : aj_X G pc lv (.int y :: .int x :: st) I J V N L bc bs := by
  subst hq
  intro r H locs cells slots ls hP hD hS hL hF hc hs hl
  exact lv_icmp_lt C.x C.b (C.d h) ht (fun z => kt z r H locs cells slots ls hP hD hS hL hF hc hs hl) (fun z => kf z r H locs cells slots ls hP hD hS hL hF hc hs hl)
theorem x_icmp_ge (C : aj_C G cc tbl own R0 nL) (k : Nat) {x y : Int32} {off : Int} {t : Nat} (h : tbl[k]? = some (pc, .if_icmp .ge off, 3)) (ht : (pc : Int) + off = (t : Int)) (hq : pc + 3 = q) (kt : (y ≤ x) → aj_X G t lv st I J V N L bc bs) (kf : ¬ (y ≤ x) → aj_X G q lv st I J V N L bc bs) : aj_X G pc lv (.int y :: .int x :: st) I J V N L bc bs := by
  subst hq
  intro r H locs cells slots ls hP hD hS hL hF hc hs hl
  exact lv_icmp_ge C.x C.b (C.d h) ht (fun z => kt z r H locs cells slots ls hP hD hS hL hF hc hs hl) (fun z => kf z r H locs cells slots ls hP hD hS hL hF hc hs hl)
theorem x_icmp_gt (C : aj_C G cc tbl own R0 nL) (k : Nat) {x y : Int32} {off : Int} {t : Nat} (h : tbl[k]? = some (pc, .if_icmp .gt off, 3)) (ht : (pc : Int) + off = (t : Int)) (hq : pc + 3 = q) (kt : (y < x) → aj_X G t lv st I J V N L bc bs) (kf : ¬ (y < x) → aj_X G q lv st I J V N L bc bs) : aj_X G pc lv (.int y :: .int x :: st) I J V N L bc bs := by
  subst hq
  intro r H locs cells slots ls hP hD hS hL hF hc hs hl
  exact lv_icmp_gt C.x C.b (C.d h) ht (fun z => kt z r H locs cells slots ls hP hD hS hL hF hc hs hl) (fun z => kf z r H locs cells slots ls hP hD hS hL hF hc hs hl)
theorem x_icmp_le (C : aj_C G cc tbl own R0 nL) (k : Nat) {x y : Int32} {off : Int} {t : Nat} (h : tbl[k]? = some (pc, .if_icmp .le off, 3)) (ht : (pc : Int) + off = (t : Int)) (hq : pc + 3 = q) (kt : (x ≤ y) → aj_X G t lv st I J V N L bc bs) (kf : ¬ (x ≤ y) → aj_X G q lv st I J V N L bc bs) : aj_X G pc lv (.int y :: .int x :: st) I J V N L bc bs := by
  subst hq
  intro r H locs cells slots ls hP hD hS hL hF hc hs hl
  exact lv_icmp_le C.x C.b (C.d h) ht (fun z => kt z r H locs cells slots ls hP hD hS hL hF hc hs hl) (fun z => kf z r H locs cells slots ls hP hD hS hL hF hc hs hl)
theorem x_goto (C : aj_C G cc tbl own R0 nL) (k : Nat) {off : Int} {t : Nat} (h : tbl[k]? = some (pc, .goto off, 3)) (ht : (pc : Int) + off = (t : Int)) (kk : aj_X G t lv st I J V N L bc bs) : aj_X G pc lv st I J V N L bc bs := aj_pure (fun r H locs cells slots ls hl w => lv_goto C.x C.b (C.d h) ht w) kk
theorem x_istore (C : aj_C G cc tbl own R0 nL) (k : Nat) {i : Nat} {x : Int32} (h : tbl[k]? = some (pc, .istore i, 2)) (hq : pc + 2 = q) (hn : (i : Nat) < nL) (hnl : aj_nl lv i) (hlv : lv.set (i : Nat) (some (.int x)) = lv') (kk : aj_X G q lv' st I J V N L bc bs) : aj_X G pc lv (.int x :: st) I J V N L bc bs := by
  subst hq
  subst hlv
  intro r H locs cells slots ls hP hD hS hL hF hc hs hl
  exact lv_istore C.x C.b (C.d h) hl (by rw [C.n]; exact hn) rfl (fun ls' hl' => kk r H locs cells slots ls' hP hD hS hL hF hc hs (aj_set1 hnl hl'))
theorem x_istore_n (C : aj_C G cc tbl own R0 nL) (k : Nat) {i : Fin 4} {x : Int32} (h : tbl[k]? = some (pc, .istore_n i, 1)) (hq : pc + 1 = q) (hn : (i : Nat) < nL) (hnl : aj_nl lv i) (hlv : lv.set (i : Nat) (some (.int x)) = lv') (kk : aj_X G q lv' st I J V N L bc bs) : aj_X G pc lv (.int x :: st) I J V N L bc bs := by
  subst hq
  subst hlv
  intro r H locs cells slots ls hP hD hS hL hF hc hs hl
  exact lv_istore_n C.x C.b (C.d h) rfl hl (by rw [C.n]; exact hn) rfl (fun ls' hl' => kk r H locs cells slots ls' hP hD hS hL hF hc hs (aj_set1 hnl hl'))
theorem x_astore (C : aj_C G cc tbl own R0 nL) (k : Nat) {i : Nat} {x : Nat} (h : tbl[k]? = some (pc, .astore i, 2)) (hq : pc + 2 = q) (hn : (i : Nat) < nL) (hnl : aj_nl lv i) (hlv : lv.set (i : Nat) (some (.ref x)) = lv') (kk : aj_X G q lv' st I J V N L bc bs) : aj_X G pc lv (.ref x :: st) I J V N L bc bs := by
  subst hq
  subst hlv
  intro r H locs cells slots ls hP hD hS hL hF hc hs hl
  exact lv_astore C.x C.b (C.d h) hl (by rw [C.n]; exact hn) rfl (fun ls' hl' => kk r H locs cells slots ls' hP hD hS hL hF hc hs (aj_set1 hnl hl'))
theorem x_astore_n (C : aj_C G cc tbl own R0 nL) (k : Nat) {i : Fin 4} {x : Nat} (h : tbl[k]? = some (pc, .astore_n i, 1)) (hq : pc + 1 = q) (hn : (i : Nat) < nL) (hnl : aj_nl lv i) (hlv : lv.set (i : Nat) (some (.ref x)) = lv') (kk : aj_X G q lv' st I J V N L bc bs) : aj_X G pc lv (.ref x :: st) I J V N L bc bs := by
  subst hq
  subst hlv
  intro r H locs cells slots ls hP hD hS hL hF hc hs hl
  exact lv_astore_n C.x C.b (C.d h) rfl hl (by rw [C.n]; exact hn) rfl (fun ls' hl' => kk r H locs cells slots ls' hP hD hS hL hF hc hs (aj_set1 hnl hl'))
theorem x_lstore (C : aj_C G cc tbl own R0 nL) (k : Nat) {i : Nat} {x : Int64} (h : tbl[k]? = some (pc, .lstore i, 2)) (hq : pc + 2 = q) (hn : (i : Nat) + 1 < nL) (hnl : aj_nl lv i) (hlv : (lv.set (i : Nat) (some (.long x))).set (i + 1) none = lv') (kk : aj_X G q lv' st I J V N L bc bs) : aj_X G pc lv (.long x :: st) I J V N L bc bs := by
  subst hq
  subst hlv
  intro r H locs cells slots ls hP hD hS hL hF hc hs hl
  exact lv_lstore C.x C.b (C.d h) hl (by rw [C.n]; exact hn) rfl (fun ls' hl' => kk r H locs cells slots ls' hP hD hS hL hF hc hs (aj_set2 hnl hl'))
theorem x_lstore_n (C : aj_C G cc tbl own R0 nL) (k : Nat) {i : Fin 4} {x : Int64} (h : tbl[k]? = some (pc, .lstore_n i, 1)) (hq : pc + 1 = q) (hn : (i : Nat) + 1 < nL) (hnl : aj_nl lv i) (hlv : (lv.set (i : Nat) (some (.long x))).set (i + 1) none = lv') (kk : aj_X G q lv' st I J V N L bc bs) : aj_X G pc lv (.long x :: st) I J V N L bc bs := by
  subst hq
  subst hlv
  intro r H locs cells slots ls hP hD hS hL hF hc hs hl
  exact lv_lstore_n C.x C.b (C.d h) rfl hl (by rw [C.n]; exact hn) rfl (fun ls' hl' => kk r H locs cells slots ls' hP hD hS hL hF hc hs (aj_set2 hnl hl'))
end RW
end AJ
end
section
section AJ2
variable {G : aj_G} {cc : ByteArray} {tbl : List (Nat × Instr × Nat)} {own : String} {R0 : Room} {nL : Nat} {pc q : Nat} {lv lv' : List (Option Value)} {st st' : List Value} {I : Nat → Nat → Int32} {J : Nat → Nat → Int64} {V : Nat → Nat → Option Nat} {N : Nat → Nat} {L : List Nat} {bc bs : Nat}
-- THE HEAP'S ROWS
def aj_FL (own : String) (idx ci kk : Nat) : Prop := ci < 7 ∧ kk < aj_n ci ∧ Cond.fieldLink own idx (aj_T ci kk).1 (aj_T ci kk).2.1 (aj_T ci kk).2.2.1 ∈ aj_TB
theorem aj_el_obj {cs : Nat → ClassId} {r : Nat → Nat} {i ci : Nat} (hi : i % 16 = ci) (hc : ci < 7) : aj_el cs r I J V N i = .inr (ci, (List.range (aj_n ci)).map (fun k => aj_fv r I J V i k (aj_ty ci k))) := by
  subst hi; unfold aj_el; rw [if_pos hc]
theorem aj_el_int {cs : Nat → ClassId} {r : Nat → Nat} {i : Nat} (hi : i % 16 = 8) : aj_el cs r I J V N i = .inl (cs 0, (N i, .inl (I i))) := by
  unfold aj_el; rw [hi]; rfl
theorem aj_el_long {cs : Nat → ClassId} {r : Nat → Nat} {i : Nat} (hi : i % 16 = 9) : aj_el cs r I J V N i = .inl (cs 1, (N i, .inr (.inl (J i)))) := by
  unfold aj_el; rw [hi]; rfl
theorem aj_el_byte {cs : Nat → ClassId} {r : Nat → Nat} {i : Nat} (hi : i % 16 = 10) : aj_el cs r I J V N i = .inl (cs 2, (N i, .inl (I i))) := by
  unfold aj_el; rw [hi]; rfl
theorem aj_el_refs {cs : Nat → ClassId} {r : Nat → Nat} {i : Nat} (hi : i % 16 = 11) : aj_el cs r I J V N i = .inl (cs 3, (N i, .inr (.inr (.inr (.inr (fun j => (V i j).map r)))))) := by
  unfold aj_el; rw [hi]; rfl
theorem aj_fs_at {α : Type} (f : Nat → α) {n k : Nat} (h : k < n) : ((List.range n).map f)[k]? = some (f k) := by
  rw [List.getElem?_map, List.getElem?_range h]; rfl
theorem aj_fs_set {α : Type} (f g : Nat → α) {n k : Nat} {v : α} (hk : g k = v) (ho : ∀ j, j ≠ k → g j = f j) : ((List.range n).map f).set k v = (List.range n).map g := by
  refine List.ext_getElem? (fun a => ?_)
  by_cases ha : k = a
  · subst ha
    by_cases hl : k < n
    · rw [List.getElem?_set_self (by simpa using hl), aj_fs_at g hl, hk]
    · rw [List.getElem?_eq_none (by simpa using Nat.le_of_not_lt hl), List.getElem?_eq_none (by simpa using Nat.le_of_not_lt hl)]
  · rw [List.getElem?_set_ne ha]
    by_cases hl : a < n
    · rw [aj_fs_at f hl, aj_fs_at g hl, ho a (Ne.symm ha)]
    · rw [List.getElem?_eq_none (by simpa using Nat.le_of_not_lt hl), List.getElem?_eq_none (by simpa using Nat.le_of_not_lt hl)]
theorem x_getI (C : aj_C G cc tbl own R0 nL) (k : Nat) {idx i ci kf : Nat} (h : tbl[k]? = some (pc, .getfield idx, 3)) (hq : pc + 3 = q) (hw : aj_FL own idx ci kf) (hty : ∀ r i, aj_fv r I J V i kf (aj_ty ci kf) = .int (I i kf)) (hi : i % 16 = ci) (hL : i ∈ L) (kk : aj_X G q lv (.int (I i kf) :: st) I J V N L bc bs) : aj_X G pc lv (.ref i :: st) I J V N L bc bs := by
  subst hq
  intro r H locs cells slots ls hP hD hS hLL hF hc hs hl
  obtain ⟨k0, hk0, he⟩ := aj_ws_at (cs := gcs G) (r := r) (I := I) (J := J) (V := V) (N := N) hL
  rw [aj_el_obj hi hw.1] at he
  exact va_get C.x C.b C.ts (aj_cl_in ci hw.1) C.o C.k hP k0 he (aj_cl ci hw.1) kf hw.2.1 (C.ts _ hw.2.2) (fun _ z => z) ((aj_fs_at _ hw.2.1).trans (congrArg some (hty r i))) (C.d h) (kk r H locs cells slots ls hP hD hS hLL hF hc hs hl)
theorem x_getJ (C : aj_C G cc tbl own R0 nL) (k : Nat) {idx i ci kf : Nat} (h : tbl[k]? = some (pc, .getfield idx, 3)) (hq : pc + 3 = q) (hw : aj_FL own idx ci kf) (hty : ∀ r i, aj_fv r I J V i kf (aj_ty ci kf) = .long (J i kf)) (hi : i % 16 = ci) (hL : i ∈ L) (kk : aj_X G q lv (.long (J i kf) :: st) I J V N L bc bs) : aj_X G pc lv (.ref i :: st) I J V N L bc bs := by
  subst hq
  intro r H locs cells slots ls hP hD hS hLL hF hc hs hl
  obtain ⟨k0, hk0, he⟩ := aj_ws_at (cs := gcs G) (r := r) (I := I) (J := J) (V := V) (N := N) hL
  rw [aj_el_obj hi hw.1] at he
  exact va_get C.x C.b C.ts (aj_cl_in ci hw.1) C.o C.k hP k0 he (aj_cl ci hw.1) kf hw.2.1 (C.ts _ hw.2.2) (fun _ z => z) ((aj_fs_at _ hw.2.1).trans (congrArg some (hty r i))) (C.d h) (kk r H locs cells slots ls hP hD hS hLL hF hc hs hl)
theorem x_getR (C : aj_C G cc tbl own R0 nL) (k : Nat) {idx i ci kf a : Nat} (h : tbl[k]? = some (pc, .getfield idx, 3)) (hq : pc + 3 = q) (hw : aj_FL own idx ci kf) (hv : V i kf = some a) (hty : ∀ r i, aj_fv r I J V i kf (aj_ty ci kf) = va_rf ((V i kf).map r)) (hi : i % 16 = ci) (hL : i ∈ L) (kk : aj_X G q lv (.ref a :: st) I J V N L bc bs) : aj_X G pc lv (.ref i :: st) I J V N L bc bs := by
  subst hq
  intro r H locs cells slots ls hP hD hS hLL hF hc hs hl
  obtain ⟨k0, hk0, he⟩ := aj_ws_at (cs := gcs G) (r := r) (I := I) (J := J) (V := V) (N := N) hL
  rw [aj_el_obj hi hw.1] at he
  exact va_get C.x C.b C.ts (aj_cl_in ci hw.1) C.o C.k hP k0 he (aj_cl ci hw.1) kf hw.2.1 (C.ts _ hw.2.2) (fun _ z => z) ((aj_fs_at _ hw.2.1).trans (congrArg some ((hty r i).trans (by rw [hv]; rfl)))) (C.d h) (kk r H locs cells slots ls hP hD hS hLL hF hc hs hl)
/-- a written field: what the world is then -/
theorem aj_put_ws {cs : Nat → ClassId} {r : Nat → Nat} {I' : Nat → Nat → Int32} {J' : Nat → Nat → Int64} {V' : Nat → Nat → Option Nat} {A : Nat → Prop} {i ci kf k0 : Nat} {v : Value} (hD : va_D A (aj_ws cs r I J V N L)) (hk0 : L[k0]? = some i) (hi : i % 16 = ci) (hc : ci < 7)
    (hI : ∀ a b, ¬ (a = i ∧ b = kf) → I' a b = I a b) (hJ : ∀ a b, ¬ (a = i ∧ b = kf) → J' a b = J a b) (hV : ∀ a b, ¬ (a = i ∧ b = kf) → V' a b = V a b) (hv : aj_fv r I' J' V' i kf (aj_ty ci kf) = v) :
    (aj_ws cs r I J V N L).set k0 (r i, .inr (ci, ((List.range (aj_n ci)).map (fun k => aj_fv r I J V i k (aj_ty ci k))).set kf v)) = aj_ws cs r I' J' V' N L := by
  rw [aj_fs_set (fun k => aj_fv r I J V i k (aj_ty ci k)) (fun k => aj_fv r I' J' V' i k (aj_ty ci k)) hv (fun j hj => aj_fv_congr (hI i j (fun z => hj z.2)) (hJ i j (fun z => hj z.2)) (hV i j (fun z => hj z.2)))]
  rw [← aj_el_obj (cs := cs) (r := r) (I := I') (J := J') (V := V') (N := N) hi hc]
  exact aj_ws_set hD hk0 (fun j hj => aj_el_congr (funext fun b => hI j b (fun z => hj z.1)) (funext fun b => hJ j b (fun z => hj z.1)) (funext fun b => hV j b (fun z => hj z.1)) rfl)
theorem x_putI (C : aj_C G cc tbl own R0 nL) (k : Nat) {idx i ci kf : Nat} {x : Int32} (h : tbl[k]? = some (pc, .putfield idx, 3)) (hq : pc + 3 = q) (hw : aj_FL own idx ci kf) (hfin : (aj_T ci kf).2.2.2 = false) (hty : aj_ty ci kf = .int) (hi : i % 16 = ci) (hL : i ∈ L) (kk : aj_X G q lv st (aj_u I i kf x) J V N L bc bs) : aj_X G pc lv (.int x :: .ref i :: st) I J V N L bc bs := by
  subst hq
  intro r H locs cells slots ls hP hD hS hLL hF hc hs hl
  obtain ⟨k0, hk0, he⟩ := aj_ws_at (cs := gcs G) (r := r) (I := I) (J := J) (V := V) (N := N) hL
  rw [aj_el_obj hi hw.1] at he
  have hws := aj_put_ws (r := r) (cs := gcs G) (I' := aj_u I i kf x) (J' := J) (V' := V) (v := .int x) hD hk0 hi hw.1 (fun a b z => aj_u_n I x z) (fun a b z => rfl) (fun a b z => rfl) (by rw [hty]; exact congrArg Value.int (aj_u_s I i kf x))
  refine va_put C.x C.b C.ts (aj_cl_in ci hw.1) (aj_ty ci) (aj_tyok ci hw.1) (aj_nm ci hw.1) C.o C.k hP hD hS k0 he (aj_cl ci hw.1) kf hw.2.1 (C.ts _ hw.2.2) (fun _ z => z) hfin (ty := .int) (by rw [aj_tyok ci hw.1 kf hw.2.1, hty]) rfl rfl (by rw [List.length_map, List.length_range]; exact hw.2.1) (C.d h) (fun H1 locs1 hP1 hD1 hS1 => ?_)
  have hP1 : va_P (gD G) vwCl (aj_ws (gcs G) r (aj_u I i kf x) J V N L) H1 := by rw [← hws]; exact hP1
  have hD1 : va_D (gA G) (aj_ws (gcs G) r (aj_u I i kf x) J V N L) := by rw [← hws]; exact hD1
  exact kk r H1 locs1 cells slots ls hP1 hD1 hS1 hLL hF hc hs hl
theorem x_putR (C : aj_C G cc tbl own R0 nL) (k : Nat) {idx i ci kf a : Nat} (h : tbl[k]? = some (pc, .putfield idx, 3)) (hq : pc + 3 = q) (hw : aj_FL own idx ci kf) (hfin : (aj_T ci kf).2.2.2 = false) (hty : ∀ r V i, aj_fv r I J V i kf (aj_ty ci kf) = va_rf ((V i kf).map r)) (hnar : ∀ x, narrow (aj_ty ci kf) (.ref x) = .ref x) (hfit : ∀ x, fits (aj_ty ci kf) (.ref x) = true) (hi : i % 16 = ci) (hL : i ∈ L) (kk : aj_X G q lv st I J (aj_u V i kf (some a)) N L bc bs) : aj_X G pc lv (.ref a :: .ref i :: st) I J V N L bc bs := by
  subst hq
  intro r H locs cells slots ls hP hD hS hLL hF hc hs hl
  obtain ⟨k0, hk0, he⟩ := aj_ws_at (cs := gcs G) (r := r) (I := I) (J := J) (V := V) (N := N) hL
  rw [aj_el_obj hi hw.1] at he
  have hws := aj_put_ws (r := r) (cs := gcs G) (I' := I) (J' := J) (V' := aj_u V i kf (some a)) (v := .ref (r a)) hD hk0 hi hw.1 (fun a b z => rfl) (fun a b z => rfl) (fun a b z => aj_u_n V _ z) (by rw [hty, aj_u_s]; rfl)
  refine va_put C.x C.b C.ts (aj_cl_in ci hw.1) (aj_ty ci) (aj_tyok ci hw.1) (aj_nm ci hw.1) C.o C.k hP hD hS k0 he (aj_cl ci hw.1) kf hw.2.1 (C.ts _ hw.2.2) (fun _ z => z) hfin (ty := aj_ty ci kf) (aj_tyok ci hw.1 kf hw.2.1) (hnar _) (hfit _) (by rw [List.length_map, List.length_range]; exact hw.2.1) (C.d h) (fun H1 locs1 hP1 hD1 hS1 => ?_)
  have hP1 : va_P (gD G) vwCl (aj_ws (gcs G) r I J (aj_u V i kf (some a)) N L) H1 := by rw [← hws]; exact hP1
  have hD1 : va_D (gA G) (aj_ws (gcs G) r I J (aj_u V i kf (some a)) N L) := by rw [← hws]; exact hD1
  exact kk r H1 locs1 cells slots ls hP1 hD1 hS1 hLL hF hc hs hl
theorem x_putF (C : aj_C G cc tbl own R0 nL) (k : Nat) {idx i ci kf a : Nat} (h : tbl[k]? = some (pc, .putfield idx, 3)) (hq : pc + 3 = q) (hw : aj_FL own idx ci kf) (hfin : (aj_T ci kf).2.2.2 = true) (hin : (gt G).name = "<init>") (hdecl : (aj_T ci kf).1 = own) (hty : ∀ r V i, aj_fv r I J V i kf (aj_ty ci kf) = va_rf ((V i kf).map r)) (hnar : ∀ x, narrow (aj_ty ci kf) (.ref x) = .ref x) (hfit : ∀ x, fits (aj_ty ci kf) (.ref x) = true) (hi : i % 16 = ci) (hL : i ∈ L) (kk : aj_X G q lv st I J (aj_u V i kf (some a)) N L bc bs) : aj_X G pc lv (.ref a :: .ref i :: st) I J V N L bc bs := by
  subst hq
  intro r H locs cells slots ls hP hD hS hLL hF hc hs hl
  obtain ⟨k0, hk0, he⟩ := aj_ws_at (cs := gcs G) (r := r) (I := I) (J := J) (V := V) (N := N) hL
  rw [aj_el_obj hi hw.1] at he
  have hws := aj_put_ws (r := r) (cs := gcs G) (I' := I) (J' := J) (V' := aj_u V i kf (some a)) (v := .ref (r a)) hD hk0 hi hw.1 (fun a b z => rfl) (fun a b z => rfl) (fun a b z => aj_u_n V _ z) (by rw [hty, aj_u_s]; rfl)
  refine va_putF C.x C.b C.ts (aj_cl_in ci hw.1) (aj_ty ci) (aj_tyok ci hw.1) (aj_nm ci hw.1) C.o C.k hP hD hS k0 he (aj_cl ci hw.1) kf hw.2.1 (C.ts _ hw.2.2) (fun _ z => z) hfin hin hdecl (ty := aj_ty ci kf) (aj_tyok ci hw.1 kf hw.2.1) (hnar _) (hfit _) (by rw [List.length_map, List.length_range]; exact hw.2.1) (C.d h) (fun H1 locs1 hP1 hD1 hS1 => ?_)
  have hP1 : va_P (gD G) vwCl (aj_ws (gcs G) r I J (aj_u V i kf (some a)) N L) H1 := by rw [← hws]; exact hP1
  have hD1 : va_D (gA G) (aj_ws (gcs G) r I J (aj_u V i kf (some a)) N L) := by rw [← hws]; exact hD1
  exact kk r H1 locs1 cells slots ls hP1 hD1 hS1 hLL hF hc hs hl
theorem aj_upd_u {α : Type} (f : Nat → Nat → α) (i j : Nat) (x : α) (g : Nat → α) (hg : ∀ b, g b = if b = j then x else f i b) : aj_u f i j x i = g := by
  funext b
  rw [hg]
  unfold aj_u
  by_cases h : b = j
  · rw [if_pos ⟨rfl, h⟩, if_pos h]
  · rw [if_neg (fun z => h z.2), if_neg h]
theorem x_iald (C : aj_C G cc tbl own R0 nL) (k : Nat) {i : Nat} {j : Int32} (h : tbl[k]? = some (pc, .iaload, 1)) (hq : pc + 1 = q) (hi : i % 16 = 8) (hL : i ∈ L) (hin : vp_in j (N i)) (kk : aj_X G q lv (.int (I i j.toNatClampNeg) :: st) I J V N L bc bs) : aj_X G pc lv (.int j :: .ref i :: st) I J V N L bc bs := by
  subst hq
  intro r H locs cells slots ls hP hD hS hLL hF hc hs hl
  obtain ⟨k0, hk0, he⟩ := aj_ws_at (cs := gcs G) (r := r) (I := I) (J := J) (V := V) (N := N) hL
  rw [aj_el_int hi] at he
  exact va_iald C.x C.b C.k hP k0 0 he rfl hin (C.d h) (kk r H locs cells slots ls hP hD hS hLL hF hc hs hl)
theorem x_iast (C : aj_C G cc tbl own R0 nL) (k : Nat) {i : Nat} {j x : Int32} (h : tbl[k]? = some (pc, .iastore, 1)) (hq : pc + 1 = q) (hi : i % 16 = 8) (hL : i ∈ L) (hin : vp_in j (N i)) (kk : aj_X G q lv st (aj_u I i j.toNatClampNeg x) J V N L bc bs) : aj_X G pc lv (.int x :: .int j :: .ref i :: st) I J V N L bc bs := by
  subst hq
  intro r H locs cells slots ls hP hD hS hLL hF hc hs hl
  obtain ⟨k0, hk0, he⟩ := aj_ws_at (cs := gcs G) (r := r) (I := I) (J := J) (V := V) (N := N) hL
  rw [aj_el_int hi] at he
  have hws : (aj_ws (gcs G) r I J V N L).set k0 (r i, .inl (gcs G 0, N i, .inl (upd (I i) j.toNatClampNeg x))) = aj_ws (gcs G) r (aj_u I i j.toNatClampNeg x) J V N L := by
    rw [← aj_ws_set (I' := aj_u I i j.toNatClampNeg x) hD hk0 (fun a ha => aj_el_congr (aj_u_o I x ha) rfl rfl rfl), aj_el_int hi, aj_upd_u I i j.toNatClampNeg x (upd (I i) j.toNatClampNeg x) (fun b => rfl)]
  refine va_iast C.x C.b C.k hP hD hS k0 0 he rfl hin (C.d h) (fun H1 locs1 hP1 hD1 hS1 => ?_)
  rw [hws] at hP1 hD1
  exact kk r H1 locs1 cells slots ls hP1 hD1 hS1 hLL hF hc hs hl
theorem x_lald (C : aj_C G cc tbl own R0 nL) (k : Nat) {i : Nat} {j : Int32} (h : tbl[k]? = some (pc, .laload, 1)) (hq : pc + 1 = q) (hi : i % 16 = 9) (hL : i ∈ L) (hin : vp_in j (N i)) (kk : aj_X G q lv (.long (J i j.toNatClampNeg) :: st) I J V N L bc bs) : aj_X G pc lv (.int j :: .ref i :: st) I J V N L bc bs := by
  subst hq
  intro r H locs cells slots ls hP hD hS hLL hF hc hs hl
  obtain ⟨k0, hk0, he⟩ := aj_ws_at (cs := gcs G) (r := r) (I := I) (J := J) (V := V) (N := N) hL
  rw [aj_el_long hi] at he
  exact va_lald C.x C.b C.k hP k0 1 he rfl hin (C.d h) (kk r H locs cells slots ls hP hD hS hLL hF hc hs hl)
theorem x_last (C : aj_C G cc tbl own R0 nL) (k : Nat) {i : Nat} {j : Int32} {x : Int64} (h : tbl[k]? = some (pc, .lastore, 1)) (hq : pc + 1 = q) (hi : i % 16 = 9) (hL : i ∈ L) (hin : vp_in j (N i)) (kk : aj_X G q lv st I (aj_u J i j.toNatClampNeg x) V N L bc bs) : aj_X G pc lv (.long x :: .int j :: .ref i :: st) I J V N L bc bs := by
  subst hq
  intro r H locs cells slots ls hP hD hS hLL hF hc hs hl
  obtain ⟨k0, hk0, he⟩ := aj_ws_at (cs := gcs G) (r := r) (I := I) (J := J) (V := V) (N := N) hL
  rw [aj_el_long hi] at he
  have hws : (aj_ws (gcs G) r I J V N L).set k0 (r i, .inl (gcs G 1, N i, .inr (.inl (vp_updL (J i) j.toNatClampNeg x)))) = aj_ws (gcs G) r I (aj_u J i j.toNatClampNeg x) V N L := by
    rw [← aj_ws_set (J' := aj_u J i j.toNatClampNeg x) hD hk0 (fun a ha => aj_el_congr rfl (aj_u_o J x ha) rfl rfl), aj_el_long hi, aj_upd_u J i j.toNatClampNeg x (vp_updL (J i) j.toNatClampNeg x) (fun b => rfl)]
  refine va_last C.x C.b C.k hP hD hS k0 1 he rfl hin (C.d h) (fun H1 locs1 hP1 hD1 hS1 => ?_)
  rw [hws] at hP1 hD1
  exact kk r H1 locs1 cells slots ls hP1 hD1 hS1 hLL hF hc hs hl
theorem x_aald (C : aj_C G cc tbl own R0 nL) (k : Nat) {i a : Nat} {j : Int32} (h : tbl[k]? = some (pc, .aaload, 1)) (hq : pc + 1 = q) (hi : i % 16 = 11) (hL : i ∈ L) (hin : vp_in j (N i)) (hv : V i j.toNatClampNeg = some a) (kk : aj_X G q lv (.ref a :: st) I J V N L bc bs) : aj_X G pc lv (.int j :: .ref i :: st) I J V N L bc bs := by
  subst hq
  intro r H locs cells slots ls hP hD hS hLL hF hc hs hl
  obtain ⟨k0, hk0, he⟩ := aj_ws_at (cs := gcs G) (r := r) (I := I) (J := J) (V := V) (N := N) hL
  rw [aj_el_refs hi] at he
  refine va_aldq C.x C.b C.k hP k0 3 he rfl hin (C.d h) ?_
  have hw := kk r H locs cells slots ls hP hD hS hLL hF hc hs hl
  have e : va_rf ((V i j.toNatClampNeg).map r) = .ref (r a) := by rw [hv]; rfl
  rw [e]
  exact hw
theorem x_aast (C : aj_C G cc tbl own R0 nL) (k : Nat) {i a : Nat} {j : Int32} (h : tbl[k]? = some (pc, .aastore, 1)) (hq : pc + 1 = q) (hi : i % 16 = 11) (hL : i ∈ L) (ha : a % 16 = 3) (haL : a ∈ L) (hin : vp_in j (N i)) (kk : aj_X G q lv st I J (aj_u V i j.toNatClampNeg (some a)) N L bc bs) : aj_X G pc lv (.ref a :: .int j :: .ref i :: st) I J V N L bc bs := by
  subst hq
  intro r H locs cells slots ls hP hD hS hLL hF hc hs hl
  obtain ⟨k0, hk0, he⟩ := aj_ws_at (cs := gcs G) (r := r) (I := I) (J := J) (V := V) (N := N) hL
  obtain ⟨k1, hk1, he1⟩ := aj_ws_at (cs := gcs G) (r := r) (I := I) (J := J) (V := V) (N := N) haL
  rw [aj_el_refs hi] at he
  rw [aj_el_obj ha (by decide)] at he1
  have hws : (aj_ws (gcs G) r I J V N L).set k0 (r i, .inl (gcs G 3, N i, .inr (.inr (.inr (.inr (va_up (fun j => (V i j).map r) j.toNatClampNeg (some (r a)))))))) = aj_ws (gcs G) r I J (aj_u V i j.toNatClampNeg (some a)) N L := by
    rw [← aj_ws_set (V' := aj_u V i j.toNatClampNeg (some a)) hD hk0 (fun b hb => aj_el_congr rfl rfl (aj_u_o V _ hb) rfl), aj_el_refs hi]
    have e : va_up (fun j => (V i j).map r) j.toNatClampNeg (some (r a)) = fun b => (aj_u V i j.toNatClampNeg (some a) i b).map r := by
      funext b
      unfold va_up aj_u
      by_cases hb : b = j.toNatClampNeg
      · rw [if_pos hb, if_pos ⟨rfl, hb⟩]; rfl
      · rw [if_neg hb, if_neg (fun z => hb z.2)]
    rw [e]
  refine va_astq C.x C.b C.k hP hD hS k0 3 k1 3 he rfl he1 (r := (aj_R 3, aj_T 3, aj_n 3)) (aj_cl 3 (by decide)) hin (C.d h) (fun H1 locs1 hP1 hD1 hS1 => ?_)
  rw [hws] at hP1 hD1
  exact kk r H1 locs1 cells slots ls hP1 hD1 hS1 hLL hF hc hs hl
theorem x_alen (C : aj_C G cc tbl own R0 nL) (k : Nat) {i : Nat} (h : tbl[k]? = some (pc, .arraylength, 1)) (hq : pc + 1 = q) (hi : i % 16 = 8) (hL : i ∈ L) (kk : aj_X G q lv (.int (Int32.ofNat (N i)) :: st) I J V N L bc bs) : aj_X G pc lv (.ref i :: st) I J V N L bc bs := by
  subst hq
  intro r H locs cells slots ls hP hD hS hLL hF hc hs hl
  obtain ⟨k0, hk0, he⟩ := aj_ws_at (cs := gcs G) (r := r) (I := I) (J := J) (V := V) (N := N) hL
  rw [aj_el_int hi] at he
  exact va_alen C.x C.b C.k hP k0 0 he rfl rfl (C.d h) (kk r H locs cells slots ls hP hD hS hLL hF hc hs hl)
end AJ2
end
section
section AJ3
variable {G : aj_G} {cc : ByteArray} {tbl : List (Nat × Instr × Nat)} {own : String} {R0 : Room} {nL : Nat} {pc q : Nat} {lv lv' : List (Option Value)} {st st' : List Value} {I : Nat → Nat → Int32} {J : Nat → Nat → Int64} {V : Nat → Nat → Option Nat} {N : Nat → Nat} {L : List Nat} {bc bs : Nat}
-- A private field of a nest mate (RaywalkLaw and its Out)
def aj_FN (own : String) (idx ci kf : Nat) (host : String) : Prop := ci < 7 ∧ kf < aj_n ci ∧ own = "RaywalkLaw" ∧ host = "RaywalkLaw" ∧ Cond.fieldLinkNest "RaywalkLaw" idx (aj_T ci kf).1 (aj_T ci kf).2.1 (aj_T ci kf).2.2.1 "RaywalkLaw" = .fieldLinkNest "RaywalkLaw" 13 "RaywalkLaw$Out" "n" "J" "RaywalkLaw"
theorem aj_fn_use (C : aj_C G cc tbl own R0 nL) {idx ci kf : Nat} {host : String} (hw : aj_FN own idx ci kf host) : (Cond.fieldLinkNest own idx (aj_T ci kf).1 (aj_T ci kf).2.1 (aj_T ci kf).2.2.1 host).before (ga G) (gs G) = true := by
  obtain ⟨-, -, rfl, rfl, h⟩ := hw
  rw [h]
  exact va_Nw.use rfl C.gw.2.2.2.1
theorem x_getJN (C : aj_C G cc tbl own R0 nL) (k : Nat) {idx i ci kf : Nat} {host : String} (h : tbl[k]? = some (pc, .getfield idx, 3)) (hq : pc + 3 = q) (hw : aj_FN own idx ci kf host) (hty : ∀ r i, aj_fv r I J V i kf (aj_ty ci kf) = .long (J i kf)) (hi : i % 16 = ci) (hL : i ∈ L) (kk : aj_X G q lv (.long (J i kf) :: st) I J V N L bc bs) : aj_X G pc lv (.ref i :: st) I J V N L bc bs := by
  subst hq
  intro r H locs cells slots ls hP hD hS hLL hF hc hs hl
  obtain ⟨k0, hk0, he⟩ := aj_ws_at (cs := gcs G) (r := r) (I := I) (J := J) (V := V) (N := N) hL
  rw [aj_el_obj hi hw.1] at he
  exact va_getN C.x C.b C.ts (aj_cl_in ci hw.1) C.o C.k hP k0 he (aj_cl ci hw.1) kf hw.2.1 (aj_fn_use C hw) (fun _ z => z) ((aj_fs_at _ hw.2.1).trans (congrArg some (hty r i))) (C.d h) (kk r H locs cells slots ls hP hD hS hLL hF hc hs hl)
theorem x_putJN (C : aj_C G cc tbl own R0 nL) (k : Nat) {idx i ci kf : Nat} {host : String} {x : Int64} (h : tbl[k]? = some (pc, .putfield idx, 3)) (hq : pc + 3 = q) (hw : aj_FN own idx ci kf host) (hfin : (aj_T ci kf).2.2.2 = false) (hty : aj_ty ci kf = .long) (hi : i % 16 = ci) (hL : i ∈ L) (kk : aj_X G q lv st I (aj_u J i kf x) V N L bc bs) : aj_X G pc lv (.long x :: .ref i :: st) I J V N L bc bs := by
  subst hq
  intro r H locs cells slots ls hP hD hS hLL hF hc hs hl
  obtain ⟨k0, hk0, he⟩ := aj_ws_at (cs := gcs G) (r := r) (I := I) (J := J) (V := V) (N := N) hL
  rw [aj_el_obj hi hw.1] at he
  have hws := aj_put_ws (r := r) (cs := gcs G) (I' := I) (J' := aj_u J i kf x) (V' := V) (v := .long x) hD hk0 hi hw.1 (fun a b z => rfl) (fun a b z => aj_u_n J x z) (fun a b z => rfl) (by rw [hty]; exact congrArg Value.long (aj_u_s J i kf x))
  refine va_putN C.x C.b C.ts (aj_cl_in ci hw.1) (aj_ty ci) (aj_tyok ci hw.1) (aj_nm ci hw.1) C.o C.k hP hD hS k0 he (aj_cl ci hw.1) kf hw.2.1 (aj_fn_use C hw) (fun _ z => z) hfin (ty := .long) (by rw [aj_tyok ci hw.1 kf hw.2.1, hty]) rfl rfl (by rw [List.length_map, List.length_range]; exact hw.2.1) (C.d h) (fun H1 locs1 hP1 hD1 hS1 => ?_)
  have hP1 : va_P (gD G) vwCl (aj_ws (gcs G) r I (aj_u J i kf x) V N L) H1 := by rw [← hws]; exact hP1
  have hD1 : va_D (gA G) (aj_ws (gcs G) r I (aj_u J i kf x) V N L) := by rw [← hws]; exact hD1
  exact kk r H1 locs1 cells slots ls hP1 hD1 hS1 hLL hF hc hs hl
-- MAKING. The new object takes the number a, which no live thing speaks of
def aj_z {α : Type} (f : Nat → Nat → α) (a : Nat) (z : α) : Nat → Nat → α := fun i k => if i = a then z else f i k
theorem aj_z_s {α : Type} (f : Nat → Nat → α) (a : Nat) (z : α) : aj_z f a z a = fun _ => z := funext fun _ => if_pos rfl
theorem aj_z_o {α : Type} (f : Nat → Nat → α) {a i : Nat} (z : α) (h : i ≠ a) : aj_z f a z i = f i := funext fun _ => if_neg h
/-- no value of the frame is the object a -/
def aj_no (a : Nat) (lv : List (Option Value)) (st : List Value) : Prop := (∀ v ∈ st, v ≠ .ref a) ∧ ∀ v ∈ lv, v ≠ some (.ref a)
theorem aj_v_ur {r : Nat → Nat} {a b : Nat} {v : Value} (h : v ≠ .ref a) : aj_v (aj_ur r a b) v = aj_v r v := by
  cases v with
  | ref x =>
    have hx : x ≠ a := fun e => h (by rw [e])
    show Value.ref (aj_ur r a b x) = _
    rw [aj_ur_n r b hx]; rfl
  | _ => rfl
theorem aj_st_ur {r : Nat → Nat} {a b : Nat} {st : List Value} (h : ∀ v ∈ st, v ≠ .ref a) : st.map (aj_v (aj_ur r a b)) = st.map (aj_v r) := List.map_congr_left (fun v hv => aj_v_ur (h v hv))
theorem aj_lvs_ur {r : Nat → Nat} {a b : Nat} : ∀ {lv : List (Option Value)} (_ : ∀ v ∈ lv, v ≠ some (.ref a)) (i : Nat), aj_lvs (aj_ur r a b) i lv = aj_lvs r i lv := by
  intro lv
  induction lv with
  | nil => intro _ i; rfl
  | cons v l ih =>
    intro h i
    cases v with
    | none => exact ih (fun w hw => h w (List.mem_cons_of_mem _ hw)) (i + 1)
    | some v =>
      show (i, aj_v _ v) :: _ = (i, aj_v _ v) :: _
      rw [aj_v_ur (fun e => h (some v) List.mem_cons_self (by rw [e])), ih (fun w hw => h w (List.mem_cons_of_mem _ hw)) (i + 1)]
/-- the live objects' cells are what they were when the new number is set -/
theorem aj_el_ur {cs : Nat → ClassId} {r : Nat → Nat} {I' : Nat → Nat → Int32} {J' : Nat → Nat → Int64} {V' : Nat → Nat → Option Nat} {N' : Nat → Nat} {a b i : Nat} (hV : ∀ j, V i j ≠ some a) (h1 : I' i = I i) (h2 : J' i = J i) (h3 : V' i = V i) (h4 : N' i = N i) : aj_el cs (aj_ur r a b) I' J' V' N' i = aj_el cs r I J V N i := by
  rw [aj_el_congr (I' := I') (J' := J') (V' := V') (N' := N') h1 h2 h3 h4]
  have e : ∀ j, (V i j).map (aj_ur r a b) = (V i j).map r := by
    intro j
    cases hv : V i j with
    | none => rfl
    | some x => exact congrArg some (aj_ur_n r b (fun q => hV j (by rw [hv, q])))
  have e2 : ∀ k ty, aj_fv (aj_ur r a b) I J V i k ty = aj_fv r I J V i k ty := by
    intro k ty
    unfold aj_fv
    rw [e]
  unfold aj_el
  simp only [e, e2]
theorem aj_new_ws {cs : Nat → ClassId} {r : Nat → Nat} {I' : Nat → Nat → Int32} {J' : Nat → Nat → Int64} {V' : Nat → Nat → Option Nat} {N' : Nat → Nat} {a b : Nat} (ha : a ∉ L) (hV : ∀ i ∈ L, ∀ j, V i j ≠ some a) (h1 : ∀ i, i ≠ a → I' i = I i) (h2 : ∀ i, i ≠ a → J' i = J i) (h3 : ∀ i, i ≠ a → V' i = V i) (h4 : ∀ i, i ≠ a → N' i = N i) :
    aj_ws cs (aj_ur r a b) I' J' V' N' (L ++ [a]) = aj_ws cs r I J V N L ++ [(b, aj_el cs (aj_ur r a b) I' J' V' N' a)] := by
  unfold aj_ws
  rw [List.map_append]
  congr 1
  · refine List.map_congr_left (fun i hi => ?_)
    have hne : i ≠ a := fun e => ha (e ▸ hi)
    rw [aj_ur_n r b hne, aj_el_ur (hV i hi) (h1 i hne) (h2 i hne) (h3 i hne) (h4 i hne)]
  · show [(aj_ur r a b a, _)] = _
    rw [aj_ur_s]
theorem aj_fv_zero {r : Nat → Nat} {a k : Nat} {ty : FieldType} (h : ty ≠ .float ∧ ty ≠ .double) : aj_fv r (aj_z I a 0) (aj_z J a 0) (aj_z V a none) a k ty = defaultValue ty := by
  have e1 : aj_z I a 0 a k = 0 := if_pos rfl
  have e2 : aj_z J a 0 a k = 0 := if_pos rfl
  have e3 : aj_z V a none a k = none := if_pos rfl
  unfold aj_fv
  rw [e1, e2, e3]
  cases ty <;> first | rfl | exact absurd rfl h.1 | exact absurd rfl h.2
theorem aj_nofl : ∀ k, k < 7 → ∀ j, j < aj_n k → aj_ty k j ≠ .float ∧ aj_ty k j ≠ .double := by decide +kernel
def aj_NW (own : String) (idx ci : Nat) : Prop := ci < 7 ∧ Cond.classLink own idx (aj_R ci) ∈ aj_TB ∧ Cond.instantiable (aj_R ci) (aj_n ci) ∈ aj_TB ∧ Cond.initialized (aj_R ci) ∈ aj_TB
theorem x_new (C : aj_C G cc tbl own R0 nL) (k a : Nat) {idx ci bc' bs' : Nat} (h : tbl[k]? = some (pc, .new idx, 3)) (hq : pc + 3 = q) (hw : aj_NW own idx ci) (ha : a % 16 = ci) (haF : a ∈ gF G) (haL : a ∉ L) (hV : ∀ i ∈ L, ∀ j, V i j ≠ some a) (hno : aj_no a lv st) (hbc : bc = bc' + 1) (hbs : bs = bs' + aj_n ci)
    (kk : aj_X G q lv (.ref a :: st) (aj_z I a 0) (aj_z J a 0) (aj_z V a none) N (L ++ [a]) bc' bs') : aj_X G pc lv st I J V N L bc bs := by
  subst hq
  intro r H locs cells slots ls hP hD hS hLL hF hc hs hl
  refine va_new (fs := (List.range (aj_n ci)).map (fun j => defaultValue (aj_ty ci j))) C.x C.b C.ts (aj_cl_in ci hw.1) (aj_ty ci) (aj_tyok ci hw.1) C.o (C.ts _ hw.2.1) (C.ts _ hw.2.2.1) (C.ts _ hw.2.2.2) C.k hP hD hS C.a (aj_cl ci hw.1) (fun j hj => ?_) (by omega) (by omega) (C.d h) (fun b H1 hP1 hD1 hS1 => ?_)
  · unfold vp_V
    rw [List.getD_eq_getElem?_getD, aj_fs_at _ hj]; rfl
  · have hws := aj_new_ws (cs := gcs G) (r := r) (I := I) (J := J) (V := V) (N := N) (b := b) (I' := aj_z I a 0) (J' := aj_z J a 0) (V' := aj_z V a none) (N' := N) haL hV (fun i hi => aj_z_o I 0 hi) (fun i hi => aj_z_o J 0 hi) (fun i hi => aj_z_o V none hi) (fun i hi => rfl)
    rw [aj_el_obj ha hw.1, List.map_congr_left (fun j hj => aj_fv_zero (r := aj_ur r a b) (I := I) (J := J) (V := V) (a := a) (k := j) (aj_nofl ci hw.1 j (List.mem_range.mp hj)))] at hws
    rw [← hws] at hP1 hD1
    have hk := kk (aj_ur r a b) H1 locs (cells + 1) (slots + aj_n ci) ls hP1 hD1 hS1 (fun i hi => List.mem_append_left _ (hLL i hi)) (fun i hi => (aj_ur_n r b (fun e => hi (by rw [e]; exact haF))).trans (hF i hi)) (by omega) (by omega) (by rw [aj_lvs_ur hno.2]; exact hl)
    have e : (Value.ref a :: st).map (aj_v (aj_ur r a b)) = Value.ref b :: st.map (aj_v r) := by
      show aj_v _ (.ref a) :: st.map _ = _
      rw [aj_st_ur hno.1]
      show Value.ref (aj_ur r a b a) :: _ = _
      rw [aj_ur_s]
    rw [e] at hk
    exact hk
theorem aj_ra_prim {s : State} {cA : ClassId} {ty : FieldType} (hty : ∀ C, ty ≠ .object C) (h : va_RA s cA ty) : s.vm.findClass ("[" ++ ty.toString) = some cA := by
  cases ty with
  | object C => exact absurd rfl (hty C)
  | _ => exact h
theorem x_newI (C : aj_C G cc tbl own R0 nL) (k a : Nat) {n : Int32} {n' m bc' bs' : Nat} (h : tbl[k]? = some (pc, .newarray .int, 2)) (hq : pc + 2 = q) (hw : Cond.arrayClass .int ∈ aj_TB) (hn : ¬ n < 0) (hn' : n.toNatClampNeg = n') (hm : n' ≤ m) (hm2 : m ≤ 1000000) (ha : a % 16 = 8) (haF : a ∈ gF G) (haL : a ∉ L) (hV : ∀ i ∈ L, ∀ j, V i j ≠ some a) (hno : aj_no a lv st) (hbc : bc = bc' + 1) (hbs : bs = bs' + m)
    (kk : aj_X G q lv (.ref a :: st) (aj_z I a 0) J V (aj_ur N a n') (L ++ [a]) bc' bs') : aj_X G pc lv (.int n :: st) I J V N L bc bs := by
  subst hq
  intro r H locs cells slots ls hP hD hS hLL hF hc hs hl
  refine va_newa (atype := .int) (ty := .int) (a0 := (n', .inl (fun _ => 0))) C.x C.b (C.ts _ hw) rfl C.k hP hD hS C.a (fun cA => rfl) hn hn' (by show n' * 4 ≤ _; omega) (by omega) (by omega) (C.d h) (fun b cA H1 hK1 hP1 hD1 hS1 => ?_)
  have hcA : cA = gcs G 0 := by
    have h1 := aj_ra_prim (ty := .int) (fun _ => by simp) (hK1.2 4 (cA, .int) rfl).2
    have h2 := aj_ra_prim (ty := .int) (fun _ => by simp) (C.k.2 0 (gcs G 0, .int) rfl).2
    exact Option.some.inj (h1.symm.trans h2)
  subst hcA
  have hws := aj_new_ws (cs := gcs G) (r := r) (I := I) (J := J) (V := V) (N := N) (b := b) (I' := aj_z I a 0) (J' := J) (V' := V) (N' := aj_ur N a n') haL hV (fun i hi => aj_z_o I 0 hi) (fun i hi => rfl) (fun i hi => rfl) (fun i hi => aj_ur_n N n' hi)
  rw [aj_el_int ha, aj_z_s, aj_ur_s] at hws
  rw [← hws] at hP1 hD1
  refine W.widen (k := cells + 1) (n := slots + m) (Nat.le_refl _) (by omega) ?_
  have hk := kk (aj_ur r a b) H1 locs (cells + 1) (slots + m) ls hP1 hD1 hS1 (fun i hi => List.mem_append_left _ (hLL i hi)) (fun i hi => (aj_ur_n r b (fun e => hi (by rw [e]; exact haF))).trans (hF i hi)) (by omega) (by omega) (by rw [aj_lvs_ur hno.2]; exact hl)
  have e : (Value.ref a :: st).map (aj_v (aj_ur r a b)) = Value.ref b :: st.map (aj_v r) := by
    show aj_v _ (.ref a) :: st.map _ = _
    rw [aj_st_ur hno.1]
    show Value.ref (aj_ur r a b a) :: _ = _
    rw [aj_ur_s]
  rw [e] at hk
  exact hk
theorem x_newJ (C : aj_C G cc tbl own R0 nL) (k a : Nat) {n : Int32} {n' m bc' bs' : Nat} (h : tbl[k]? = some (pc, .newarray .long, 2)) (hq : pc + 2 = q) (hw : Cond.arrayClass .long ∈ aj_TB) (hn : ¬ n < 0) (hn' : n.toNatClampNeg = n') (hm : n' ≤ m) (hm2 : m ≤ 1000000) (ha : a % 16 = 9) (haF : a ∈ gF G) (haL : a ∉ L) (hV : ∀ i ∈ L, ∀ j, V i j ≠ some a) (hno : aj_no a lv st) (hbc : bc = bc' + 1) (hbs : bs = bs' + m)
    (kk : aj_X G q lv (.ref a :: st) I (aj_z J a 0) V (aj_ur N a n') (L ++ [a]) bc' bs') : aj_X G pc lv (.int n :: st) I J V N L bc bs := by
  subst hq
  intro r H locs cells slots ls hP hD hS hLL hF hc hs hl
  refine va_newa (atype := .long) (ty := .long) (a0 := (n', .inr (.inl (fun _ => 0)))) C.x C.b (C.ts _ hw) rfl C.k hP hD hS C.a (fun cA => rfl) hn hn' (by show n' * 8 ≤ _; omega) (by omega) (by omega) (C.d h) (fun b cA H1 hK1 hP1 hD1 hS1 => ?_)
  have hcA : cA = gcs G 1 := by
    have h1 := aj_ra_prim (ty := .long) (fun _ => by simp) (hK1.2 4 (cA, .long) rfl).2
    have h2 := aj_ra_prim (ty := .long) (fun _ => by simp) (C.k.2 1 (gcs G 1, .long) rfl).2
    exact Option.some.inj (h1.symm.trans h2)
  subst hcA
  have hws := aj_new_ws (cs := gcs G) (r := r) (I := I) (J := J) (V := V) (N := N) (b := b) (I' := I) (J' := aj_z J a 0) (V' := V) (N' := aj_ur N a n') haL hV (fun i hi => rfl) (fun i hi => aj_z_o J 0 hi) (fun i hi => rfl) (fun i hi => aj_ur_n N n' hi)
  rw [aj_el_long ha, aj_z_s, aj_ur_s] at hws
  rw [← hws] at hP1 hD1
  refine W.widen (k := cells + 1) (n := slots + m) (Nat.le_refl _) (by omega) ?_
  have hk := kk (aj_ur r a b) H1 locs (cells + 1) (slots + m) ls hP1 hD1 hS1 (fun i hi => List.mem_append_left _ (hLL i hi)) (fun i hi => (aj_ur_n r b (fun e => hi (by rw [e]; exact haF))).trans (hF i hi)) (by omega) (by omega) (by rw [aj_lvs_ur hno.2]; exact hl)
  have e : (Value.ref a :: st).map (aj_v (aj_ur r a b)) = Value.ref b :: st.map (aj_v r) := by
    show aj_v _ (.ref a) :: st.map _ = _
    rw [aj_st_ur hno.1]
    show Value.ref (aj_ur r a b a) :: _ = _
    rw [aj_ur_s]
  rw [e] at hk
  exact hk
theorem x_newR (C : aj_C G cc tbl own R0 nL) (k a : Nat) {idx : Nat} {n : Int32} {n' m bc' bs' : Nat} (h : tbl[k]? = some (pc, .anewarray idx, 3)) (hq : pc + 3 = q) (hw : Cond.classLink own idx "Raywalk$Step" ∈ aj_TB) (hn : ¬ n < 0) (hn' : n.toNatClampNeg = n') (hm : n' ≤ m) (hm2 : m ≤ 1000000) (ha : a % 16 = 11) (haF : a ∈ gF G) (haL : a ∉ L) (hV : ∀ i ∈ L, ∀ j, V i j ≠ some a) (hno : aj_no a lv st) (hbc : bc = bc' + 1) (hbs : bs = bs' + m)
    (kk : aj_X G q lv (.ref a :: st) I J (aj_z V a none) (aj_ur N a n') (L ++ [a]) bc' bs') : aj_X G pc lv (.int n :: st) I J V N L bc bs := by
  subst hq
  intro r H locs cells slots ls hP hD hS hLL hF hc hs hl
  refine va_newq C.x C.b C.o (C.ts _ hw) C.gw.2.1 C.k hP hD hS C.a hn hn' (by omega) (by omega) (by omega) (C.d h) (fun b cA H1 hK1 hP1 hD1 hS1 => ?_)
  have hcA : cA = gcs G 3 := by
    obtain ⟨_, _, _, _, _, h1⟩ := (hK1.2 4 (cA, .object "Raywalk$Step") rfl).2
    obtain ⟨_, _, _, _, _, h2⟩ := (C.k.2 3 (gcs G 3, .object "Raywalk$Step") rfl).2
    exact Option.some.inj (h1.symm.trans h2)
  subst hcA
  have hws := aj_new_ws (cs := gcs G) (r := r) (I := I) (J := J) (V := V) (N := N) (b := b) (I' := I) (J' := J) (V' := aj_z V a none) (N' := aj_ur N a n') haL hV (fun i hi => rfl) (fun i hi => rfl) (fun i hi => aj_z_o V none hi) (fun i hi => aj_ur_n N n' hi)
  rw [aj_el_refs ha, aj_z_s, aj_ur_s] at hws
  have hP1 : va_P (gD G) vwCl (aj_ws (gcs G) (aj_ur r a b) I J (aj_z V a none) (aj_ur N a n') (L ++ [a])) H1 := by rw [hws]; exact hP1
  have hD1 : va_D (gA G) (aj_ws (gcs G) (aj_ur r a b) I J (aj_z V a none) (aj_ur N a n') (L ++ [a])) := by rw [hws]; exact hD1
  refine W.widen (k := cells + 1) (n := slots + m) (Nat.le_refl _) (by omega) ?_
  have hk := kk (aj_ur r a b) H1 locs (cells + 1) (slots + m) ls hP1 hD1 hS1 (fun i hi => List.mem_append_left _ (hLL i hi)) (fun i hi => (aj_ur_n r b (fun e => hi (by rw [e]; exact haF))).trans (hF i hi)) (by omega) (by omega) (by rw [aj_lvs_ur hno.2]; exact hl)
  have e : (Value.ref a :: st).map (aj_v (aj_ur r a b)) = Value.ref b :: st.map (aj_v r) := by
    show aj_v _ (.ref a) :: st.map _ = _
    rw [aj_st_ur hno.1]
    show Value.ref (aj_ur r a b a) :: _ = _
    rw [aj_ur_s]
  rw [e] at hk
  exact hk
-- WHAT MAY BE FORGOTTEN, AND TOLD ANEW
/-- the same cells by other functions; fewer objects -/
theorem aj_conv {I' : Nat → Nat → Int32} {J' : Nat → Nat → Int64} {V' : Nat → Nat → Option Nat} {N' : Nat → Nat} {L' : List Nat} (hL : ∀ i ∈ gL G, i ∈ L') (hs : ∃ is : List Nat, va_nd is = true ∧ is.map (fun k => L[k]?) = L'.map some) (he : ∀ cs r, ∀ i ∈ L', aj_el cs r I' J' V' N' i = aj_el cs r I J V N i)
    (kk : aj_X G pc lv st I' J' V' N' L' bc bs) : aj_X G pc lv st I J V N L bc bs := by
  intro r H locs cells slots ls hP hD hS hLL hF hc hs' hl
  obtain ⟨is, hn, his⟩ := hs
  have hw : is.map (fun k => (aj_ws (gcs G) r I J V N L)[k]?) = (aj_ws (gcs G) r I J V N L').map some := by
    have e1 : is.map (fun k => (aj_ws (gcs G) r I J V N L)[k]?) = (is.map (fun k => L[k]?)).map (fun o => o.map (fun i => (r i, aj_el (gcs G) r I J V N i))) := by
      rw [List.map_map]
      refine List.map_congr_left (fun k _ => ?_)
      unfold aj_ws
      rw [List.getElem?_map]; rfl
    rw [e1, his, List.map_map]
    unfold aj_ws
    rw [List.map_map]; rfl
  have e2 : aj_ws (gcs G) r I' J' V' N' L' = aj_ws (gcs G) r I J V N L' := aj_ws_congr (fun i hi => ⟨rfl, he _ _ i hi⟩)
  have hP2 : va_P (gD G) vwCl (aj_ws (gcs G) r I J V N L') H := by
    intro k q hk
    have h1 : (is.map (fun i => (aj_ws (gcs G) r I J V N L)[i]?))[k]? = some (some q) := by rw [hw, List.getElem?_map, hk]; rfl
    rw [List.getElem?_map] at h1
    cases hi : is[k]? with
    | none => rw [hi] at h1; cases h1
    | some i => rw [hi] at h1; exact hP i q (Option.some.inj h1)
  have hD2 := hD.sub is hn hw
  rw [← e2] at hP2 hD2
  exact kk r H locs cells slots ls hP2 hD2 hS hL hF hc hs' hl
theorem aj_bud {bc' bs' : Nat} (h1 : bc' ≤ bc) (h2 : bs' ≤ bs) (kk : aj_X G pc lv st I J V N L bc' bs') : aj_X G pc lv st I J V N L bc bs :=
  fun r H locs cells slots ls hP hD hS hLL hF hc hs hl => kk r H locs cells slots ls hP hD hS hLL hF (by omega) (by omega) hl
end AJ3
end
section
section AJ4
variable {G : aj_G} {cc : ByteArray} {tbl : List (Nat × Instr × Nat)} {own : String} {R0 : Room} {nL : Nat} {pc q : Nat} {lv lv' : List (Option Value)} {st st' : List Value} {I : Nat → Nat → Int32} {J : Nat → Nat → Int64} {V : Nat → Nat → Option Nat} {N : Nat → Nat} {L : List Nat} {bc bs : Nat}
-- CONTRACTS: what a method's end owes, told by K: K (.inl answer) or K (.inr the exception's class), then the heap as it is then
abbrev aj_K : Type := (Option Value ⊕ String) → (Nat → Nat → Int32) → (Nat → Nat → Int64) → (Nat → Nat → Option Nat) → (Nat → Nat) → List Nat → Prop
def aj_E (D : va_G) (cs : Nat → ClassId) (A : Nat → Prop) (L F : List Nat) (r : Nat → Nat) (st t : State) (K' : (Nat → Nat) → (Nat → Nat → Int32) → (Nat → Nat → Int64) → (Nat → Nat → Option Nat) → (Nat → Nat) → List Nat → Prop) : Prop :=
  ∃ (r' : Nat → Nat) (I : Nat → Nat → Int32) (J : Nat → Nat → Int64) (V : Nat → Nat → Option Nat) (N : Nat → Nat) (L' : List Nat), K' r' I J V N L' ∧ (∀ i ∈ L, i ∈ L') ∧ (∀ i, i ∉ F → r' i = r i) ∧ va_P D vwCl (aj_ws cs r' I J V N L') t.heap ∧ va_D A (aj_ws cs r' I J V N L') ∧ va_F A st t
def aj_Qc (D : va_G) (cs : Nat → ClassId) (A : Nat → Prop) (L F : List Nat) (r : Nat → Nat) (K : aj_K) : Array Value → State → Outcome → State → Prop := fun _ st o t =>
  aj_E D cs A L F r st t (fun r' I J V N L' => ∃ v : Option Value, o = .returned (v.map (aj_v r')) ∧ K (.inl v) I J V N L')
def aj_Xc (D : va_G) (cs : Nat → ClassId) (A : Nat → Prop) (L F : List Nat) (r : Nat → Nat) (K : aj_K) : String → State → State → Prop := fun E st t =>
  aj_E D cs A L F r st t (fun _ I J V N L' => K (.inr E) I J V N L')
def aj_Pc (D : va_G) (cs : Nat → ClassId) (r : Nat → Nat) (sz : Nat) (av : List Value) (I : Nat → Nat → Int32) (J : Nat → Nat → Int64) (V : Nat → Nat → Option Nat) (N : Nat → Nat) (L : List Nat) : Array Value → State → Prop :=
  va_Pc (av.map (aj_v r)) (fun U => U.heap.size = sz ∧ va_P D vwCl (aj_ws cs r I J V N L) U.heap ∧ va_K D vwCl (aj_tys cs) U ∧ va_D (fun _ => True) (aj_ws cs r I J V N L) ∧ aj_GW r (va_A (aj_ws cs r I J V N L) sz) U U.heap)
theorem aj_blind {D : va_G} {cs : Nat → ClassId} {r : Nat → Nat} {sz : Nat} {av : List Value} : FrameBlind (aj_Pc D cs r sz av I J V N L) := by
  intro a U g mk h
  obtain ⟨h1, h2, h3, h4, h5, h6⟩ := h
  exact ⟨h1, h2, h3, va_K.moved (u := U) (U := U.calling g mk a) (Vm.Alike.refl U.vm) h4, h5, aj_GW.warm (u := U) (U := U.calling g mk a) (State.WarmedH.refl U) h6⟩
def aj_M (l : Launch) (y : MethodName) (ws : List Cond) (rm : Room) (F : List Nat) (av : List Value) (I : Nat → Nat → Int32) (J : Nat → Nat → Int64) (V : Nat → Nat → Option Nat) (N : Nat → Nat) (L : List Nat) (K : aj_K) : Prop :=
  l.stackTraces = false → ∀ (D : va_G) (cs : Nat → ClassId) (r : Nat → Nat) (sz : Nat), vx_Met l y ws rm (aj_Pc D cs r sz av I J V N L) (aj_Qc D cs (va_A (aj_ws cs r I J V N L) sz) L F r K) (aj_Xc D cs (va_A (aj_ws cs r I J V N L) sz) L F r K) rm.cells rm.slots (va_A (aj_ws cs r I J V N L) sz)
/-- what a method's own end is -/
def aj_Z (G : aj_G) (ret : Option FieldType) (K : aj_K) : Prop :=
  (gt G).sig.returnType = ret ∧ gQ G = vx_MQ (gb G) (aj_Qc (gD G) (gcs G) (gA G) (gL G) (gF G) (gr G) K) (aj_Xc (gD G) (gcs G) (gA G) (gL G) (gF G) (gr G) K) (ga G) (gs G) (gR G).cells (gR G).slots (gA G)
def aj_NX (G : aj_G) : Prop := ∀ x ∈ (gc G).exceptionTable.toList, False
theorem aj_sl_len (r : Nat → Nat) : ∀ av : List Value, (lg_sl (av.map (aj_v r))).length = (lg_sl av).length := by
  intro av
  induction av with
  | nil => rfl
  | cons v l ih =>
    have hc := aj_v_cat r v
    unfold lg_sl at ih ⊢
    rw [List.map_cons, List.flatMap_cons, List.flatMap_cons, List.length_append, List.length_append, ih, hc]
    by_cases h : v.category = 2
    · rw [if_pos h, if_pos h]; rfl
    · rw [if_neg h, if_neg h]; rfl
theorem aj_GW.ren {r r' : Nat → Nat} {A : Nat → Prop} {U : State} {H : Heap} (h : aj_GW r A U H) (e : ∀ i, aj_sp i → r' i = r i) : aj_GW r' A U H := by
  have e1 : (fun i => r' (28 + 16 * i)) = fun i => r (28 + 16 * i) := funext fun i => e _ (Or.inl (by omega))
  have e2 : (fun i => r' (60 + 16 * i)) = fun i => r (60 + 16 * i) := funext fun i => e _ (Or.inl (by omega))
  unfold aj_GW aj_GT at h ⊢
  rw [e 12 (Or.inl rfl), e 13 (Or.inr (Or.inl rfl)), e 14 (Or.inr (Or.inr rfl)), e 28 (Or.inl rfl), e 44 (Or.inl rfl), e1, e2]; exact h
theorem aj_start {p : Program} {l : Launch} {e : Env} {R : Room} {s : State} {m : MethodId} {args : Array Value} {below : List Frame} {meth : Method} {c : Code} {Q : State → Prop} {D : va_G} {cs : Nat → ClassId} {r : Nat → Nat} {F : List Nat} {maxL : Nat} {av : List Value} {lv0 : List (Option Value)}
    (hlen : (lg_sl av).length ≤ maxL) (hlv : aj_ini av ++ List.replicate (maxL - (lg_sl av).length) none = lv0) (hA : args = (av.map (aj_v r)).toArray) (hP : va_P D vwCl (aj_ws cs r I J V N L) s.heap) (hD : va_D (fun _ => True) (aj_ws cs r I J V N L))
    (kk : aj_X (D, cs, p, l, e, R, s, m, args, below, meth, c, va_A (aj_ws cs r I J V N L) s.heap.size, maxL, r, L, F, Q) 0 lv0 [] I J V N L R.cells R.slots) : W p l e R s m args below meth c s.heap [] 0 0 Q (entryFrame m args maxL) := by
  subst hA
  subst hlv
  rw [lg_entry_eq]
  have hl := lv_entry (av.map (aj_v r)) (n := maxL) (by rw [aj_sl_len]; exact hlen)
  rw [← aj_ini_args r (maxL - (lg_sl av).length) av 0] at hl
  exact kk r s.heap [] 0 0 _ hP hD.self va_S.rf (fun _ h => h) (fun _ _ => rfl) (by show 0 + R.cells ≤ R.cells; omega) (by show 0 + R.slots ≤ R.slots; omega) hl
set_option maxHeartbeats 1000000 in
theorem aj_intro {l : Launch} {y : MethodName} {maxL : Nat} {ret : Option FieldType} {rm : Room} {F : List Nat} {av : List Value} {K : aj_K} {lv0 : List (Option Value)} (hy : plainName y.cls = true) (htbl : ∀ e ∈ tbl, decode cc e.1 = .ok e.2) (hF : ∀ i ∈ F, ¬ aj_sp i) (hlen : (lg_sl av).length ≤ maxL) (hlv : aj_ini av ++ List.replicate (maxL - (lg_sl av).length) none = lv0)
    (body : ∀ G : aj_G, gl G = l → aj_C G cc tbl y.cls rm maxL → aj_Z G ret K → aj_NX G → (gt G).name = y.name → gL G = L → gF G = F → aj_X G 0 lv0 [] I J V N L rm.cells rm.slots) : aj_M l y (Cond.code y cc maxL ret :: aj_TB) rm F av I J V N L K := by
  intro hst D cs r sz
  refine vx_ofW hy rfl ?_
  intro p e s m args below meth c s₁ B hml hno hv
  obtain ⟨hA, hsz, hP, hK, hD, hGW⟩ := hv
  subst hsz
  have hts := atoms_spec (ws := Cond.code y cc maxL ret :: aj_TB) B.pre
  refine aj_start (D := D) (cs := cs) (r := r) (F := F) (R := rm) hlen hlv hA hP hD (body _ rfl ?_ ⟨B.returns, rfl⟩ hno (name_of_methodNamed B.named B.method).1 rfl rfl)
  exact ⟨B.exec, B.bytes, hml, findClass_of_methodNamed B.named, fun w hw => hts w (List.mem_cons_of_mem _ hw), hK, fun q hq => Or.inr hq, htbl, rfl, rfl, hst, hF, hGW, B.notSynchronized⟩
-- ENDS
section EN
variable {ret : Option FieldType} {K : aj_K}
theorem aj_endQ {r : Nat → Nat} {H : Heap} {locs : List Loc} {v : Option Value} {t : State} (hP : va_P (gD G) vwCl (aj_ws (gcs G) r I J V N L) H) (hD : va_D (gA G) (aj_ws (gcs G) r I J V N L)) (hS : va_S (gA G) (gs G).heap H locs) (hL : ∀ i ∈ gL G, i ∈ L) (hF : ∀ i, i ∉ gF G → r i = gr G i) (ht : t.heap = H) (hk : K (.inl v) I J V N L) : aj_Qc (gD G) (gcs G) (gA G) (gL G) (gF G) (gr G) K (ga G) (gs G) (.returned (v.map (aj_v r))) t :=
  ⟨r, I, J, V, N, L, ⟨v, rfl, hk⟩, hL, hF, by rw [ht]; exact hP, hD, hS.F ht⟩
theorem x_ireturn (C : aj_C G cc tbl own R0 nL) (Z : aj_Z G ret K) (k : Nat) {x : Int32} {ty : FieldType} (h : tbl[k]? = some (pc, .ireturn, 1)) (hr : ret = some ty) (hn : narrow ty (.int x) = .int x) (hk : K (.inl (some (.int x))) I J V N L) : aj_X G pc lv [.int x] I J V N L bc bs := by
  intro r H locs cells slots ls hP hD hS hLL hF hc hs hl
  have hlk := C.lk
  show W _ _ _ _ _ _ _ _ _ _ H locs cells slots (gQ G) _
  rw [Z.2]
  exact vx_ret (W.widen (by omega) (by omega) (W.zret (hlocks := hlk) C.x C.b (Z.1.trans hr) hn (fun t ht _ => aj_endQ (v := some (.int x)) hP hD hS hLL hF ht hk) hS.2.2 (C.d h)))
theorem x_lreturn (C : aj_C G cc tbl own R0 nL) (Z : aj_Z G ret K) (k : Nat) {x : Int64} (h : tbl[k]? = some (pc, .lreturn, 1)) (hr : ret = some .long) (hk : K (.inl (some (.long x))) I J V N L) : aj_X G pc lv [.long x] I J V N L bc bs := by
  intro r H locs cells slots ls hP hD hS hLL hF hc hs hl
  have hlk := C.lk
  show W _ _ _ _ _ _ _ _ _ _ H locs cells slots (gQ G) _
  rw [Z.2]
  exact vx_ret (W.widen (by omega) (by omega) (W.lret (hlocks := hlk) C.x C.b (Z.1.trans hr) (fun t ht _ => aj_endQ (v := some (.long x)) hP hD hS hLL hF ht hk) hS.2.2 (C.d h)))
theorem x_return (C : aj_C G cc tbl own R0 nL) (Z : aj_Z G ret K) (k : Nat) (h : tbl[k]? = some (pc, .return_, 1)) (hr : ret = none) (hk : K (.inl none) I J V N L) : aj_X G pc lv [] I J V N L bc bs := by
  intro r H locs cells slots ls hP hD hS hLL hF hc hs hl
  have hlk := C.lk
  show W _ _ _ _ _ _ _ _ _ _ H locs cells slots (gQ G) _
  rw [Z.2]
  exact vx_ret (W.widen (by omega) (by omega) (W.vret (hlocks := hlk) C.x C.b (Z.1.trans hr) (fun t ht _ => aj_endQ (v := none) hP hD hS hLL hF ht hk) hS.2.2 (C.d h)))
theorem x_areturn (C : aj_C G cc tbl own R0 nL) (Z : aj_Z G ret K) (k : Nat) {a : Nat} {rt : FieldType} (h : tbl[k]? = some (pc, .areturn, 1)) (hr : ret = some rt) (hrt : (∃ n, rt = .object n) ∨ ∃ t, rt = .array t) (hk : K (.inl (some (.ref a))) I J V N L) : aj_X G pc lv [.ref a] I J V N L bc bs := by
  intro r H locs cells slots ls hP hD hS hLL hF hc hs hl
  have hlk := C.lk
  show W _ _ _ _ _ _ _ _ _ _ H locs cells slots (gQ G) _
  rw [Z.2]
  exact vx_ret (W.widen (by omega) (by omega) (W.aret (hlocks := hlk) (v := .ref (r a)) C.x C.b (Z.1.trans hr) hrt (Or.inr ⟨_, rfl⟩) (fun t ht _ => aj_endQ (v := some (.ref a)) hP hD hS hLL hF ht hk) hS.2.2 (C.d h)))
/-- an exception of class E over the frame -/
def aj_XT (G : aj_G) (pc : Nat) (lv : List (Option Value)) (E : String) (I : Nat → Nat → Int32) (J : Nat → Nat → Int64) (V : Nat → Nat → Option Nat) (N : Nat → Nat) (L : List Nat) (bc bs : Nat) : Prop :=
  ∀ (r : Nat → Nat) (H : Heap) (locs : List Loc) (cells slots : Nat) (ls : Array Slot) (st : List Value) (q9 : Addr) (ce : Cell), va_P (gD G) vwCl (aj_ws (gcs G) r I J V N L) H → va_D (gA G) (aj_ws (gcs G) r I J V N L) → va_S (gA G) (gs G).heap H locs →
    (∀ i ∈ gL G, i ∈ L) → (∀ i, i ∉ gF G → r i = gr G i) → cells + bc ≤ (gR G).cells → slots + bs ≤ (gR G).slots → lv_has ls (gn G) (aj_lvs r 0 lv) → H[q9]? = some ce → ce.vm = .none → (gs G).vm.findClass E = some ce.cls →
    vx_W (gp G) (gl G) (ge G) (gR G) (gs G) (gm G) (ga G) (gb G) (gt G) (gc G) H locs cells slots (gQ G) (F0 (gm G) pc ls st) q9
theorem x_out {E : String} (C : aj_C G cc tbl own R0 nL) (Z : aj_Z G ret K) (NX : aj_NX G) (hk : K (.inr E) I J V N L) : aj_XT G pc lv E I J V N L bc bs := by
  intro r H locs cells slots ls st q9 ce hP hD hS hLL hF hc hs hl h1 h2 h3
  rw [Z.2]
  exact vx_out (fun x hx => (NX x hx).elim) C.lk h1 h2 h3 (fun t ht _ => ⟨r, I, J, V, N, L, hk, hLL, hF, by rw [ht]; exact hP, hD, hS.F ht⟩) hS.2.2 (by omega) (by omega)
end EN
-- CALLS
/-- how it goes on behind a call -/
def aj_kont (G : aj_G) (pc q : Nat) (lv : List (Option Value)) (st : List Value) (bc bs : Nat) : aj_K := fun o I J V N L => match o with
  | .inl (some v) => aj_X G q lv (v :: st) I J V N L bc bs
  | .inl none => aj_X G q lv st I J V N L bc bs
  | .inr E => aj_XT G pc lv E I J V N L bc bs
theorem aj_v_off {r r' : Nat → Nat} {F : List Nat} (h : ∀ i, i ∉ F → r' i = r i) {v : Value} (hn : ∀ i ∈ F, v ≠ .ref i) : aj_v r' v = aj_v r v := by
  cases v with
  | ref x => exact congrArg Value.ref (h x (fun q => hn x q rfl))
  | _ => rfl
theorem aj_st_off {r r' : Nat → Nat} {F : List Nat} (h : ∀ i, i ∉ F → r' i = r i) {lv : List (Option Value)} {st : List Value} (hn : ∀ i ∈ F, aj_no i lv st) : st.map (aj_v r') = st.map (aj_v r) := List.map_congr_left (fun v hv => aj_v_off h (fun i hi => (hn i hi).1 v hv))
theorem aj_lvs_off {r r' : Nat → Nat} {F : List Nat} (h : ∀ i, i ∉ F → r' i = r i) : ∀ {lv : List (Option Value)} (_ : ∀ i ∈ F, ∀ v ∈ lv, v ≠ some (.ref i)) (k : Nat), aj_lvs r' k lv = aj_lvs r k lv := by
  intro lv
  induction lv with
  | nil => intro _ i; rfl
  | cons v l ih =>
    intro hn i
    cases v with
    | none => exact ih (fun j hj w hw => hn j hj w (List.mem_cons_of_mem _ hw)) (i + 1)
    | some v =>
      show (i, aj_v _ v) :: _ = (i, aj_v _ v) :: _
      rw [aj_v_off h (fun j hj e => hn j hj (some v) List.mem_cons_self (by rw [e])), ih (fun j hj w hw => hn j hj w (List.mem_cons_of_mem _ hw)) (i + 1)]
theorem aj_after {rm : Room} {F' : List Nat} {av : List Value} {bc' bs' : Nat} {r : Nat → Nat} {H : Heap} {locs : List Loc} {cells slots : Nat} {ls : Array Slot} {st0 : List Value} (hq : pc + 3 = q)
    (hP : va_P (gD G) vwCl (aj_ws (gcs G) r I J V N L) H) (hD : va_D (gA G) (aj_ws (gcs G) r I J V N L)) (hS : va_S (gA G) (gs G).heap H locs) (hLL : ∀ i ∈ gL G, i ∈ L) (hF : ∀ i, i ∉ gF G → r i = gr G i) (hc : cells + rm.cells + bc' ≤ (gR G).cells) (hs : slots + rm.slots + bs' ≤ (gR G).slots) (hl : lv_has ls (gn G) (aj_lvs r 0 lv))
    (hA : ∀ q, va_A (aj_ws (gcs G) r I J V N L) H.size q → gA G q) (hF' : ∀ i ∈ F', i ∈ gF G) (hno : ∀ i ∈ F', aj_no i lv st) {a : Array Value}
    (hr : vx_Run (gp G) (gl G) (ge G) (gR G) (gs G) (gm G) (ga G) (gb G) (gt G) (gc G) H locs cells slots rm.cells rm.slots (F0 (gm G) pc ls st0) (st.map (aj_v r)) (aj_Qc (gD G) (gcs G) (va_A (aj_ws (gcs G) r I J V N L) H.size) L F' r (aj_kont G pc q lv st bc' bs') a) (aj_Xc (gD G) (gcs G) (va_A (aj_ws (gcs G) r I J V N L) H.size) L F' r (aj_kont G pc q lv st bc' bs')) (va_A (aj_ws (gcs G) r I J V N L) H.size)) :
    aj_W G H locs cells slots (F0 (gm G) pc ls st0) := by
  subst hq
  intro T hT X
  rcases hr T hT X with ⟨v, st₀, t, T', L1, h0, X', hL1, e1, e2, ⟨r', I', J', V', N', L', ⟨w, hw, hk⟩, k1, k2, k3, k4, k5⟩, go⟩ | ⟨q9, st₀, t, T', L1, E, ce, h0, X', hL1, e1, e2, ⟨r', I', J', V', N', L', hk, k1, k2, k3, k4, k5⟩, hce, hcv, hcl, go⟩
  · obtain ⟨-, -, z3⟩ := vx_keep h0 e1 hS (fun q _ h => hA q h) hA hL1 k5
    have hvw : v = w.map (aj_v r') := by cases hw; rfl
    subst hvw
    have hst : st.map (aj_v r') = st.map (aj_v r) := aj_st_off k2 hno
    have hlv : aj_lvs r' 0 lv = aj_lvs r 0 lv := aj_lvs_off k2 (fun i hi => (hno i hi).2) 0
    have hP' : va_P (gD G) vwCl (aj_ws (gcs G) r' I' J' V' N' L') T'.heap := by rw [e1]; exact k3
    have hD' : va_D (gA G) (aj_ws (gcs G) r' I' J' V' N' L') := k4.weaken (fun k q _ h => hA q.1 h)
    have hLL' : ∀ i ∈ gL G, i ∈ L' := fun i hi => k1 i (hLL i hi)
    have hFF' : ∀ i, i ∉ gF G → r' i = gr G i := fun i hi => (k2 i (fun z => hi (hF' i z))).trans (hF i hi)
    cases w with
    | none =>
      obtain ⟨t2, a1, b1⟩ := hk r' T'.heap (locs ++ L1) (cells + rm.cells) (slots + rm.slots) ls hP' hD' z3 hLL' hFF' hc hs (by rw [hlv]; exact hl) T' rfl X'
      rw [hst] at a1
      exact ⟨t2, go t2 a1, b1⟩
    | some w =>
      obtain ⟨t2, a1, b1⟩ := hk r' T'.heap (locs ++ L1) (cells + rm.cells) (slots + rm.slots) ls hP' hD' z3 hLL' hFF' hc hs (by rw [hlv]; exact hl) T' rfl X'
      rw [List.map_cons, hst] at a1
      exact ⟨t2, go t2 a1, b1⟩
  · obtain ⟨-, -, z3⟩ := vx_keep h0 e1 hS (fun q _ h => hA q h) hA hL1 k5
    have hlv : aj_lvs r' 0 lv = aj_lvs r 0 lv := aj_lvs_off k2 (fun i hi => (hno i hi).2) 0
    have hP' : va_P (gD G) vwCl (aj_ws (gcs G) r' I' J' V' N' L') T'.heap := by rw [e1]; exact k3
    have hD' : va_D (gA G) (aj_ws (gcs G) r' I' J' V' N' L') := k4.weaken (fun k q _ h => hA q.1 h)
    obtain ⟨t2, a1, b1⟩ := hk r' T'.heap (locs ++ L1) (cells + rm.cells) (slots + rm.slots) ls (st.map (aj_v r)) q9 ce hP' hD' z3 (fun i hi => k1 i (hLL i hi)) (fun i hi => (k2 i (fun z => hi (hF' i z))).trans (hF i hi)) hc hs (by rw [hlv]; exact hl) (by rw [e1]; exact hce) hcv hcl T' rfl X'
    exact ⟨t2, go.trans a1, b1⟩
/-- a method's card: its code's word, its class, how many parameters -/
def aj_cd (y : MethodName) (bytes : ByteArray) (maxL : Nat) (ret : Option FieldType) (n : Nat) : Prop :=
  Cond.code y bytes maxL ret ∈ aj_TB ∧ Cond.initialized y.cls ∈ aj_TB ∧ (y.cls ≠ "java/lang/invoke/MethodHandle" ∧ y.cls ≠ "java/lang/invoke/VarHandle" ∧ (parseMethodDescriptor y.desc).map (fun d => d.parameters.length) = some n)
theorem aj_good : ∀ w ∈ aj_TB, w ∈ aj_TB ∧ ((w.onTables && w.keeps) = true ∨ ∃ ty, w = .arrayClass ty) := fun w hw => ⟨hw, good_of_word (List.mem_filter.mp hw).2⟩
theorem aj_goodIn {c0 : Cond} (h : c0 ∈ aj_TB) : GoodIn aj_TB (c0 :: aj_TB) := fun w hw => by
  rcases List.mem_cons.mp hw with e | e
  · subst e; exact aj_good _ h
  · exact aj_good w e
theorem aj_subA {r : Nat → Nat} {H : Heap} {locs : List Loc} (C : aj_C G cc tbl own R0 nL) (hD : va_D (gA G) (aj_ws (gcs G) r I J V N L)) (hS : va_S (gA G) (gs G).heap H locs) : ∀ q, va_A (aj_ws (gcs G) r I J V N L) H.size q → gA G q := by
  intro q h
  rcases h with ⟨k, e, h⟩ | h
  · exact hD.2 k (q, e) h
  · exact C.a q (Nat.le_trans hS.1 h)
theorem aj_pre {r : Nat → Nat} {H : Heap} {locs : List Loc} {av : List Value} (C : aj_C G cc tbl own R0 nL) (hP : va_P (gD G) vwCl (aj_ws (gcs G) r I J V N L) H) (hD : va_D (gA G) (aj_ws (gcs G) r I J V N L)) (hS : va_S (gA G) (gs G).heap H locs) (hF : ∀ i, i ∉ gF G → r i = gr G i) (U : State) (hU : U.heap = H) (hW : (gs G).WarmedH U.vm) :
    aj_Pc (gD G) (gcs G) r H.size av I J V N L (av.map (aj_v r)).toArray U := by
  refine ⟨rfl, by rw [hU], by rw [hU]; exact hP, va_K.moved hW.alike C.k, hD.weaken (fun _ _ _ _ => trivial), ?_⟩
  rw [hU]
  exact aj_GW.warm hW ((C.gw.kept hS.2.1).narrow (aj_subA C hD hS) |>.ren (fun i hi => hF i (fun h => C.f i h hi)))
section IV
variable {idx maxL n bc' bs' : Nat} {y : MethodName} {bytes : ByteArray} {ret : Option FieldType} {rm : Room} {F' : List Nat} {As : List Value} {a : Nat}
theorem x_invV (C : aj_C G cc tbl own R0 nL) (k : Nat) (h : tbl[k]? = some (pc, .invokevirtual idx, 3)) (hq : pc + 3 = q) (hl : Cond.methodLink own idx y ∈ aj_TB) (cd : aj_cd y bytes maxL ret n) (cv : Cond.instanceMethod y ∈ aj_TB ∧ Cond.selects y.cls y y ∈ aj_TB) (ha : a % 16 < 7 ∧ aj_R (a % 16) = y.cls) (haL : a ∈ L)
    (hn : As.length = n) (hroom : rm.frames + 1 ≤ R0.frames ∧ 8 + (maxL + 11) + rm.locals ≤ R0.locals) (hst : (st.map fun v => v.category).sum ≤ 8) (hF' : ∀ i ∈ F', i ∈ gF G) (hno : ∀ i ∈ F', aj_no i lv st) (hbc : bc = rm.cells + bc') (hbs : bs = rm.slots + bs')
    (hM : aj_M (gl G) y (Cond.code y bytes maxL ret :: aj_TB) rm F' (.ref a :: As) I J V N L (aj_kont G pc q lv st bc' bs')) : aj_X G pc lv (As.reverse ++ .ref a :: st) I J V N L bc bs := by
  intro r H locs cells slots ls hP hD hS hLL hF hc hs hlv
  obtain ⟨k0, hk0, he⟩ := aj_ws_at (cs := gcs G) (r := r) (I := I) (J := J) (V := V) (N := N) haL
  rw [aj_el_obj rfl ha.1] at he
  have hrec := va_recv C.k hP (aj_cl (a % 16) ha.1) he
  rw [ha.2] at hrec
  have cw : CallW (gR G) (gs G) (ga G) own y.cls idx y bytes maxL ret (Cond.code y bytes maxL ret :: aj_TB) rm rm.cells rm.slots n := ⟨callB_of n C.ts (aj_goodIn cd.1) rfl rfl rfl (C.ts _ cd.2.1) (C.ts _ hl) cd.2.2 (by rw [C.r]; exact hroom), C.ts _ cv.1, C.ts _ cv.2⟩
  refine aj_after (rm := rm) (F' := F') (av := .ref a :: As) (bc' := bc') (bs' := bs') hq hP hD hS hLL hF (by omega) (by omega) hlv (aj_subA C hD hS) hF' hno (vx_runV (As := As.map (aj_v r)) (b := r a) ⟨C.x, C.b, C.ml, C.o, C.ts⟩ (hM C.st (gD G) (gcs G) r H.size) cw ⟨aj_blind, hrec, fun U hU hW => aj_pre (av := .ref a :: As) C hP hD hS hF U hU hW⟩ rfl (by rw [List.length_map]; exact hn) hlv.1 ?_ (by rw [aj_st_cat]; exact lv_room hst) (C.d h) ⟨by omega, by omega⟩)
  show (As.reverse ++ .ref a :: st).map (aj_v r) = (As.map (aj_v r)).reverse ++ .ref (r a) :: st.map (aj_v r)
  rw [List.map_append, List.map_reverse]; rfl
theorem x_invS (C : aj_C G cc tbl own R0 nL) (k : Nat) (h : tbl[k]? = some (pc, .invokestatic idx, 3)) (hq : pc + 3 = q) (hl : Cond.methodLink own idx y ∈ aj_TB) (cd : aj_cd y bytes maxL ret n) (cv : Cond.static y ∈ aj_TB)
    (hn : As.length = n) (hroom : rm.frames + 1 ≤ R0.frames ∧ 8 + (maxL + 11) + rm.locals ≤ R0.locals) (hst : (st.map fun v => v.category).sum ≤ 8) (hF' : ∀ i ∈ F', i ∈ gF G) (hno : ∀ i ∈ F', aj_no i lv st) (hbc : bc = rm.cells + bc') (hbs : bs = rm.slots + bs')
    (hM : aj_M (gl G) y (Cond.code y bytes maxL ret :: aj_TB) rm F' As I J V N L (aj_kont G pc q lv st bc' bs')) : aj_X G pc lv (As.reverse ++ st) I J V N L bc bs := by
  intro r H locs cells slots ls hP hD hS hLL hF hc hs hlv
  have cw : CallB (gR G) (gs G) (ga G) own idx y bytes maxL ret (Cond.code y bytes maxL ret :: aj_TB) rm rm.cells rm.slots n ∧ (Cond.static y).before (ga G) (gs G) = true := ⟨callB_of n C.ts (aj_goodIn cd.1) rfl rfl rfl (C.ts _ cd.2.1) (C.ts _ hl) cd.2.2 (by rw [C.r]; exact hroom), C.ts _ cv⟩
  refine aj_after (rm := rm) (F' := F') (av := As) (bc' := bc') (bs' := bs') hq hP hD hS hLL hF (by omega) (by omega) hlv (aj_subA C hD hS) hF' hno (vx_runS (As := As.map (aj_v r)) ⟨C.x, C.b, C.ml, C.o, C.ts⟩ (hM C.st (gD G) (gcs G) r H.size) cw ⟨aj_blind, fun U hU hW => aj_pre (av := As) C hP hD hS hF U hU hW⟩ rfl (by rw [List.length_map]; exact hn) hlv.1 ?_ (by rw [aj_st_cat]; exact lv_room hst) (C.d h) ⟨by omega, by omega⟩)
  show (As.reverse ++ st).map (aj_v r) = (As.map (aj_v r)).reverse ++ st.map (aj_v r)
  rw [List.map_append, List.map_reverse]
theorem x_invI (C : aj_C G cc tbl own R0 nL) (k : Nat) (h : tbl[k]? = some (pc, .invokespecial idx, 3)) (hq : pc + 3 = q) (hl : Cond.methodLink own idx y ∈ aj_TB) (cd : aj_cd y bytes maxL none n) (cv : Cond.instanceMethod y ∈ aj_TB) (hy : y.name = "<init>")
    (hn : As.length = n) (hroom : rm.frames + 1 ≤ R0.frames ∧ 8 + (maxL + 11) + rm.locals ≤ R0.locals) (hst : (st.map fun v => v.category).sum ≤ 8) (hF' : ∀ i ∈ F', i ∈ gF G) (hno : ∀ i ∈ F', aj_no i lv st) (hbc : bc = rm.cells + bc') (hbs : bs = rm.slots + bs')
    (hM : aj_M (gl G) y (Cond.code y bytes maxL none :: aj_TB) rm F' (.ref a :: As) I J V N L (aj_kont G pc q lv st bc' bs')) : aj_X G pc lv (As.reverse ++ .ref a :: st) I J V N L bc bs := by
  intro r H locs cells slots ls hP hD hS hLL hF hc hs hlv
  have cw : CallB (gR G) (gs G) (ga G) own idx y bytes maxL none (Cond.code y bytes maxL none :: aj_TB) rm rm.cells rm.slots n := callB_of n C.ts (aj_goodIn cd.1) rfl rfl rfl (C.ts _ cd.2.1) (C.ts _ hl) cd.2.2 (by rw [C.r]; exact hroom)
  refine aj_after (rm := rm) (F' := F') (av := .ref a :: As) (bc' := bc') (bs' := bs') hq hP hD hS hLL hF (by omega) (by omega) hlv (aj_subA C hD hS) hF' hno (vx_runI (As := As.map (aj_v r)) (b := r a) ⟨C.x, C.b, C.ml, C.o, C.ts⟩ (hM C.st (gD G) (gcs G) r H.size) ⟨cw, hy, C.ts _ cv⟩ ⟨aj_blind, fun U hU hW => aj_pre (av := .ref a :: As) C hP hD hS hF U hU hW⟩ rfl (by rw [List.length_map]; exact hn) hlv.1 ?_ (by rw [aj_st_cat]; exact lv_room hst) (C.d h) ⟨by omega, by omega⟩)
  show (As.reverse ++ .ref a :: st).map (aj_v r) = (As.map (aj_v r)).reverse ++ .ref (r a) :: st.map (aj_v r)
  rw [List.map_append, List.map_reverse]; rfl
theorem x_invIN {host : String} (C : aj_C G cc tbl own R0 nL) (k : Nat) (h : tbl[k]? = some (pc, .invokespecial idx, 3)) (hq : pc + 3 = q) (hl : (own, idx, y, host) ∈ aj_NM) (cd : aj_cd y bytes maxL none n) (cv : Cond.instanceMethod y ∈ aj_TB) (hy : y.name = "<init>")
    (hn : As.length = n) (hroom : rm.frames + 1 ≤ R0.frames ∧ 8 + (maxL + 11) + rm.locals ≤ R0.locals) (hst : (st.map fun v => v.category).sum ≤ 8) (hF' : ∀ i ∈ F', i ∈ gF G) (hno : ∀ i ∈ F', aj_no i lv st) (hbc : bc = rm.cells + bc') (hbs : bs = rm.slots + bs')
    (hM : aj_M (gl G) y (Cond.code y bytes maxL none :: aj_TB) rm F' (.ref a :: As) I J V N L (aj_kont G pc q lv st bc' bs')) : aj_X G pc lv (As.reverse ++ .ref a :: st) I J V N L bc bs := by
  intro r H locs cells slots ls hP hD hS hLL hF hc hs hlv
  have cw : va_CN (gR G) (gs G) (ga G) own idx y host bytes maxL none (Cond.code y bytes maxL none :: aj_TB) rm rm.cells rm.slots n := va_cnB n C.ts (aj_goodIn cd.1) rfl rfl rfl (C.gw.2.2.1 _ hl) (C.ts _ cd.2.1) cd.2.2 (by rw [C.r]; exact hroom)
  refine aj_after (rm := rm) (F' := F') (av := .ref a :: As) (bc' := bc') (bs' := bs') hq hP hD hS hLL hF (by omega) (by omega) hlv (aj_subA C hD hS) hF' hno (vx_runIN (As := As.map (aj_v r)) (b := r a) ⟨C.x, C.b, C.ml, C.o, C.ts⟩ (hM C.st (gD G) (gcs G) r H.size) ⟨cw, hy, C.ts _ cv⟩ ⟨aj_blind, fun U hU hW => aj_pre (av := .ref a :: As) C hP hD hS hF U hU hW⟩ rfl (by rw [List.length_map]; exact hn) hlv.1 ?_ (by rw [aj_st_cat]; exact lv_room hst) (C.d h) ⟨by omega, by omega⟩)
  show (As.reverse ++ .ref a :: st).map (aj_v r) = (As.map (aj_v r)).reverse ++ .ref (r a) :: st.map (aj_v r)
  rw [List.map_append, List.map_reverse]; rfl
theorem x_invSN {host : String} (C : aj_C G cc tbl own R0 nL) (k : Nat) (h : tbl[k]? = some (pc, .invokestatic idx, 3)) (hq : pc + 3 = q) (hl : (own, idx, y, host) ∈ aj_NM) (cd : aj_cd y bytes maxL ret n) (cv : Cond.static y ∈ aj_TB)
    (hn : As.length = n) (hroom : rm.frames + 1 ≤ R0.frames ∧ 8 + (maxL + 11) + rm.locals ≤ R0.locals) (hst : (st.map fun v => v.category).sum ≤ 8) (hF' : ∀ i ∈ F', i ∈ gF G) (hno : ∀ i ∈ F', aj_no i lv st) (hbc : bc = rm.cells + bc') (hbs : bs = rm.slots + bs')
    (hM : aj_M (gl G) y (Cond.code y bytes maxL ret :: aj_TB) rm F' As I J V N L (aj_kont G pc q lv st bc' bs')) : aj_X G pc lv (As.reverse ++ st) I J V N L bc bs := by
  intro r H locs cells slots ls hP hD hS hLL hF hc hs hlv
  have cw : va_CN (gR G) (gs G) (ga G) own idx y host bytes maxL ret (Cond.code y bytes maxL ret :: aj_TB) rm rm.cells rm.slots n := va_cnB n C.ts (aj_goodIn cd.1) rfl rfl rfl (C.gw.2.2.1 _ hl) (C.ts _ cd.2.1) cd.2.2 (by rw [C.r]; exact hroom)
  refine aj_after (rm := rm) (F' := F') (av := As) (bc' := bc') (bs' := bs') hq hP hD hS hLL hF (by omega) (by omega) hlv (aj_subA C hD hS) hF' hno (vx_runSN (As := As.map (aj_v r)) ⟨C.x, C.b, C.ml, C.o, C.ts⟩ (hM C.st (gD G) (gcs G) r H.size) ⟨cw, C.ts _ cv, trivial⟩ ⟨aj_blind, fun U hU hW => aj_pre (av := As) C hP hD hS hF U hU hW⟩ rfl (by rw [List.length_map]; exact hn) hlv.1 ?_ (by rw [aj_st_cat]; exact lv_room hst) (C.d h) ⟨by omega, by omega⟩)
  show (As.reverse ++ st).map (aj_v r) = (As.map (aj_v r)).reverse ++ st.map (aj_v r)
  rw [List.map_append, List.map_reverse]
end IV
end AJ4
end
section
section AJ5
variable {G : aj_G} {cc : ByteArray} {tbl : List (Nat × Instr × Nat)} {own : String} {R0 : Room} {nL : Nat} {pc q : Nat} {lv lv' : List (Option Value)} {st st' : List Value} {I : Nat → Nat → Int32} {J : Nat → Nat → Int64} {V : Nat → Nat → Option Nat} {N : Nat → Nat} {L : List Nat} {bc bs : Nat}
-- THROWING: new X(text), in Raywalk
def aj_TH : List (String × Nat × Nat × Nat × String) := [("java/lang/IndexOutOfBoundsException", 327, 329, 331, "no such cell"), ("java/lang/IndexOutOfBoundsException", 327, 334, 331, "no such place"), ("java/lang/IllegalArgumentException", 336, 338, 340, "out of its range")]
def aj_sup : List String := ["java/lang/RuntimeException", "java/lang/Exception"]
def aj_B (E : String) : List Cond := .castable E E :: aj_DC.map Cond.declares
theorem aj_th_ok : ∀ x ∈ aj_TH, Bundle.fit x.1 = true ∧ Cond.classLink "Raywalk" x.2.1 x.1 ∈ aj_TB ∧ Cond.initialized x.1 ∈ aj_TB ∧ x.1 ∈ aj_ex ∧ ("Raywalk", x.2.2.1, x.2.2.2.2) ∈ aj_SR := by decide +kernel
theorem aj_th_atS : ∀ x ∈ aj_TH, (∀ w ∈ (vx_atS "Raywalk" x.2.2.2.1 x.1 aj_sup).filter goodWord, w ∈ aj_TB) ∧ (∀ w ∈ (vx_atS "Raywalk" x.2.2.2.1 x.1 aj_sup).filter (fun w => !goodWord w), w ∈ aj_B x.1) ∧ (∀ w ∈ Cond.classLink "Raywalk" x.2.1 x.1 :: Cond.initialized x.1 :: vx_atS "Raywalk" x.2.2.2.1 x.1 aj_sup, vx_ot w = true) := by decide +kernel
theorem aj_sup_fit : ∀ n ∈ aj_sup, Bundle.fit n = true := by decide +kernel
theorem aj_GW.B {r : Nat → Nat} {A : Nat → Prop} {U : State} {H : Heap} (h : aj_GW r A U H) {E : String} (hE : E ∈ aj_ex) (a : Array Value) : ∀ w ∈ aj_B E, w.before a U = true := by
  intro w hw
  rcases List.mem_cons.mp hw with e | e
  · subst e; exact va_Nw.use rfl (h.2.2.2.2.1 E hE)
  · obtain ⟨x, hx, rfl⟩ := List.mem_map.mp e
    exact va_Nw.use rfl (h.2.2.2.2.2.1 x hx)
theorem x_throw {ret : Option FieldType} {K : aj_K} {E : String} {ik is ic bc' bs' : Nat} {text : String} (C : aj_C G cc tbl "Raywalk" R0 nL) (Z : aj_Z G ret K) (NX : aj_NX G) (k : Nat) (hx : (E, ik, is, ic, text) ∈ aj_TH) (h0 : tbl[k]? = some (pc, .new ik, 3)) (h1 : tbl[k + 1]? = some (pc + 3, .dup, 1)) (h2 : tbl[k + 2]? = some (pc + 4, .ldc_w is, 3)) (h3 : tbl[k + 3]? = some (pc + 7, .invokespecial ic, 3)) (h4 : tbl[k + 4]? = some (pc + 10, .athrow, 1))
    (hroom : 5 < R0.frames ∧ (st.map fun v => v.category).sum + 82 ≤ R0.locals) (hbc : bc = bc' + 1) (hbs : bs = bs' + 6) (hk : K (.inr E) I J V N L) : aj_X G pc lv st I J V N L bc bs := by
  intro r H locs cells slots ls hP hD hS hLL hF hc hs hl
  obtain ⟨o1, o2, o3, o4, o5⟩ := aj_th_ok _ hx
  obtain ⟨a1, a2, a3⟩ := aj_th_atS _ hx
  obtain ⟨sa, hsa⟩ := C.gw.2.2.2.2.2.2.1 _ o5
  show W _ _ _ _ _ _ _ _ _ _ H locs cells slots (gQ G) _
  rw [Z.2]
  refine vx_throwSW (cls := E) (text := text) (names := aj_sup) (sa := sa) C.x C.b C.st C.o o1 aj_sup_fit (C.ts _ o2) (C.ts _ o3) hsa (vx_hat (fun w hw => C.ts _ (a1 w hw)) a2 (C.gw.B o4 _)) a3 C.gw.1.1 C.gw.1.2.1 hS (hl.1.trans C.ml.symm) (C.d h0) (C.d h1) (C.d h2) (C.d h3) (C.d h4) (fun x hx => (NX x hx).elim) (by rw [C.r]; exact hroom.1) (by rw [aj_st_cat, C.r]; show _ + 82 ≤ _; exact hroom.2) (by omega) (by omega) C.lk (fun t hvm hz hk2 => ?_) hS.2.2 (by omega) (by omega)
  exact ⟨r, I, J, V, N, L, hk, hLL, hF, hP.kept (fun k q hq => hk2 q.1 (hP k q hq).lt), hD, Nat.le_trans hS.1 hz, fun q h1 h2 => (hk2 q (Nat.lt_of_lt_of_le h1 hS.1)).trans (hS.2.1 q h1 h2)⟩
-- CATCHING
theorem aj_caught {hp : Nat} (h15 : 15 ∈ gF G) (hL : 15 ∉ L) (hV : ∀ i ∈ L, ∀ j, V i j ≠ some 15) (hno : ∀ v ∈ lv, v ≠ some (.ref 15)) {r : Nat → Nat} {H : Heap} {locs : List Loc} {cells slots : Nat} {ls : Array Slot} {q9 : Addr} (hP : va_P (gD G) vwCl (aj_ws (gcs G) r I J V N L) H) (hD : va_D (gA G) (aj_ws (gcs G) r I J V N L)) (hS : va_S (gA G) (gs G).heap H locs) (hLL : ∀ i ∈ gL G, i ∈ L) (hF : ∀ i, i ∉ gF G → r i = gr G i) (hc : cells + bc ≤ (gR G).cells) (hs : slots + bs ≤ (gR G).slots) (hl : lv_has ls (gn G) (aj_lvs r 0 lv))
    (kk : aj_X G hp lv [.ref 15] I J V N L bc bs) : aj_W G H locs cells slots (F0 (gm G) hp ls [.ref q9]) := by
  have hws : aj_ws (gcs G) (aj_ur r 15 q9) I J V N L = aj_ws (gcs G) r I J V N L := aj_ws_congr (fun i hi => ⟨aj_ur_n r q9 (fun e => hL (e ▸ hi)), aj_el_ur (hV i hi) rfl rfl rfl rfl⟩)
  have hk := kk (aj_ur r 15 q9) H locs cells slots ls (by rw [hws]; exact hP) (by rw [hws]; exact hD) hS hLL (fun i hi => (aj_ur_n r q9 (fun e => hi (by rw [e]; exact h15))).trans (hF i hi)) hc hs (by rw [aj_lvs_ur hno]; exact hl)
  have e : ([Value.ref 15] : List Value).map (aj_v (aj_ur r 15 q9)) = [Value.ref q9] := by
    show [Value.ref (aj_ur r 15 q9 15)] = _
    rw [aj_ur_s]
  rw [e] at hk
  exact hk
/-- by the first row of the table -/
theorem x_catch1 {E : String} {a b hp ct : Nat} {suf : List (Nat × Nat × Nat × Nat)} (C : aj_C G cc tbl own R0 nL) (ht : (gc G).exceptionTable.toList = tableOf ((a, b, hp, ct) :: suf)) (hcv : a ≤ pc ∧ pc < b) (h0 : ct ≠ 0) (hw : Cond.classLink own ct E ∈ aj_TB) (hE : E ∈ aj_ex) (h15 : 15 ∈ gF G) (hL : 15 ∉ L) (hV : ∀ i ∈ L, ∀ j, V i j ≠ some 15) (hno : ∀ v ∈ lv, v ≠ some (.ref 15)) (kk : aj_X G hp lv [.ref 15] I J V N L bc bs) : aj_XT G pc lv E I J V N L bc bs := by
  intro r H locs cells slots ls st q9 ce hP hD hS hLL hF hc hs hl h1 h2 h3
  refine vx_catch C.o [] ⟨a, b, hp, ct⟩ (tableOf suf) ht (fun z hz => nomatch hz) ?_ h0 (C.ts _ hw) (va_Nw.use rfl (C.gw.2.2.2.2.1 E hE)) h1 h2 h3 (aj_caught h15 hL hV hno hP hD hS hLL hF hc hs hl kk)
  simp [covers, hcv.1, hcv.2]
/-- an IllegalArgumentException, by the second row, behind one that takes an IndexOutOfBoundsException -/
theorem x_catch2 {a b hp ct a1 b1 hp1 ct1 : Nat} {suf : List (Nat × Nat × Nat × Nat)} (C : aj_C G cc tbl own R0 nL) (ht : (gc G).exceptionTable.toList = tableOf ((a1, b1, hp1, ct1) :: (a, b, hp, ct) :: suf)) (hcv : a ≤ pc ∧ pc < b) (h0 : ct ≠ 0 ∧ ct1 ≠ 0) (hw : Cond.classLink own ct "java/lang/IllegalArgumentException" ∈ aj_TB) (hw1 : Cond.classLink own ct1 "java/lang/IndexOutOfBoundsException" ∈ aj_TB) (h15 : 15 ∈ gF G) (hL : 15 ∉ L) (hV : ∀ i ∈ L, ∀ j, V i j ≠ some 15) (hno : ∀ v ∈ lv, v ≠ some (.ref 15)) (kk : aj_X G hp lv [.ref 15] I J V N L bc bs) : aj_XT G pc lv "java/lang/IllegalArgumentException" I J V N L bc bs := by
  intro r H locs cells slots ls st q9 ce hP hD hS hLL hF hc hs hl h1 h2 h3
  refine vx_catch C.o [⟨a1, b1, hp1, ct1⟩] ⟨a, b, hp, ct⟩ (tableOf suf) ht (fun z hz => ?_) ?_ h0.1 (C.ts _ hw) (va_Nw.use rfl (C.gw.2.2.2.2.1 _ (by decide))) h1 h2 h3 (aj_caught h15 hL hV hno hP hD hS hLL hF hc hs hl kk)
  · rcases List.mem_cons.mp hz with e | e
    · subst e; exact Or.inr ⟨h0.2, _, C.ts _ hw1, C.gw.2.2.2.2.2.2.2⟩
    · cases e
  · simp [covers, hcv.1, hcv.2]
-- METHODS WITH A TABLE OF HANDLERS
set_option maxHeartbeats 1000000 in
theorem aj_introW {l : Launch} {y : MethodName} {maxL : Nat} {ret : Option FieldType} {hh : List (Nat × Nat × Nat × Nat)} {rm : Room} {F : List Nat} {av : List Value} {K : aj_K} {lv0 : List (Option Value)} (hy : plainName y.cls = true) (htbl : ∀ e ∈ tbl, decode cc e.1 = .ok e.2) (hF : ∀ i ∈ F, ¬ aj_sp i) (hlen : (lg_sl av).length ≤ maxL) (hlv : aj_ini av ++ List.replicate (maxL - (lg_sl av).length) none = lv0)
    (body : ∀ G : aj_G, gl G = l → aj_C G cc tbl y.cls rm maxL → aj_Z G ret K → (gc G).exceptionTable.toList = tableOf hh → gL G = L → gF G = F → aj_X G 0 lv0 [] I J V N L rm.cells rm.slots) : aj_M l y (Cond.codeWith y cc maxL ret hh :: aj_TB) rm F av I J V N L K := by
  intro hst D cs r sz
  refine vx_ofWH hy rfl ?_
  intro p e s m args below meth c s₁ B hml hv
  obtain ⟨hA, hsz, hP, hK, hD, hGW⟩ := hv
  subst hsz
  have hts := atoms_spec (ws := Cond.codeWith y cc maxL ret hh :: aj_TB) B.pre
  refine aj_start (D := D) (cs := cs) (r := r) (F := F) (R := rm) hlen hlv hA hP hD (body _ rfl ?_ ⟨B.returns, rfl⟩ (vx_table (x := y) B (hts _ List.mem_cons_self)) rfl rfl)
  exact ⟨B.exec, B.bytes, hml, findClass_of_methodNamed B.named, fun w hw => hts w (List.mem_cons_of_mem _ hw), hK, fun q hq => Or.inr hq, htbl, rfl, rfl, hst, hF, hGW, B.notSynchronized⟩
def aj_cw (y : MethodName) (bytes : ByteArray) (maxL : Nat) (ret : Option FieldType) (hh : List (Nat × Nat × Nat × Nat)) (n : Nat) : Prop :=
  Cond.codeWith y bytes maxL ret hh ∈ aj_TB ∧ Cond.initialized y.cls ∈ aj_TB ∧ Cond.static y ∈ aj_TB ∧ (y.cls ≠ "java/lang/invoke/MethodHandle" ∧ y.cls ≠ "java/lang/invoke/VarHandle" ∧ (parseMethodDescriptor y.desc).map (fun d => d.parameters.length) = some n)
theorem x_invSW {idx maxL n bc' bs' : Nat} {y : MethodName} {bytes : ByteArray} {ret : Option FieldType} {hh : List (Nat × Nat × Nat × Nat)} {rm : Room} {F' : List Nat} {As : List Value} (C : aj_C G cc tbl own R0 nL) (k : Nat) (h : tbl[k]? = some (pc, .invokestatic idx, 3)) (hq : pc + 3 = q) (hl : Cond.methodLink own idx y ∈ aj_TB) (cd : aj_cw y bytes maxL ret hh n)
    (hn : As.length = n) (hroom : rm.frames + 1 ≤ R0.frames ∧ 8 + (maxL + 11) + rm.locals ≤ R0.locals) (hst : (st.map fun v => v.category).sum ≤ 8) (hF' : ∀ i ∈ F', i ∈ gF G) (hno : ∀ i ∈ F', aj_no i lv st) (hbc : bc = rm.cells + bc') (hbs : bs = rm.slots + bs')
    (hM : aj_M (gl G) y (Cond.codeWith y bytes maxL ret hh :: aj_TB) rm F' As I J V N L (aj_kont G pc q lv st bc' bs')) : aj_X G pc lv (As.reverse ++ st) I J V N L bc bs := by
  intro r H locs cells slots ls hP hD hS hLL hF hc hs hlv
  have hG := aj_goodIn cd.1
  have cw : vx_CSW (gR G) (gs G) (ga G) own idx y bytes maxL ret hh (Cond.codeWith y bytes maxL ret hh :: aj_TB) rm rm.cells rm.slots n := vx_cwSW n C.ts (fun w hw => by
    rcases List.mem_append.mp hw with e | e
    · rcases List.mem_cons.mp e with e | e
      · subst e; exact aj_good _ hl
      · rcases List.mem_cons.mp e with e | e
        · subst e; exact aj_good _ cd.2.2.1
        · rcases List.mem_cons.mp e with e | e
          · subst e; exact aj_good _ cd.2.1
          · cases e
    · exact hG w e) rfl rfl rfl cd.2.2.2 (by rw [C.r]; exact hroom)
  refine aj_after (rm := rm) (F' := F') (av := As) (bc' := bc') (bs' := bs') hq hP hD hS hLL hF (by omega) (by omega) hlv (aj_subA C hD hS) hF' hno (vx_runSX (As := As.map (aj_v r)) ⟨C.x, C.b, C.ml, C.o, C.ts⟩ (hM C.st (gD G) (gcs G) r H.size) cw ⟨aj_blind, fun U hU hW => aj_pre (av := As) C hP hD hS hF U hU hW⟩ rfl (by rw [List.length_map]; exact hn) hlv.1 ?_ (by rw [aj_st_cat]; exact lv_room hst) (C.d h) ⟨by omega, by omega⟩)
  show (As.reverse ++ st).map (aj_v r) = (As.map (aj_v r)).reverse ++ st.map (aj_v r)
  rw [List.map_append, List.map_reverse]
-- OTHER ROWS
theorem x_objInit {idx i : Nat} (C : aj_C G cc tbl own R0 nL) (k : Nat) (h : tbl[k]? = some (pc, .invokespecial idx, 3)) (hq : pc + 3 = q) (hw : Cond.methodLink own idx Lib.objectInit ∈ aj_TB) (hw2 : Cond.instanceMethod Lib.objectInit ∈ aj_TB ∧ Cond.code Lib.objectInit ⟨#[0xb1]⟩ 1 none ∈ aj_TB) (hroom : 1 ≤ R0.frames ∧ (st.map fun v => v.category).sum + 12 ≤ R0.locals) (kk : aj_X G q lv st I J V N L bc bs) : aj_X G pc lv (.ref i :: st) I J V N L bc bs := by
  subst hq
  intro r H locs cells slots ls hP hD hS hLL hF hc hs hl
  exact W.objInit C.x C.b C.o (C.ts _ hw) (C.ts _ hw2.1) (C.ts _ hw2.2) rfl (hl.1.trans C.ml.symm) rfl (C.d h) (by rw [C.r]; exact hroom.1) (by rw [aj_st_cat, C.r]; show 0 + _ + 12 ≤ _; have := hroom.2; omega) (kk r H locs cells slots ls hP hD hS hLL hF hc hs hl)
theorem x_abs {idx : Nat} {x : Int32} (C : aj_C G cc tbl own R0 nL) (k : Nat) (h : tbl[k]? = some (pc, .invokestatic idx, 3)) (hq : pc + 3 = q) (hw : Cond.methodLink own idx Lib.Math.abs.name ∈ aj_TB) (hw2 : Cond.static Lib.Math.abs.name ∈ aj_TB ∧ Cond.initialized "java/lang/Math" ∈ aj_TB ∧ Cond.code Lib.Math.abs.name Lib.Math.abs.code 1 (some .int) ∈ aj_TB) (hroom : 1 ≤ R0.frames ∧ (st.map fun v => v.category).sum + 13 ≤ R0.locals) (kk : aj_X G q lv (.int (if 0 ≤ x then x else 0 - x) :: st) I J V N L bc bs) : aj_X G pc lv (.int x :: st) I J V N L bc bs := by
  subst hq
  intro r H locs cells slots ls hP hD hS hLL hF hc hs hl
  exact va_mabs C.x C.b (C.ml.trans hl.1.symm) C.o (C.ts _ hw) (C.ts _ hw2.1) (C.ts _ hw2.2.1) (C.ts _ hw2.2.2) (by rw [C.r]; exact hroom.1) (by rw [aj_st_cat, C.r]; exact hroom.2) (by omega) (by omega) (C.d h) (kk r H locs cells slots ls hP hD hS hLL hF hc hs hl)
theorem x_marks {idx : Nat} (C : aj_C G cc tbl own R0 nL) (k : Nat) (h : tbl[k]? = some (pc, .getstatic idx, 3)) (hq : pc + 3 = q) (hw : Cond.fieldLink own idx "Raywalk" "MARKS" "[I" ∈ aj_TB) (kk : aj_X G q lv (.ref 12 :: st) I J V N L bc bs) : aj_X G pc lv st I J V N L bc bs := by
  subst hq
  intro r H locs cells slots ls hP hD hS hLL hF hc hs hl
  have e : r 12 = gr G 12 := hF 12 (fun h => C.f 12 h (Or.inl rfl))
  refine va_gets C.x C.b (v := .ref (r 12)) ?_ hS C.o (C.ts _ hw) (fun _ z => z) (C.d h) (kk r H locs cells slots ls hP hD hS hLL hF hc hs hl)
  rw [e]; exact C.gw.1.2.2.1
theorem x_mald {j : Int32} {v : Value} (C : aj_C G cc tbl own R0 nL) (k : Nat) (h : tbl[k]? = some (pc, .iaload, 1)) (hq : pc + 1 = q) (hin : vp_in j 16) (hv : aj_mk j.toNatClampNeg = v) (kk : aj_X G q lv (v :: st) I J V N L bc bs) : aj_X G pc lv (.int j :: .ref 12 :: st) I J V N L bc bs := by
  subst hq
  subst hv
  intro r H locs cells slots ls hP hD hS hLL hF hc hs hl
  have e : r 12 = gr G 12 := hF 12 (fun h => C.f 12 h (Or.inl rfl))
  refine va_ti C.x C.b (t := r 12) (N := 16) (f := aj_mk) ?_ hS hin rfl (C.d h) ?_
  · rw [e]; exact C.gw.1.2.2.2.1
  · exact kk r H locs cells slots ls hP hD hS hLL hF hc hs hl
theorem x_mlen (C : aj_C G cc tbl own R0 nL) (k : Nat) (h : tbl[k]? = some (pc, .arraylength, 1)) (hq : pc + 1 = q) (kk : aj_X G q lv (.int 16 :: st) I J V N L bc bs) : aj_X G pc lv (.ref 12 :: st) I J V N L bc bs := by
  subst hq
  intro r H locs cells slots ls hP hD hS hLL hF hc hs hl
  have e : r 12 = gr G 12 := hF 12 (fun h => C.f 12 h (Or.inl rfl))
  refine va_tlen C.x C.b (t := r 12) (N := 16) (f := aj_mk) (ty := .int) ?_ hS rfl (C.d h) (kk r H locs cells slots ls hP hD hS hLL hF hc hs hl)
  rw [e]; exact C.gw.1.2.2.2.1
theorem x_swIn {dflt lo hi : Int} {offs : Array Int} {len : Nat} {x : Int32} {off : Int} {t : Nat} (C : aj_C G cc tbl own R0 nL) (k : Nat) (h : tbl[k]? = some (pc, .tableswitch dflt lo hi offs, len)) (h1 : ¬ x.toInt < lo) (h2 : ¬ hi < x.toInt) (ho : offs[(x.toInt - lo).toNat]? = some off) (ht : (pc : Int) + off = (t : Int)) (kk : aj_X G t lv st I J V N L bc bs) : aj_X G pc lv (.int x :: st) I J V N L bc bs :=
  fun r H locs cells slots ls hP hD hS hLL hF hc hs hl => lv_tableIn C.x C.b (C.d h) h1 h2 ho ht (kk r H locs cells slots ls hP hD hS hLL hF hc hs hl)
theorem x_swOut {dflt lo hi : Int} {offs : Array Int} {len : Nat} {x : Int32} {t : Nat} (C : aj_C G cc tbl own R0 nL) (k : Nat) (h : tbl[k]? = some (pc, .tableswitch dflt lo hi offs, len)) (h1 : x.toInt < lo ∨ hi < x.toInt) (ht : (pc : Int) + dflt = (t : Int)) (kk : aj_X G t lv st I J V N L bc bs) : aj_X G pc lv (.int x :: st) I J V N L bc bs :=
  fun r H locs cells slots ls hP hD hS hLL hF hc hs hl => lv_tableOut C.x C.b (C.d h) h1 ht (kk r H locs cells slots ls hP hD hS hLL hF hc hs hl)
theorem x_iinc {i : Nat} {n : Int} {x v : Int32} (C : aj_C G cc tbl own R0 nL) (k : Nat) (h : tbl[k]? = some (pc, .iinc i n, 3)) (hq : pc + 3 = q) (hi : lv[i]? = some (some (.int x))) (hv : x + Int32.ofInt n = v) (hn : i < nL) (hnl : aj_nl lv i) (hlv : lv.set i (some (.int v)) = lv') (kk : aj_X G q lv' st I J V N L bc bs) : aj_X G pc lv st I J V N L bc bs := by
  subst hq
  subst hlv
  subst hv
  intro r H locs cells slots ls hP hD hS hLL hF hc hs hl
  obtain ⟨k0, hk0⟩ := List.getElem?_of_mem ((aj_lvs_mem r lv 0 (i, .int x)).mpr ⟨i, .int x, hi, by rw [Nat.zero_add]; rfl⟩)
  exact lv_iinc C.x C.b (C.d h) hl hk0 rfl (by rw [C.n]; exact hn) rfl (fun ls' hl' => kk r H locs cells slots ls' hP hD hS hLL hF hc hs (aj_set1 hnl hl'))
end AJ5
end
section
section AJ6
variable {G : aj_G} {cc : ByteArray} {tbl : List (Nat × Instr × Nat)} {own : String} {R0 : Room} {nL : Nat} {pc q : Nat} {lv lv' : List (Option Value)} {st st' : List Value} {I : Nat → Nat → Int32} {J : Nat → Nat → Int64} {V : Nat → Nat → Option Nat} {N : Nat → Nat} {L : List Nat} {bc bs : Nat}
def aj_nlv : Option Value → Bool
  | none => true
  | some v => v.category == 1
theorem aj_nl_of {l : List (Option Value)} {i : Nat} (h : ∀ j, j + 1 = i → ∃ o, l[j]? = some o ∧ aj_nlv o = true) : aj_nl l i := by
  intro j v hj hi
  obtain ⟨o, ho, hb⟩ := h j hi
  rw [ho] at hj
  cases Option.some.inj hj
  simpa [aj_nlv] using hb
theorem y_iload0 (C : aj_C G cc tbl own R0 nL) (k : Nat) {x : Int32} {r : List (Option Value)} (h : tbl[k]? = some (pc, .iload_n 0, 1)) (hq : pc + 1 = q) (kk : aj_X G q (some (.int x) :: r) (.int x :: st) I J V N L bc bs) : aj_X G pc (some (.int x) :: r) st I J V N L bc bs := x_iload_n C k (i := 0) (x := x) rfl h hq kk
theorem y_lload0 (C : aj_C G cc tbl own R0 nL) (k : Nat) {x : Int64} {r : List (Option Value)} (h : tbl[k]? = some (pc, .lload_n 0, 1)) (hq : pc + 1 = q) (kk : aj_X G q (some (.long x) :: r) (.long x :: st) I J V N L bc bs) : aj_X G pc (some (.long x) :: r) st I J V N L bc bs := x_lload_n C k (i := 0) (x := x) rfl h hq kk
theorem y_aload0 (C : aj_C G cc tbl own R0 nL) (k : Nat) {x : Nat} {r : List (Option Value)} (h : tbl[k]? = some (pc, .aload_n 0, 1)) (hq : pc + 1 = q) (kk : aj_X G q (some (.ref x) :: r) (.ref x :: st) I J V N L bc bs) : aj_X G pc (some (.ref x) :: r) st I J V N L bc bs := x_aload_n C k (i := 0) (x := x) rfl h hq kk
theorem y_istore0 (C : aj_C G cc tbl own R0 nL) (k : Nat) {x : Int32} {b : Option Value} {r : List (Option Value)} (h : tbl[k]? = some (pc, .istore_n 0, 1)) (hq : pc + 1 = q) (hn : 0 < nL) (kk : aj_X G q (some (.int x) :: r) st I J V N L bc bs) : aj_X G pc (b :: r) (.int x :: st) I J V N L bc bs := x_istore_n C k (i := 0) h hq hn (aj_nl_of (fun j hj => absurd hj (by omega))) rfl kk
theorem y_astore0 (C : aj_C G cc tbl own R0 nL) (k : Nat) {x : Nat} {b : Option Value} {r : List (Option Value)} (h : tbl[k]? = some (pc, .astore_n 0, 1)) (hq : pc + 1 = q) (hn : 0 < nL) (kk : aj_X G q (some (.ref x) :: r) st I J V N L bc bs) : aj_X G pc (b :: r) (.ref x :: st) I J V N L bc bs := x_astore_n C k (i := 0) h hq hn (aj_nl_of (fun j hj => absurd hj (by omega))) rfl kk
theorem y_lstore0 (C : aj_C G cc tbl own R0 nL) (k : Nat) {x : Int64} {b b2 : Option Value} {r : List (Option Value)} (h : tbl[k]? = some (pc, .lstore_n 0, 1)) (hq : pc + 1 = q) (hn : 0 + 1 < nL) (kk : aj_X G q (some (.long x) :: none :: r) st I J V N L bc bs) : aj_X G pc (b :: b2 :: r) (.long x :: st) I J V N L bc bs := x_lstore_n C k (i := 0) h hq hn (aj_nl_of (fun j hj => absurd hj (by omega))) rfl kk
theorem y_iinc0 (C : aj_C G cc tbl own R0 nL) (k : Nat) {n : Int} {x v : Int32} {r : List (Option Value)} (h : tbl[k]? = some (pc, .iinc 0 n, 3)) (hq : pc + 3 = q) (hv : x + Int32.ofInt n = v) (hn : 0 < nL) (kk : aj_X G q (some (.int v) :: r) st I J V N L bc bs) : aj_X G pc (some (.int x) :: r) st I J V N L bc bs := x_iinc C k (i := 0) h hq rfl hv hn (aj_nl_of (fun j hj => absurd hj (by omega))) rfl kk
theorem y_iload1 (C : aj_C G cc tbl own R0 nL) (k : Nat) {x : Int32} {a0 : Option Value} {r : List (Option Value)} (h : tbl[k]? = some (pc, .iload_n 1, 1)) (hq : pc + 1 = q) (kk : aj_X G q (a0 :: some (.int x) :: r) (.int x :: st) I J V N L bc bs) : aj_X G pc (a0 :: some (.int x) :: r) st I J V N L bc bs := x_iload_n C k (i := 1) (x := x) rfl h hq kk
theorem y_lload1 (C : aj_C G cc tbl own R0 nL) (k : Nat) {x : Int64} {a0 : Option Value} {r : List (Option Value)} (h : tbl[k]? = some (pc, .lload_n 1, 1)) (hq : pc + 1 = q) (kk : aj_X G q (a0 :: some (.long x) :: r) (.long x :: st) I J V N L bc bs) : aj_X G pc (a0 :: some (.long x) :: r) st I J V N L bc bs := x_lload_n C k (i := 1) (x := x) rfl h hq kk
theorem y_aload1 (C : aj_C G cc tbl own R0 nL) (k : Nat) {x : Nat} {a0 : Option Value} {r : List (Option Value)} (h : tbl[k]? = some (pc, .aload_n 1, 1)) (hq : pc + 1 = q) (kk : aj_X G q (a0 :: some (.ref x) :: r) (.ref x :: st) I J V N L bc bs) : aj_X G pc (a0 :: some (.ref x) :: r) st I J V N L bc bs := x_aload_n C k (i := 1) (x := x) rfl h hq kk
theorem y_istore1 (C : aj_C G cc tbl own R0 nL) (k : Nat) {x : Int32} {a0 : Option Value} {b : Option Value} {r : List (Option Value)} (h : tbl[k]? = some (pc, .istore_n 1, 1)) (hq : pc + 1 = q) (hn : 1 < nL) (hl : aj_nlv a0 = true) (kk : aj_X G q (a0 :: some (.int x) :: r) st I J V N L bc bs) : aj_X G pc (a0 :: b :: r) (.int x :: st) I J V N L bc bs := x_istore_n C k (i := 1) h hq hn (aj_nl_of (fun j hj => ⟨a0, by have e : j = 0 := (by omega); subst e; rfl, hl⟩)) rfl kk
theorem y_astore1 (C : aj_C G cc tbl own R0 nL) (k : Nat) {x : Nat} {a0 : Option Value} {b : Option Value} {r : List (Option Value)} (h : tbl[k]? = some (pc, .astore_n 1, 1)) (hq : pc + 1 = q) (hn : 1 < nL) (hl : aj_nlv a0 = true) (kk : aj_X G q (a0 :: some (.ref x) :: r) st I J V N L bc bs) : aj_X G pc (a0 :: b :: r) (.ref x :: st) I J V N L bc bs := x_astore_n C k (i := 1) h hq hn (aj_nl_of (fun j hj => ⟨a0, by have e : j = 0 := (by omega); subst e; rfl, hl⟩)) rfl kk
theorem y_lstore1 (C : aj_C G cc tbl own R0 nL) (k : Nat) {x : Int64} {a0 : Option Value} {b b2 : Option Value} {r : List (Option Value)} (h : tbl[k]? = some (pc, .lstore_n 1, 1)) (hq : pc + 1 = q) (hn : 1 + 1 < nL) (hl : aj_nlv a0 = true) (kk : aj_X G q (a0 :: some (.long x) :: none :: r) st I J V N L bc bs) : aj_X G pc (a0 :: b :: b2 :: r) (.long x :: st) I J V N L bc bs := x_lstore_n C k (i := 1) h hq hn (aj_nl_of (fun j hj => ⟨a0, by have e : j = 0 := (by omega); subst e; rfl, hl⟩)) rfl kk
theorem y_iinc1 (C : aj_C G cc tbl own R0 nL) (k : Nat) {n : Int} {x v : Int32} {a0 : Option Value} {r : List (Option Value)} (h : tbl[k]? = some (pc, .iinc 1 n, 3)) (hq : pc + 3 = q) (hv : x + Int32.ofInt n = v) (hn : 1 < nL) (hl : aj_nlv a0 = true) (kk : aj_X G q (a0 :: some (.int v) :: r) st I J V N L bc bs) : aj_X G pc (a0 :: some (.int x) :: r) st I J V N L bc bs := x_iinc C k (i := 1) h hq rfl hv hn (aj_nl_of (fun j hj => ⟨a0, by have e : j = 0 := (by omega); subst e; rfl, hl⟩)) rfl kk
theorem y_iload2 (C : aj_C G cc tbl own R0 nL) (k : Nat) {x : Int32} {a0 a1 : Option Value} {r : List (Option Value)} (h : tbl[k]? = some (pc, .iload_n 2, 1)) (hq : pc + 1 = q) (kk : aj_X G q (a0 :: a1 :: some (.int x) :: r) (.int x :: st) I J V N L bc bs) : aj_X G pc (a0 :: a1 :: some (.int x) :: r) st I J V N L bc bs := x_iload_n C k (i := 2) (x := x) rfl h hq kk
theorem y_lload2 (C : aj_C G cc tbl own R0 nL) (k : Nat) {x : Int64} {a0 a1 : Option Value} {r : List (Option Value)} (h : tbl[k]? = some (pc, .lload_n 2, 1)) (hq : pc + 1 = q) (kk : aj_X G q (a0 :: a1 :: some (.long x) :: r) (.long x :: st) I J V N L bc bs) : aj_X G pc (a0 :: a1 :: some (.long x) :: r) st I J V N L bc bs := x_lload_n C k (i := 2) (x := x) rfl h hq kk
theorem y_aload2 (C : aj_C G cc tbl own R0 nL) (k : Nat) {x : Nat} {a0 a1 : Option Value} {r : List (Option Value)} (h : tbl[k]? = some (pc, .aload_n 2, 1)) (hq : pc + 1 = q) (kk : aj_X G q (a0 :: a1 :: some (.ref x) :: r) (.ref x :: st) I J V N L bc bs) : aj_X G pc (a0 :: a1 :: some (.ref x) :: r) st I J V N L bc bs := x_aload_n C k (i := 2) (x := x) rfl h hq kk
theorem y_istore2 (C : aj_C G cc tbl own R0 nL) (k : Nat) {x : Int32} {a0 a1 : Option Value} {b : Option Value} {r : List (Option Value)} (h : tbl[k]? = some (pc, .istore_n 2, 1)) (hq : pc + 1 = q) (hn : 2 < nL) (hl : aj_nlv a1 = true) (kk : aj_X G q (a0 :: a1 :: some (.int x) :: r) st I J V N L bc bs) : aj_X G pc (a0 :: a1 :: b :: r) (.int x :: st) I J V N L bc bs := x_istore_n C k (i := 2) h hq hn (aj_nl_of (fun j hj => ⟨a1, by have e : j = 1 := (by omega); subst e; rfl, hl⟩)) rfl kk
theorem y_astore2 (C : aj_C G cc tbl own R0 nL) (k : Nat) {x : Nat} {a0 a1 : Option Value} {b : Option Value} {r : List (Option Value)} (h : tbl[k]? = some (pc, .astore_n 2, 1)) (hq : pc + 1 = q) (hn : 2 < nL) (hl : aj_nlv a1 = true) (kk : aj_X G q (a0 :: a1 :: some (.ref x) :: r) st I J V N L bc bs) : aj_X G pc (a0 :: a1 :: b :: r) (.ref x :: st) I J V N L bc bs := x_astore_n C k (i := 2) h hq hn (aj_nl_of (fun j hj => ⟨a1, by have e : j = 1 := (by omega); subst e; rfl, hl⟩)) rfl kk
theorem y_lstore2 (C : aj_C G cc tbl own R0 nL) (k : Nat) {x : Int64} {a0 a1 : Option Value} {b b2 : Option Value} {r : List (Option Value)} (h : tbl[k]? = some (pc, .lstore_n 2, 1)) (hq : pc + 1 = q) (hn : 2 + 1 < nL) (hl : aj_nlv a1 = true) (kk : aj_X G q (a0 :: a1 :: some (.long x) :: none :: r) st I J V N L bc bs) : aj_X G pc (a0 :: a1 :: b :: b2 :: r) (.long x :: st) I J V N L bc bs := x_lstore_n C k (i := 2) h hq hn (aj_nl_of (fun j hj => ⟨a1, by have e : j = 1 := (by omega); subst e; rfl, hl⟩)) rfl kk
theorem y_iinc2 (C : aj_C G cc tbl own R0 nL) (k : Nat) {n : Int} {x v : Int32} {a0 a1 : Option Value} {r : List (Option Value)} (h : tbl[k]? = some (pc, .iinc 2 n, 3)) (hq : pc + 3 = q) (hv : x + Int32.ofInt n = v) (hn : 2 < nL) (hl : aj_nlv a1 = true) (kk : aj_X G q (a0 :: a1 :: some (.int v) :: r) st I J V N L bc bs) : aj_X G pc (a0 :: a1 :: some (.int x) :: r) st I J V N L bc bs := x_iinc C k (i := 2) h hq rfl hv hn (aj_nl_of (fun j hj => ⟨a1, by have e : j = 1 := (by omega); subst e; rfl, hl⟩)) rfl kk
theorem y_iload3 (C : aj_C G cc tbl own R0 nL) (k : Nat) {x : Int32} {a0 a1 a2 : Option Value} {r : List (Option Value)} (h : tbl[k]? = some (pc, .iload_n 3, 1)) (hq : pc + 1 = q) (kk : aj_X G q (a0 :: a1 :: a2 :: some (.int x) :: r) (.int x :: st) I J V N L bc bs) : aj_X G pc (a0 :: a1 :: a2 :: some (.int x) :: r) st I J V N L bc bs := x_iload_n C k (i := 3) (x := x) rfl h hq kk
theorem y_lload3 (C : aj_C G cc tbl own R0 nL) (k : Nat) {x : Int64} {a0 a1 a2 : Option Value} {r : List (Option Value)} (h : tbl[k]? = some (pc, .lload_n 3, 1)) (hq : pc + 1 = q) (kk : aj_X G q (a0 :: a1 :: a2 :: some (.long x) :: r) (.long x :: st) I J V N L bc bs) : aj_X G pc (a0 :: a1 :: a2 :: some (.long x) :: r) st I J V N L bc bs := x_lload_n C k (i := 3) (x := x) rfl h hq kk
theorem y_aload3 (C : aj_C G cc tbl own R0 nL) (k : Nat) {x : Nat} {a0 a1 a2 : Option Value} {r : List (Option Value)} (h : tbl[k]? = some (pc, .aload_n 3, 1)) (hq : pc + 1 = q) (kk : aj_X G q (a0 :: a1 :: a2 :: some (.ref x) :: r) (.ref x :: st) I J V N L bc bs) : aj_X G pc (a0 :: a1 :: a2 :: some (.ref x) :: r) st I J V N L bc bs := x_aload_n C k (i := 3) (x := x) rfl h hq kk
theorem y_istore3 (C : aj_C G cc tbl own R0 nL) (k : Nat) {x : Int32} {a0 a1 a2 : Option Value} {b : Option Value} {r : List (Option Value)} (h : tbl[k]? = some (pc, .istore_n 3, 1)) (hq : pc + 1 = q) (hn : 3 < nL) (hl : aj_nlv a2 = true) (kk : aj_X G q (a0 :: a1 :: a2 :: some (.int x) :: r) st I J V N L bc bs) : aj_X G pc (a0 :: a1 :: a2 :: b :: r) (.int x :: st) I J V N L bc bs := x_istore_n C k (i := 3) h hq hn (aj_nl_of (fun j hj => ⟨a2, by have e : j = 2 := (by omega); subst e; rfl, hl⟩)) rfl kk
theorem y_astore3 (C : aj_C G cc tbl own R0 nL) (k : Nat) {x : Nat} {a0 a1 a2 : Option Value} {b : Option Value} {r : List (Option Value)} (h : tbl[k]? = some (pc, .astore_n 3, 1)) (hq : pc + 1 = q) (hn : 3 < nL) (hl : aj_nlv a2 = true) (kk : aj_X G q (a0 :: a1 :: a2 :: some (.ref x) :: r) st I J V N L bc bs) : aj_X G pc (a0 :: a1 :: a2 :: b :: r) (.ref x :: st) I J V N L bc bs := x_astore_n C k (i := 3) h hq hn (aj_nl_of (fun j hj => ⟨a2, by have e : j = 2 := (by omega); subst e; rfl, hl⟩)) rfl kk
theorem y_lstore3 (C : aj_C G cc tbl own R0 nL) (k : Nat) {x : Int64} {a0 a1 a2 : Option Value} {b b2 : Option Value} {r : List (Option Value)} (h : tbl[k]? = some (pc, .lstore_n 3, 1)) (hq : pc + 1 = q) (hn : 3 + 1 < nL) (hl : aj_nlv a2 = true) (kk : aj_X G q (a0 :: a1 :: a2 :: some (.long x) :: none :: r) st I J V N L bc bs) : aj_X G pc (a0 :: a1 :: a2 :: b :: b2 :: r) (.long x :: st) I J V N L bc bs := x_lstore_n C k (i := 3) h hq hn (aj_nl_of (fun j hj => ⟨a2, by have e : j = 2 := (by omega); subst e; rfl, hl⟩)) rfl kk
theorem y_iinc3 (C : aj_C G cc tbl own R0 nL) (k : Nat) {n : Int} {x v : Int32} {a0 a1 a2 : Option Value} {r : List (Option Value)} (h : tbl[k]? = some (pc, .iinc 3 n, 3)) (hq : pc + 3 = q) (hv : x + Int32.ofInt n = v) (hn : 3 < nL) (hl : aj_nlv a2 = true) (kk : aj_X G q (a0 :: a1 :: a2 :: some (.int v) :: r) st I J V N L bc bs) : aj_X G pc (a0 :: a1 :: a2 :: some (.int x) :: r) st I J V N L bc bs := x_iinc C k (i := 3) h hq rfl hv hn (aj_nl_of (fun j hj => ⟨a2, by have e : j = 2 := (by omega); subst e; rfl, hl⟩)) rfl kk
theorem y_iload4 (C : aj_C G cc tbl own R0 nL) (k : Nat) {x : Int32} {a0 a1 a2 a3 : Option Value} {r : List (Option Value)} (h : tbl[k]? = some (pc, .iload 4, 2)) (hq : pc + 2 = q) (kk : aj_X G q (a0 :: a1 :: a2 :: a3 :: some (.int x) :: r) (.int x :: st) I J V N L bc bs) : aj_X G pc (a0 :: a1 :: a2 :: a3 :: some (.int x) :: r) st I J V N L bc bs := x_iload C k (i := 4) (x := x) rfl h hq kk
theorem y_lload4 (C : aj_C G cc tbl own R0 nL) (k : Nat) {x : Int64} {a0 a1 a2 a3 : Option Value} {r : List (Option Value)} (h : tbl[k]? = some (pc, .lload 4, 2)) (hq : pc + 2 = q) (kk : aj_X G q (a0 :: a1 :: a2 :: a3 :: some (.long x) :: r) (.long x :: st) I J V N L bc bs) : aj_X G pc (a0 :: a1 :: a2 :: a3 :: some (.long x) :: r) st I J V N L bc bs := x_lload C k (i := 4) (x := x) rfl h hq kk
theorem y_aload4 (C : aj_C G cc tbl own R0 nL) (k : Nat) {x : Nat} {a0 a1 a2 a3 : Option Value} {r : List (Option Value)} (h : tbl[k]? = some (pc, .aload 4, 2)) (hq : pc + 2 = q) (kk : aj_X G q (a0 :: a1 :: a2 :: a3 :: some (.ref x) :: r) (.ref x :: st) I J V N L bc bs) : aj_X G pc (a0 :: a1 :: a2 :: a3 :: some (.ref x) :: r) st I J V N L bc bs := x_aload C k (i := 4) (x := x) rfl h hq kk
theorem y_istore4 (C : aj_C G cc tbl own R0 nL) (k : Nat) {x : Int32} {a0 a1 a2 a3 : Option Value} {b : Option Value} {r : List (Option Value)} (h : tbl[k]? = some (pc, .istore 4, 2)) (hq : pc + 2 = q) (hn : 4 < nL) (hl : aj_nlv a3 = true) (kk : aj_X G q (a0 :: a1 :: a2 :: a3 :: some (.int x) :: r) st I J V N L bc bs) : aj_X G pc (a0 :: a1 :: a2 :: a3 :: b :: r) (.int x :: st) I J V N L bc bs := x_istore C k (i := 4) h hq hn (aj_nl_of (fun j hj => ⟨a3, by have e : j = 3 := (by omega); subst e; rfl, hl⟩)) rfl kk
theorem y_astore4 (C : aj_C G cc tbl own R0 nL) (k : Nat) {x : Nat} {a0 a1 a2 a3 : Option Value} {b : Option Value} {r : List (Option Value)} (h : tbl[k]? = some (pc, .astore 4, 2)) (hq : pc + 2 = q) (hn : 4 < nL) (hl : aj_nlv a3 = true) (kk : aj_X G q (a0 :: a1 :: a2 :: a3 :: some (.ref x) :: r) st I J V N L bc bs) : aj_X G pc (a0 :: a1 :: a2 :: a3 :: b :: r) (.ref x :: st) I J V N L bc bs := x_astore C k (i := 4) h hq hn (aj_nl_of (fun j hj => ⟨a3, by have e : j = 3 := (by omega); subst e; rfl, hl⟩)) rfl kk
theorem y_lstore4 (C : aj_C G cc tbl own R0 nL) (k : Nat) {x : Int64} {a0 a1 a2 a3 : Option Value} {b b2 : Option Value} {r : List (Option Value)} (h : tbl[k]? = some (pc, .lstore 4, 2)) (hq : pc + 2 = q) (hn : 4 + 1 < nL) (hl : aj_nlv a3 = true) (kk : aj_X G q (a0 :: a1 :: a2 :: a3 :: some (.long x) :: none :: r) st I J V N L bc bs) : aj_X G pc (a0 :: a1 :: a2 :: a3 :: b :: b2 :: r) (.long x :: st) I J V N L bc bs := x_lstore C k (i := 4) h hq hn (aj_nl_of (fun j hj => ⟨a3, by have e : j = 3 := (by omega); subst e; rfl, hl⟩)) rfl kk
theorem y_iinc4 (C : aj_C G cc tbl own R0 nL) (k : Nat) {n : Int} {x v : Int32} {a0 a1 a2 a3 : Option Value} {r : List (Option Value)} (h : tbl[k]? = some (pc, .iinc 4 n, 3)) (hq : pc + 3 = q) (hv : x + Int32.ofInt n = v) (hn : 4 < nL) (hl : aj_nlv a3 = true) (kk : aj_X G q (a0 :: a1 :: a2 :: a3 :: some (.int v) :: r) st I J V N L bc bs) : aj_X G pc (a0 :: a1 :: a2 :: a3 :: some (.int x) :: r) st I J V N L bc bs := x_iinc C k (i := 4) h hq rfl hv hn (aj_nl_of (fun j hj => ⟨a3, by have e : j = 3 := (by omega); subst e; rfl, hl⟩)) rfl kk
theorem y_iload5 (C : aj_C G cc tbl own R0 nL) (k : Nat) {x : Int32} {a0 a1 a2 a3 a4 : Option Value} {r : List (Option Value)} (h : tbl[k]? = some (pc, .iload 5, 2)) (hq : pc + 2 = q) (kk : aj_X G q (a0 :: a1 :: a2 :: a3 :: a4 :: some (.int x) :: r) (.int x :: st) I J V N L bc bs) : aj_X G pc (a0 :: a1 :: a2 :: a3 :: a4 :: some (.int x) :: r) st I J V N L bc bs := x_iload C k (i := 5) (x := x) rfl h hq kk
theorem y_lload5 (C : aj_C G cc tbl own R0 nL) (k : Nat) {x : Int64} {a0 a1 a2 a3 a4 : Option Value} {r : List (Option Value)} (h : tbl[k]? = some (pc, .lload 5, 2)) (hq : pc + 2 = q) (kk : aj_X G q (a0 :: a1 :: a2 :: a3 :: a4 :: some (.long x) :: r) (.long x :: st) I J V N L bc bs) : aj_X G pc (a0 :: a1 :: a2 :: a3 :: a4 :: some (.long x) :: r) st I J V N L bc bs := x_lload C k (i := 5) (x := x) rfl h hq kk
theorem y_aload5 (C : aj_C G cc tbl own R0 nL) (k : Nat) {x : Nat} {a0 a1 a2 a3 a4 : Option Value} {r : List (Option Value)} (h : tbl[k]? = some (pc, .aload 5, 2)) (hq : pc + 2 = q) (kk : aj_X G q (a0 :: a1 :: a2 :: a3 :: a4 :: some (.ref x) :: r) (.ref x :: st) I J V N L bc bs) : aj_X G pc (a0 :: a1 :: a2 :: a3 :: a4 :: some (.ref x) :: r) st I J V N L bc bs := x_aload C k (i := 5) (x := x) rfl h hq kk
theorem y_istore5 (C : aj_C G cc tbl own R0 nL) (k : Nat) {x : Int32} {a0 a1 a2 a3 a4 : Option Value} {b : Option Value} {r : List (Option Value)} (h : tbl[k]? = some (pc, .istore 5, 2)) (hq : pc + 2 = q) (hn : 5 < nL) (hl : aj_nlv a4 = true) (kk : aj_X G q (a0 :: a1 :: a2 :: a3 :: a4 :: some (.int x) :: r) st I J V N L bc bs) : aj_X G pc (a0 :: a1 :: a2 :: a3 :: a4 :: b :: r) (.int x :: st) I J V N L bc bs := x_istore C k (i := 5) h hq hn (aj_nl_of (fun j hj => ⟨a4, by have e : j = 4 := (by omega); subst e; rfl, hl⟩)) rfl kk
theorem y_astore5 (C : aj_C G cc tbl own R0 nL) (k : Nat) {x : Nat} {a0 a1 a2 a3 a4 : Option Value} {b : Option Value} {r : List (Option Value)} (h : tbl[k]? = some (pc, .astore 5, 2)) (hq : pc + 2 = q) (hn : 5 < nL) (hl : aj_nlv a4 = true) (kk : aj_X G q (a0 :: a1 :: a2 :: a3 :: a4 :: some (.ref x) :: r) st I J V N L bc bs) : aj_X G pc (a0 :: a1 :: a2 :: a3 :: a4 :: b :: r) (.ref x :: st) I J V N L bc bs := x_astore C k (i := 5) h hq hn (aj_nl_of (fun j hj => ⟨a4, by have e : j = 4 := (by omega); subst e; rfl, hl⟩)) rfl kk
theorem y_lstore5 (C : aj_C G cc tbl own R0 nL) (k : Nat) {x : Int64} {a0 a1 a2 a3 a4 : Option Value} {b b2 : Option Value} {r : List (Option Value)} (h : tbl[k]? = some (pc, .lstore 5, 2)) (hq : pc + 2 = q) (hn : 5 + 1 < nL) (hl : aj_nlv a4 = true) (kk : aj_X G q (a0 :: a1 :: a2 :: a3 :: a4 :: some (.long x) :: none :: r) st I J V N L bc bs) : aj_X G pc (a0 :: a1 :: a2 :: a3 :: a4 :: b :: b2 :: r) (.long x :: st) I J V N L bc bs := x_lstore C k (i := 5) h hq hn (aj_nl_of (fun j hj => ⟨a4, by have e : j = 4 := (by omega); subst e; rfl, hl⟩)) rfl kk
theorem y_iinc5 (C : aj_C G cc tbl own R0 nL) (k : Nat) {n : Int} {x v : Int32} {a0 a1 a2 a3 a4 : Option Value} {r : List (Option Value)} (h : tbl[k]? = some (pc, .iinc 5 n, 3)) (hq : pc + 3 = q) (hv : x + Int32.ofInt n = v) (hn : 5 < nL) (hl : aj_nlv a4 = true) (kk : aj_X G q (a0 :: a1 :: a2 :: a3 :: a4 :: some (.int v) :: r) st I J V N L bc bs) : aj_X G pc (a0 :: a1 :: a2 :: a3 :: a4 :: some (.int x) :: r) st I J V N L bc bs := x_iinc C k (i := 5) h hq rfl hv hn (aj_nl_of (fun j hj => ⟨a4, by have e : j = 4 := (by omega); subst e; rfl, hl⟩)) rfl kk
theorem y_iload6 (C : aj_C G cc tbl own R0 nL) (k : Nat) {x : Int32} {a0 a1 a2 a3 a4 a5 : Option Value} {r : List (Option Value)} (h : tbl[k]? = some (pc, .iload 6, 2)) (hq : pc + 2 = q) (kk : aj_X G q (a0 :: a1 :: a2 :: a3 :: a4 :: a5 :: some (.int x) :: r) (.int x :: st) I J V N L bc bs) : aj_X G pc (a0 :: a1 :: a2 :: a3 :: a4 :: a5 :: some (.int x) :: r) st I J V N L bc bs := x_iload C k (i := 6) (x := x) rfl h hq kk
theorem y_lload6 (C : aj_C G cc tbl own R0 nL) (k : Nat) {x : Int64} {a0 a1 a2 a3 a4 a5 : Option Value} {r : List (Option Value)} (h : tbl[k]? = some (pc, .lload 6, 2)) (hq : pc + 2 = q) (kk : aj_X G q (a0 :: a1 :: a2 :: a3 :: a4 :: a5 :: some (.long x) :: r) (.long x :: st) I J V N L bc bs) : aj_X G pc (a0 :: a1 :: a2 :: a3 :: a4 :: a5 :: some (.long x) :: r) st I J V N L bc bs := x_lload C k (i := 6) (x := x) rfl h hq kk
theorem y_aload6 (C : aj_C G cc tbl own R0 nL) (k : Nat) {x : Nat} {a0 a1 a2 a3 a4 a5 : Option Value} {r : List (Option Value)} (h : tbl[k]? = some (pc, .aload 6, 2)) (hq : pc + 2 = q) (kk : aj_X G q (a0 :: a1 :: a2 :: a3 :: a4 :: a5 :: some (.ref x) :: r) (.ref x :: st) I J V N L bc bs) : aj_X G pc (a0 :: a1 :: a2 :: a3 :: a4 :: a5 :: some (.ref x) :: r) st I J V N L bc bs := x_aload C k (i := 6) (x := x) rfl h hq kk
theorem y_istore6 (C : aj_C G cc tbl own R0 nL) (k : Nat) {x : Int32} {a0 a1 a2 a3 a4 a5 : Option Value} {b : Option Value} {r : List (Option Value)} (h : tbl[k]? = some (pc, .istore 6, 2)) (hq : pc + 2 = q) (hn : 6 < nL) (hl : aj_nlv a5 = true) (kk : aj_X G q (a0 :: a1 :: a2 :: a3 :: a4 :: a5 :: some (.int x) :: r) st I J V N L bc bs) : aj_X G pc (a0 :: a1 :: a2 :: a3 :: a4 :: a5 :: b :: r) (.int x :: st) I J V N L bc bs := x_istore C k (i := 6) h hq hn (aj_nl_of (fun j hj => ⟨a5, by have e : j = 5 := (by omega); subst e; rfl, hl⟩)) rfl kk
theorem y_astore6 (C : aj_C G cc tbl own R0 nL) (k : Nat) {x : Nat} {a0 a1 a2 a3 a4 a5 : Option Value} {b : Option Value} {r : List (Option Value)} (h : tbl[k]? = some (pc, .astore 6, 2)) (hq : pc + 2 = q) (hn : 6 < nL) (hl : aj_nlv a5 = true) (kk : aj_X G q (a0 :: a1 :: a2 :: a3 :: a4 :: a5 :: some (.ref x) :: r) st I J V N L bc bs) : aj_X G pc (a0 :: a1 :: a2 :: a3 :: a4 :: a5 :: b :: r) (.ref x :: st) I J V N L bc bs := x_astore C k (i := 6) h hq hn (aj_nl_of (fun j hj => ⟨a5, by have e : j = 5 := (by omega); subst e; rfl, hl⟩)) rfl kk
theorem y_lstore6 (C : aj_C G cc tbl own R0 nL) (k : Nat) {x : Int64} {a0 a1 a2 a3 a4 a5 : Option Value} {b b2 : Option Value} {r : List (Option Value)} (h : tbl[k]? = some (pc, .lstore 6, 2)) (hq : pc + 2 = q) (hn : 6 + 1 < nL) (hl : aj_nlv a5 = true) (kk : aj_X G q (a0 :: a1 :: a2 :: a3 :: a4 :: a5 :: some (.long x) :: none :: r) st I J V N L bc bs) : aj_X G pc (a0 :: a1 :: a2 :: a3 :: a4 :: a5 :: b :: b2 :: r) (.long x :: st) I J V N L bc bs := x_lstore C k (i := 6) h hq hn (aj_nl_of (fun j hj => ⟨a5, by have e : j = 5 := (by omega); subst e; rfl, hl⟩)) rfl kk
theorem y_iinc6 (C : aj_C G cc tbl own R0 nL) (k : Nat) {n : Int} {x v : Int32} {a0 a1 a2 a3 a4 a5 : Option Value} {r : List (Option Value)} (h : tbl[k]? = some (pc, .iinc 6 n, 3)) (hq : pc + 3 = q) (hv : x + Int32.ofInt n = v) (hn : 6 < nL) (hl : aj_nlv a5 = true) (kk : aj_X G q (a0 :: a1 :: a2 :: a3 :: a4 :: a5 :: some (.int v) :: r) st I J V N L bc bs) : aj_X G pc (a0 :: a1 :: a2 :: a3 :: a4 :: a5 :: some (.int x) :: r) st I J V N L bc bs := x_iinc C k (i := 6) h hq rfl hv hn (aj_nl_of (fun j hj => ⟨a5, by have e : j = 5 := (by omega); subst e; rfl, hl⟩)) rfl kk
theorem y_iload7 (C : aj_C G cc tbl own R0 nL) (k : Nat) {x : Int32} {a0 a1 a2 a3 a4 a5 a6 : Option Value} {r : List (Option Value)} (h : tbl[k]? = some (pc, .iload 7, 2)) (hq : pc + 2 = q) (kk : aj_X G q (a0 :: a1 :: a2 :: a3 :: a4 :: a5 :: a6 :: some (.int x) :: r) (.int x :: st) I J V N L bc bs) : aj_X G pc (a0 :: a1 :: a2 :: a3 :: a4 :: a5 :: a6 :: some (.int x) :: r) st I J V N L bc bs := x_iload C k (i := 7) (x := x) rfl h hq kk
theorem y_lload7 (C : aj_C G cc tbl own R0 nL) (k : Nat) {x : Int64} {a0 a1 a2 a3 a4 a5 a6 : Option Value} {r : List (Option Value)} (h : tbl[k]? = some (pc, .lload 7, 2)) (hq : pc + 2 = q) (kk : aj_X G q (a0 :: a1 :: a2 :: a3 :: a4 :: a5 :: a6 :: some (.long x) :: r) (.long x :: st) I J V N L bc bs) : aj_X G pc (a0 :: a1 :: a2 :: a3 :: a4 :: a5 :: a6 :: some (.long x) :: r) st I J V N L bc bs := x_lload C k (i := 7) (x := x) rfl h hq kk
theorem y_aload7 (C : aj_C G cc tbl own R0 nL) (k : Nat) {x : Nat} {a0 a1 a2 a3 a4 a5 a6 : Option Value} {r : List (Option Value)} (h : tbl[k]? = some (pc, .aload 7, 2)) (hq : pc + 2 = q) (kk : aj_X G q (a0 :: a1 :: a2 :: a3 :: a4 :: a5 :: a6 :: some (.ref x) :: r) (.ref x :: st) I J V N L bc bs) : aj_X G pc (a0 :: a1 :: a2 :: a3 :: a4 :: a5 :: a6 :: some (.ref x) :: r) st I J V N L bc bs := x_aload C k (i := 7) (x := x) rfl h hq kk
theorem y_istore7 (C : aj_C G cc tbl own R0 nL) (k : Nat) {x : Int32} {a0 a1 a2 a3 a4 a5 a6 : Option Value} {b : Option Value} {r : List (Option Value)} (h : tbl[k]? = some (pc, .istore 7, 2)) (hq : pc + 2 = q) (hn : 7 < nL) (hl : aj_nlv a6 = true) (kk : aj_X G q (a0 :: a1 :: a2 :: a3 :: a4 :: a5 :: a6 :: some (.int x) :: r) st I J V N L bc bs) : aj_X G pc (a0 :: a1 :: a2 :: a3 :: a4 :: a5 :: a6 :: b :: r) (.int x :: st) I J V N L bc bs := x_istore C k (i := 7) h hq hn (aj_nl_of (fun j hj => ⟨a6, by have e : j = 6 := (by omega); subst e; rfl, hl⟩)) rfl kk
theorem y_astore7 (C : aj_C G cc tbl own R0 nL) (k : Nat) {x : Nat} {a0 a1 a2 a3 a4 a5 a6 : Option Value} {b : Option Value} {r : List (Option Value)} (h : tbl[k]? = some (pc, .astore 7, 2)) (hq : pc + 2 = q) (hn : 7 < nL) (hl : aj_nlv a6 = true) (kk : aj_X G q (a0 :: a1 :: a2 :: a3 :: a4 :: a5 :: a6 :: some (.ref x) :: r) st I J V N L bc bs) : aj_X G pc (a0 :: a1 :: a2 :: a3 :: a4 :: a5 :: a6 :: b :: r) (.ref x :: st) I J V N L bc bs := x_astore C k (i := 7) h hq hn (aj_nl_of (fun j hj => ⟨a6, by have e : j = 6 := (by omega); subst e; rfl, hl⟩)) rfl kk
theorem y_lstore7 (C : aj_C G cc tbl own R0 nL) (k : Nat) {x : Int64} {a0 a1 a2 a3 a4 a5 a6 : Option Value} {b b2 : Option Value} {r : List (Option Value)} (h : tbl[k]? = some (pc, .lstore 7, 2)) (hq : pc + 2 = q) (hn : 7 + 1 < nL) (hl : aj_nlv a6 = true) (kk : aj_X G q (a0 :: a1 :: a2 :: a3 :: a4 :: a5 :: a6 :: some (.long x) :: none :: r) st I J V N L bc bs) : aj_X G pc (a0 :: a1 :: a2 :: a3 :: a4 :: a5 :: a6 :: b :: b2 :: r) (.long x :: st) I J V N L bc bs := x_lstore C k (i := 7) h hq hn (aj_nl_of (fun j hj => ⟨a6, by have e : j = 6 := (by omega); subst e; rfl, hl⟩)) rfl kk
theorem y_iinc7 (C : aj_C G cc tbl own R0 nL) (k : Nat) {n : Int} {x v : Int32} {a0 a1 a2 a3 a4 a5 a6 : Option Value} {r : List (Option Value)} (h : tbl[k]? = some (pc, .iinc 7 n, 3)) (hq : pc + 3 = q) (hv : x + Int32.ofInt n = v) (hn : 7 < nL) (hl : aj_nlv a6 = true) (kk : aj_X G q (a0 :: a1 :: a2 :: a3 :: a4 :: a5 :: a6 :: some (.int v) :: r) st I J V N L bc bs) : aj_X G pc (a0 :: a1 :: a2 :: a3 :: a4 :: a5 :: a6 :: some (.int x) :: r) st I J V N L bc bs := x_iinc C k (i := 7) h hq rfl hv hn (aj_nl_of (fun j hj => ⟨a6, by have e : j = 6 := (by omega); subst e; rfl, hl⟩)) rfl kk
theorem y_iload8 (C : aj_C G cc tbl own R0 nL) (k : Nat) {x : Int32} {a0 a1 a2 a3 a4 a5 a6 a7 : Option Value} {r : List (Option Value)} (h : tbl[k]? = some (pc, .iload 8, 2)) (hq : pc + 2 = q) (kk : aj_X G q (a0 :: a1 :: a2 :: a3 :: a4 :: a5 :: a6 :: a7 :: some (.int x) :: r) (.int x :: st) I J V N L bc bs) : aj_X G pc (a0 :: a1 :: a2 :: a3 :: a4 :: a5 :: a6 :: a7 :: some (.int x) :: r) st I J V N L bc bs := x_iload C k (i := 8) (x := x) rfl h hq kk
theorem y_lload8 (C : aj_C G cc tbl own R0 nL) (k : Nat) {x : Int64} {a0 a1 a2 a3 a4 a5 a6 a7 : Option Value} {r : List (Option Value)} (h : tbl[k]? = some (pc, .lload 8, 2)) (hq : pc + 2 = q) (kk : aj_X G q (a0 :: a1 :: a2 :: a3 :: a4 :: a5 :: a6 :: a7 :: some (.long x) :: r) (.long x :: st) I J V N L bc bs) : aj_X G pc (a0 :: a1 :: a2 :: a3 :: a4 :: a5 :: a6 :: a7 :: some (.long x) :: r) st I J V N L bc bs := x_lload C k (i := 8) (x := x) rfl h hq kk
theorem y_aload8 (C : aj_C G cc tbl own R0 nL) (k : Nat) {x : Nat} {a0 a1 a2 a3 a4 a5 a6 a7 : Option Value} {r : List (Option Value)} (h : tbl[k]? = some (pc, .aload 8, 2)) (hq : pc + 2 = q) (kk : aj_X G q (a0 :: a1 :: a2 :: a3 :: a4 :: a5 :: a6 :: a7 :: some (.ref x) :: r) (.ref x :: st) I J V N L bc bs) : aj_X G pc (a0 :: a1 :: a2 :: a3 :: a4 :: a5 :: a6 :: a7 :: some (.ref x) :: r) st I J V N L bc bs := x_aload C k (i := 8) (x := x) rfl h hq kk
theorem y_istore8 (C : aj_C G cc tbl own R0 nL) (k : Nat) {x : Int32} {a0 a1 a2 a3 a4 a5 a6 a7 : Option Value} {b : Option Value} {r : List (Option Value)} (h : tbl[k]? = some (pc, .istore 8, 2)) (hq : pc + 2 = q) (hn : 8 < nL) (hl : aj_nlv a7 = true) (kk : aj_X G q (a0 :: a1 :: a2 :: a3 :: a4 :: a5 :: a6 :: a7 :: some (.int x) :: r) st I J V N L bc bs) : aj_X G pc (a0 :: a1 :: a2 :: a3 :: a4 :: a5 :: a6 :: a7 :: b :: r) (.int x :: st) I J V N L bc bs := x_istore C k (i := 8) h hq hn (aj_nl_of (fun j hj => ⟨a7, by have e : j = 7 := (by omega); subst e; rfl, hl⟩)) rfl kk
theorem y_astore8 (C : aj_C G cc tbl own R0 nL) (k : Nat) {x : Nat} {a0 a1 a2 a3 a4 a5 a6 a7 : Option Value} {b : Option Value} {r : List (Option Value)} (h : tbl[k]? = some (pc, .astore 8, 2)) (hq : pc + 2 = q) (hn : 8 < nL) (hl : aj_nlv a7 = true) (kk : aj_X G q (a0 :: a1 :: a2 :: a3 :: a4 :: a5 :: a6 :: a7 :: some (.ref x) :: r) st I J V N L bc bs) : aj_X G pc (a0 :: a1 :: a2 :: a3 :: a4 :: a5 :: a6 :: a7 :: b :: r) (.ref x :: st) I J V N L bc bs := x_astore C k (i := 8) h hq hn (aj_nl_of (fun j hj => ⟨a7, by have e : j = 7 := (by omega); subst e; rfl, hl⟩)) rfl kk
theorem y_lstore8 (C : aj_C G cc tbl own R0 nL) (k : Nat) {x : Int64} {a0 a1 a2 a3 a4 a5 a6 a7 : Option Value} {b b2 : Option Value} {r : List (Option Value)} (h : tbl[k]? = some (pc, .lstore 8, 2)) (hq : pc + 2 = q) (hn : 8 + 1 < nL) (hl : aj_nlv a7 = true) (kk : aj_X G q (a0 :: a1 :: a2 :: a3 :: a4 :: a5 :: a6 :: a7 :: some (.long x) :: none :: r) st I J V N L bc bs) : aj_X G pc (a0 :: a1 :: a2 :: a3 :: a4 :: a5 :: a6 :: a7 :: b :: b2 :: r) (.long x :: st) I J V N L bc bs := x_lstore C k (i := 8) h hq hn (aj_nl_of (fun j hj => ⟨a7, by have e : j = 7 := (by omega); subst e; rfl, hl⟩)) rfl kk
theorem y_iinc8 (C : aj_C G cc tbl own R0 nL) (k : Nat) {n : Int} {x v : Int32} {a0 a1 a2 a3 a4 a5 a6 a7 : Option Value} {r : List (Option Value)} (h : tbl[k]? = some (pc, .iinc 8 n, 3)) (hq : pc + 3 = q) (hv : x + Int32.ofInt n = v) (hn : 8 < nL) (hl : aj_nlv a7 = true) (kk : aj_X G q (a0 :: a1 :: a2 :: a3 :: a4 :: a5 :: a6 :: a7 :: some (.int v) :: r) st I J V N L bc bs) : aj_X G pc (a0 :: a1 :: a2 :: a3 :: a4 :: a5 :: a6 :: a7 :: some (.int x) :: r) st I J V N L bc bs := x_iinc C k (i := 8) h hq rfl hv hn (aj_nl_of (fun j hj => ⟨a7, by have e : j = 7 := (by omega); subst e; rfl, hl⟩)) rfl kk
theorem y_iload9 (C : aj_C G cc tbl own R0 nL) (k : Nat) {x : Int32} {a0 a1 a2 a3 a4 a5 a6 a7 a8 : Option Value} {r : List (Option Value)} (h : tbl[k]? = some (pc, .iload 9, 2)) (hq : pc + 2 = q) (kk : aj_X G q (a0 :: a1 :: a2 :: a3 :: a4 :: a5 :: a6 :: a7 :: a8 :: some (.int x) :: r) (.int x :: st) I J V N L bc bs) : aj_X G pc (a0 :: a1 :: a2 :: a3 :: a4 :: a5 :: a6 :: a7 :: a8 :: some (.int x) :: r) st I J V N L bc bs := x_iload C k (i := 9) (x := x) rfl h hq kk
theorem y_lload9 (C : aj_C G cc tbl own R0 nL) (k : Nat) {x : Int64} {a0 a1 a2 a3 a4 a5 a6 a7 a8 : Option Value} {r : List (Option Value)} (h : tbl[k]? = some (pc, .lload 9, 2)) (hq : pc + 2 = q) (kk : aj_X G q (a0 :: a1 :: a2 :: a3 :: a4 :: a5 :: a6 :: a7 :: a8 :: some (.long x) :: r) (.long x :: st) I J V N L bc bs) : aj_X G pc (a0 :: a1 :: a2 :: a3 :: a4 :: a5 :: a6 :: a7 :: a8 :: some (.long x) :: r) st I J V N L bc bs := x_lload C k (i := 9) (x := x) rfl h hq kk
theorem y_aload9 (C : aj_C G cc tbl own R0 nL) (k : Nat) {x : Nat} {a0 a1 a2 a3 a4 a5 a6 a7 a8 : Option Value} {r : List (Option Value)} (h : tbl[k]? = some (pc, .aload 9, 2)) (hq : pc + 2 = q) (kk : aj_X G q (a0 :: a1 :: a2 :: a3 :: a4 :: a5 :: a6 :: a7 :: a8 :: some (.ref x) :: r) (.ref x :: st) I J V N L bc bs) : aj_X G pc (a0 :: a1 :: a2 :: a3 :: a4 :: a5 :: a6 :: a7 :: a8 :: some (.ref x) :: r) st I J V N L bc bs := x_aload C k (i := 9) (x := x) rfl h hq kk
theorem y_istore9 (C : aj_C G cc tbl own R0 nL) (k : Nat) {x : Int32} {a0 a1 a2 a3 a4 a5 a6 a7 a8 : Option Value} {b : Option Value} {r : List (Option Value)} (h : tbl[k]? = some (pc, .istore 9, 2)) (hq : pc + 2 = q) (hn : 9 < nL) (hl : aj_nlv a8 = true) (kk : aj_X G q (a0 :: a1 :: a2 :: a3 :: a4 :: a5 :: a6 :: a7 :: a8 :: some (.int x) :: r) st I J V N L bc bs) : aj_X G pc (a0 :: a1 :: a2 :: a3 :: a4 :: a5 :: a6 :: a7 :: a8 :: b :: r) (.int x :: st) I J V N L bc bs := x_istore C k (i := 9) h hq hn (aj_nl_of (fun j hj => ⟨a8, by have e : j = 8 := (by omega); subst e; rfl, hl⟩)) rfl kk
theorem y_astore9 (C : aj_C G cc tbl own R0 nL) (k : Nat) {x : Nat} {a0 a1 a2 a3 a4 a5 a6 a7 a8 : Option Value} {b : Option Value} {r : List (Option Value)} (h : tbl[k]? = some (pc, .astore 9, 2)) (hq : pc + 2 = q) (hn : 9 < nL) (hl : aj_nlv a8 = true) (kk : aj_X G q (a0 :: a1 :: a2 :: a3 :: a4 :: a5 :: a6 :: a7 :: a8 :: some (.ref x) :: r) st I J V N L bc bs) : aj_X G pc (a0 :: a1 :: a2 :: a3 :: a4 :: a5 :: a6 :: a7 :: a8 :: b :: r) (.ref x :: st) I J V N L bc bs := x_astore C k (i := 9) h hq hn (aj_nl_of (fun j hj => ⟨a8, by have e : j = 8 := (by omega); subst e; rfl, hl⟩)) rfl kk
theorem y_lstore9 (C : aj_C G cc tbl own R0 nL) (k : Nat) {x : Int64} {a0 a1 a2 a3 a4 a5 a6 a7 a8 : Option Value} {b b2 : Option Value} {r : List (Option Value)} (h : tbl[k]? = some (pc, .lstore 9, 2)) (hq : pc + 2 = q) (hn : 9 + 1 < nL) (hl : aj_nlv a8 = true) (kk : aj_X G q (a0 :: a1 :: a2 :: a3 :: a4 :: a5 :: a6 :: a7 :: a8 :: some (.long x) :: none :: r) st I J V N L bc bs) : aj_X G pc (a0 :: a1 :: a2 :: a3 :: a4 :: a5 :: a6 :: a7 :: a8 :: b :: b2 :: r) (.long x :: st) I J V N L bc bs := x_lstore C k (i := 9) h hq hn (aj_nl_of (fun j hj => ⟨a8, by have e : j = 8 := (by omega); subst e; rfl, hl⟩)) rfl kk
theorem y_iinc9 (C : aj_C G cc tbl own R0 nL) (k : Nat) {n : Int} {x v : Int32} {a0 a1 a2 a3 a4 a5 a6 a7 a8 : Option Value} {r : List (Option Value)} (h : tbl[k]? = some (pc, .iinc 9 n, 3)) (hq : pc + 3 = q) (hv : x + Int32.ofInt n = v) (hn : 9 < nL) (hl : aj_nlv a8 = true) (kk : aj_X G q (a0 :: a1 :: a2 :: a3 :: a4 :: a5 :: a6 :: a7 :: a8 :: some (.int v) :: r) st I J V N L bc bs) : aj_X G pc (a0 :: a1 :: a2 :: a3 :: a4 :: a5 :: a6 :: a7 :: a8 :: some (.int x) :: r) st I J V N L bc bs := x_iinc C k (i := 9) h hq rfl hv hn (aj_nl_of (fun j hj => ⟨a8, by have e : j = 8 := (by omega); subst e; rfl, hl⟩)) rfl kk
theorem y_iload10 (C : aj_C G cc tbl own R0 nL) (k : Nat) {x : Int32} {a0 a1 a2 a3 a4 a5 a6 a7 a8 a9 : Option Value} {r : List (Option Value)} (h : tbl[k]? = some (pc, .iload 10, 2)) (hq : pc + 2 = q) (kk : aj_X G q (a0 :: a1 :: a2 :: a3 :: a4 :: a5 :: a6 :: a7 :: a8 :: a9 :: some (.int x) :: r) (.int x :: st) I J V N L bc bs) : aj_X G pc (a0 :: a1 :: a2 :: a3 :: a4 :: a5 :: a6 :: a7 :: a8 :: a9 :: some (.int x) :: r) st I J V N L bc bs := x_iload C k (i := 10) (x := x) rfl h hq kk
theorem y_lload10 (C : aj_C G cc tbl own R0 nL) (k : Nat) {x : Int64} {a0 a1 a2 a3 a4 a5 a6 a7 a8 a9 : Option Value} {r : List (Option Value)} (h : tbl[k]? = some (pc, .lload 10, 2)) (hq : pc + 2 = q) (kk : aj_X G q (a0 :: a1 :: a2 :: a3 :: a4 :: a5 :: a6 :: a7 :: a8 :: a9 :: some (.long x) :: r) (.long x :: st) I J V N L bc bs) : aj_X G pc (a0 :: a1 :: a2 :: a3 :: a4 :: a5 :: a6 :: a7 :: a8 :: a9 :: some (.long x) :: r) st I J V N L bc bs := x_lload C k (i := 10) (x := x) rfl h hq kk
theorem y_aload10 (C : aj_C G cc tbl own R0 nL) (k : Nat) {x : Nat} {a0 a1 a2 a3 a4 a5 a6 a7 a8 a9 : Option Value} {r : List (Option Value)} (h : tbl[k]? = some (pc, .aload 10, 2)) (hq : pc + 2 = q) (kk : aj_X G q (a0 :: a1 :: a2 :: a3 :: a4 :: a5 :: a6 :: a7 :: a8 :: a9 :: some (.ref x) :: r) (.ref x :: st) I J V N L bc bs) : aj_X G pc (a0 :: a1 :: a2 :: a3 :: a4 :: a5 :: a6 :: a7 :: a8 :: a9 :: some (.ref x) :: r) st I J V N L bc bs := x_aload C k (i := 10) (x := x) rfl h hq kk
theorem y_istore10 (C : aj_C G cc tbl own R0 nL) (k : Nat) {x : Int32} {a0 a1 a2 a3 a4 a5 a6 a7 a8 a9 : Option Value} {b : Option Value} {r : List (Option Value)} (h : tbl[k]? = some (pc, .istore 10, 2)) (hq : pc + 2 = q) (hn : 10 < nL) (hl : aj_nlv a9 = true) (kk : aj_X G q (a0 :: a1 :: a2 :: a3 :: a4 :: a5 :: a6 :: a7 :: a8 :: a9 :: some (.int x) :: r) st I J V N L bc bs) : aj_X G pc (a0 :: a1 :: a2 :: a3 :: a4 :: a5 :: a6 :: a7 :: a8 :: a9 :: b :: r) (.int x :: st) I J V N L bc bs := x_istore C k (i := 10) h hq hn (aj_nl_of (fun j hj => ⟨a9, by have e : j = 9 := (by omega); subst e; rfl, hl⟩)) rfl kk
theorem y_astore10 (C : aj_C G cc tbl own R0 nL) (k : Nat) {x : Nat} {a0 a1 a2 a3 a4 a5 a6 a7 a8 a9 : Option Value} {b : Option Value} {r : List (Option Value)} (h : tbl[k]? = some (pc, .astore 10, 2)) (hq : pc + 2 = q) (hn : 10 < nL) (hl : aj_nlv a9 = true) (kk : aj_X G q (a0 :: a1 :: a2 :: a3 :: a4 :: a5 :: a6 :: a7 :: a8 :: a9 :: some (.ref x) :: r) st I J V N L bc bs) : aj_X G pc (a0 :: a1 :: a2 :: a3 :: a4 :: a5 :: a6 :: a7 :: a8 :: a9 :: b :: r) (.ref x :: st) I J V N L bc bs := x_astore C k (i := 10) h hq hn (aj_nl_of (fun j hj => ⟨a9, by have e : j = 9 := (by omega); subst e; rfl, hl⟩)) rfl kk
theorem y_lstore10 (C : aj_C G cc tbl own R0 nL) (k : Nat) {x : Int64} {a0 a1 a2 a3 a4 a5 a6 a7 a8 a9 : Option Value} {b b2 : Option Value} {r : List (Option Value)} (h : tbl[k]? = some (pc, .lstore 10, 2)) (hq : pc + 2 = q) (hn : 10 + 1 < nL) (hl : aj_nlv a9 = true) (kk : aj_X G q (a0 :: a1 :: a2 :: a3 :: a4 :: a5 :: a6 :: a7 :: a8 :: a9 :: some (.long x) :: none :: r) st I J V N L bc bs) : aj_X G pc (a0 :: a1 :: a2 :: a3 :: a4 :: a5 :: a6 :: a7 :: a8 :: a9 :: b :: b2 :: r) (.long x :: st) I J V N L bc bs := x_lstore C k (i := 10) h hq hn (aj_nl_of (fun j hj => ⟨a9, by have e : j = 9 := (by omega); subst e; rfl, hl⟩)) rfl kk
theorem y_iinc10 (C : aj_C G cc tbl own R0 nL) (k : Nat) {n : Int} {x v : Int32} {a0 a1 a2 a3 a4 a5 a6 a7 a8 a9 : Option Value} {r : List (Option Value)} (h : tbl[k]? = some (pc, .iinc 10 n, 3)) (hq : pc + 3 = q) (hv : x + Int32.ofInt n = v) (hn : 10 < nL) (hl : aj_nlv a9 = true) (kk : aj_X G q (a0 :: a1 :: a2 :: a3 :: a4 :: a5 :: a6 :: a7 :: a8 :: a9 :: some (.int v) :: r) st I J V N L bc bs) : aj_X G pc (a0 :: a1 :: a2 :: a3 :: a4 :: a5 :: a6 :: a7 :: a8 :: a9 :: some (.int x) :: r) st I J V N L bc bs := x_iinc C k (i := 10) h hq rfl hv hn (aj_nl_of (fun j hj => ⟨a9, by have e : j = 9 := (by omega); subst e; rfl, hl⟩)) rfl kk
abbrev aj_rm (r c s : Nat) : Room := { frames := 10 + r, cells := c, slots := s, locals := 200 + 32 * r }
abbrev aj_wc (y : MethodName) (bytes : ByteArray) (maxL : Nat) (ret : Option FieldType) : List Cond := Cond.code y bytes maxL ret :: aj_TB
def aj_cv (y : MethodName) : Prop := Cond.instanceMethod y ∈ aj_TB ∧ Cond.selects y.cls y y ∈ aj_TB
theorem aj_hr {r1 r2 c1 s1 c2 s2 maxL : Nat} (h : r1 < r2) (hm : maxL ≤ 13) : (aj_rm r1 c1 s1).frames + 1 ≤ (aj_rm r2 c2 s2).frames ∧ 8 + (maxL + 11) + (aj_rm r1 c1 s1).locals ≤ (aj_rm r2 c2 s2).locals := by
  show 10 + r1 + 1 ≤ 10 + r2 ∧ 8 + (maxL + 11) + (200 + 32 * r1) ≤ 200 + 32 * r2
  omega
theorem aj_f0 {X : Nat → Prop} : ∀ i ∈ ([] : List Nat), X i := fun _ h => nomatch h
theorem y_cV0 {idx maxL r1 r2 c2 s2 : Nat} {y : MethodName} {bytes : ByteArray} {ret : Option FieldType} {a : Nat} (C : aj_C G cc tbl own (aj_rm r2 c2 s2) nL) (k : Nat) (h : tbl[k]? = some (pc, .invokevirtual idx, 3)) (hq : pc + 3 = q) (hl : Cond.methodLink own idx y ∈ aj_TB) (cd : aj_cd y bytes maxL ret 0) (cv : aj_cv y) (ha : a % 16 < 7 ∧ aj_R (a % 16) = y.cls) (haL : a ∈ L) (hr : r1 < r2) (hm : maxL ≤ 13) (hst : (st.map fun v => v.category).sum ≤ 8) (hM : aj_M (gl G) y (aj_wc y bytes maxL ret) (aj_rm r1 0 0) [] (.ref a :: []) I J V N L (aj_kont G pc q lv st bc bs)) : aj_X G pc lv (.ref a :: st) I J V N L bc bs := x_invV (As := []) C k h hq hl cd cv ha haL rfl (aj_hr hr hm) hst aj_f0 aj_f0 (Nat.zero_add _).symm (Nat.zero_add _).symm hM
theorem y_cS0 {idx maxL r1 r2 c2 s2 : Nat} {y : MethodName} {bytes : ByteArray} {ret : Option FieldType} (C : aj_C G cc tbl own (aj_rm r2 c2 s2) nL) (k : Nat) (h : tbl[k]? = some (pc, .invokestatic idx, 3)) (hq : pc + 3 = q) (hl : Cond.methodLink own idx y ∈ aj_TB) (cd : aj_cd y bytes maxL ret 0) (cv : Cond.static y ∈ aj_TB) (hr : r1 < r2) (hm : maxL ≤ 13) (hst : (st.map fun v => v.category).sum ≤ 8) (hM : aj_M (gl G) y (aj_wc y bytes maxL ret) (aj_rm r1 0 0) [] [] I J V N L (aj_kont G pc q lv st bc bs)) : aj_X G pc lv (st) I J V N L bc bs := x_invS (As := []) C k h hq hl cd cv rfl (aj_hr hr hm) hst aj_f0 aj_f0 (Nat.zero_add _).symm (Nat.zero_add _).symm hM
theorem y_cV1 {idx maxL r1 r2 c2 s2 : Nat} {y : MethodName} {bytes : ByteArray} {ret : Option FieldType} {a : Nat} {p0 : Value} (C : aj_C G cc tbl own (aj_rm r2 c2 s2) nL) (k : Nat) (h : tbl[k]? = some (pc, .invokevirtual idx, 3)) (hq : pc + 3 = q) (hl : Cond.methodLink own idx y ∈ aj_TB) (cd : aj_cd y bytes maxL ret 1) (cv : aj_cv y) (ha : a % 16 < 7 ∧ aj_R (a % 16) = y.cls) (haL : a ∈ L) (hr : r1 < r2) (hm : maxL ≤ 13) (hst : (st.map fun v => v.category).sum ≤ 8) (hM : aj_M (gl G) y (aj_wc y bytes maxL ret) (aj_rm r1 0 0) [] (.ref a :: [p0]) I J V N L (aj_kont G pc q lv st bc bs)) : aj_X G pc lv (p0 :: .ref a :: st) I J V N L bc bs := x_invV (As := [p0]) C k h hq hl cd cv ha haL rfl (aj_hr hr hm) hst aj_f0 aj_f0 (Nat.zero_add _).symm (Nat.zero_add _).symm hM
theorem y_cS1 {idx maxL r1 r2 c2 s2 : Nat} {y : MethodName} {bytes : ByteArray} {ret : Option FieldType} {p0 : Value} (C : aj_C G cc tbl own (aj_rm r2 c2 s2) nL) (k : Nat) (h : tbl[k]? = some (pc, .invokestatic idx, 3)) (hq : pc + 3 = q) (hl : Cond.methodLink own idx y ∈ aj_TB) (cd : aj_cd y bytes maxL ret 1) (cv : Cond.static y ∈ aj_TB) (hr : r1 < r2) (hm : maxL ≤ 13) (hst : (st.map fun v => v.category).sum ≤ 8) (hM : aj_M (gl G) y (aj_wc y bytes maxL ret) (aj_rm r1 0 0) [] [p0] I J V N L (aj_kont G pc q lv st bc bs)) : aj_X G pc lv (p0 :: st) I J V N L bc bs := x_invS (As := [p0]) C k h hq hl cd cv rfl (aj_hr hr hm) hst aj_f0 aj_f0 (Nat.zero_add _).symm (Nat.zero_add _).symm hM
theorem y_cV2 {idx maxL r1 r2 c2 s2 : Nat} {y : MethodName} {bytes : ByteArray} {ret : Option FieldType} {a : Nat} {p0 p1 : Value} (C : aj_C G cc tbl own (aj_rm r2 c2 s2) nL) (k : Nat) (h : tbl[k]? = some (pc, .invokevirtual idx, 3)) (hq : pc + 3 = q) (hl : Cond.methodLink own idx y ∈ aj_TB) (cd : aj_cd y bytes maxL ret 2) (cv : aj_cv y) (ha : a % 16 < 7 ∧ aj_R (a % 16) = y.cls) (haL : a ∈ L) (hr : r1 < r2) (hm : maxL ≤ 13) (hst : (st.map fun v => v.category).sum ≤ 8) (hM : aj_M (gl G) y (aj_wc y bytes maxL ret) (aj_rm r1 0 0) [] (.ref a :: [p0, p1]) I J V N L (aj_kont G pc q lv st bc bs)) : aj_X G pc lv (p1 :: p0 :: .ref a :: st) I J V N L bc bs := x_invV (As := [p0, p1]) C k h hq hl cd cv ha haL rfl (aj_hr hr hm) hst aj_f0 aj_f0 (Nat.zero_add _).symm (Nat.zero_add _).symm hM
theorem y_cS2 {idx maxL r1 r2 c2 s2 : Nat} {y : MethodName} {bytes : ByteArray} {ret : Option FieldType} {p0 p1 : Value} (C : aj_C G cc tbl own (aj_rm r2 c2 s2) nL) (k : Nat) (h : tbl[k]? = some (pc, .invokestatic idx, 3)) (hq : pc + 3 = q) (hl : Cond.methodLink own idx y ∈ aj_TB) (cd : aj_cd y bytes maxL ret 2) (cv : Cond.static y ∈ aj_TB) (hr : r1 < r2) (hm : maxL ≤ 13) (hst : (st.map fun v => v.category).sum ≤ 8) (hM : aj_M (gl G) y (aj_wc y bytes maxL ret) (aj_rm r1 0 0) [] [p0, p1] I J V N L (aj_kont G pc q lv st bc bs)) : aj_X G pc lv (p1 :: p0 :: st) I J V N L bc bs := x_invS (As := [p0, p1]) C k h hq hl cd cv rfl (aj_hr hr hm) hst aj_f0 aj_f0 (Nat.zero_add _).symm (Nat.zero_add _).symm hM
theorem y_cV3 {idx maxL r1 r2 c2 s2 : Nat} {y : MethodName} {bytes : ByteArray} {ret : Option FieldType} {a : Nat} {p0 p1 p2 : Value} (C : aj_C G cc tbl own (aj_rm r2 c2 s2) nL) (k : Nat) (h : tbl[k]? = some (pc, .invokevirtual idx, 3)) (hq : pc + 3 = q) (hl : Cond.methodLink own idx y ∈ aj_TB) (cd : aj_cd y bytes maxL ret 3) (cv : aj_cv y) (ha : a % 16 < 7 ∧ aj_R (a % 16) = y.cls) (haL : a ∈ L) (hr : r1 < r2) (hm : maxL ≤ 13) (hst : (st.map fun v => v.category).sum ≤ 8) (hM : aj_M (gl G) y (aj_wc y bytes maxL ret) (aj_rm r1 0 0) [] (.ref a :: [p0, p1, p2]) I J V N L (aj_kont G pc q lv st bc bs)) : aj_X G pc lv (p2 :: p1 :: p0 :: .ref a :: st) I J V N L bc bs := x_invV (As := [p0, p1, p2]) C k h hq hl cd cv ha haL rfl (aj_hr hr hm) hst aj_f0 aj_f0 (Nat.zero_add _).symm (Nat.zero_add _).symm hM
theorem y_cS3 {idx maxL r1 r2 c2 s2 : Nat} {y : MethodName} {bytes : ByteArray} {ret : Option FieldType} {p0 p1 p2 : Value} (C : aj_C G cc tbl own (aj_rm r2 c2 s2) nL) (k : Nat) (h : tbl[k]? = some (pc, .invokestatic idx, 3)) (hq : pc + 3 = q) (hl : Cond.methodLink own idx y ∈ aj_TB) (cd : aj_cd y bytes maxL ret 3) (cv : Cond.static y ∈ aj_TB) (hr : r1 < r2) (hm : maxL ≤ 13) (hst : (st.map fun v => v.category).sum ≤ 8) (hM : aj_M (gl G) y (aj_wc y bytes maxL ret) (aj_rm r1 0 0) [] [p0, p1, p2] I J V N L (aj_kont G pc q lv st bc bs)) : aj_X G pc lv (p2 :: p1 :: p0 :: st) I J V N L bc bs := x_invS (As := [p0, p1, p2]) C k h hq hl cd cv rfl (aj_hr hr hm) hst aj_f0 aj_f0 (Nat.zero_add _).symm (Nat.zero_add _).symm hM
theorem y_cV4 {idx maxL r1 r2 c2 s2 : Nat} {y : MethodName} {bytes : ByteArray} {ret : Option FieldType} {a : Nat} {p0 p1 p2 p3 : Value} (C : aj_C G cc tbl own (aj_rm r2 c2 s2) nL) (k : Nat) (h : tbl[k]? = some (pc, .invokevirtual idx, 3)) (hq : pc + 3 = q) (hl : Cond.methodLink own idx y ∈ aj_TB) (cd : aj_cd y bytes maxL ret 4) (cv : aj_cv y) (ha : a % 16 < 7 ∧ aj_R (a % 16) = y.cls) (haL : a ∈ L) (hr : r1 < r2) (hm : maxL ≤ 13) (hst : (st.map fun v => v.category).sum ≤ 8) (hM : aj_M (gl G) y (aj_wc y bytes maxL ret) (aj_rm r1 0 0) [] (.ref a :: [p0, p1, p2, p3]) I J V N L (aj_kont G pc q lv st bc bs)) : aj_X G pc lv (p3 :: p2 :: p1 :: p0 :: .ref a :: st) I J V N L bc bs := x_invV (As := [p0, p1, p2, p3]) C k h hq hl cd cv ha haL rfl (aj_hr hr hm) hst aj_f0 aj_f0 (Nat.zero_add _).symm (Nat.zero_add _).symm hM
theorem y_cS4 {idx maxL r1 r2 c2 s2 : Nat} {y : MethodName} {bytes : ByteArray} {ret : Option FieldType} {p0 p1 p2 p3 : Value} (C : aj_C G cc tbl own (aj_rm r2 c2 s2) nL) (k : Nat) (h : tbl[k]? = some (pc, .invokestatic idx, 3)) (hq : pc + 3 = q) (hl : Cond.methodLink own idx y ∈ aj_TB) (cd : aj_cd y bytes maxL ret 4) (cv : Cond.static y ∈ aj_TB) (hr : r1 < r2) (hm : maxL ≤ 13) (hst : (st.map fun v => v.category).sum ≤ 8) (hM : aj_M (gl G) y (aj_wc y bytes maxL ret) (aj_rm r1 0 0) [] [p0, p1, p2, p3] I J V N L (aj_kont G pc q lv st bc bs)) : aj_X G pc lv (p3 :: p2 :: p1 :: p0 :: st) I J V N L bc bs := x_invS (As := [p0, p1, p2, p3]) C k h hq hl cd cv rfl (aj_hr hr hm) hst aj_f0 aj_f0 (Nat.zero_add _).symm (Nat.zero_add _).symm hM
theorem y_cV5 {idx maxL r1 r2 c2 s2 : Nat} {y : MethodName} {bytes : ByteArray} {ret : Option FieldType} {a : Nat} {p0 p1 p2 p3 p4 : Value} (C : aj_C G cc tbl own (aj_rm r2 c2 s2) nL) (k : Nat) (h : tbl[k]? = some (pc, .invokevirtual idx, 3)) (hq : pc + 3 = q) (hl : Cond.methodLink own idx y ∈ aj_TB) (cd : aj_cd y bytes maxL ret 5) (cv : aj_cv y) (ha : a % 16 < 7 ∧ aj_R (a % 16) = y.cls) (haL : a ∈ L) (hr : r1 < r2) (hm : maxL ≤ 13) (hst : (st.map fun v => v.category).sum ≤ 8) (hM : aj_M (gl G) y (aj_wc y bytes maxL ret) (aj_rm r1 0 0) [] (.ref a :: [p0, p1, p2, p3, p4]) I J V N L (aj_kont G pc q lv st bc bs)) : aj_X G pc lv (p4 :: p3 :: p2 :: p1 :: p0 :: .ref a :: st) I J V N L bc bs := x_invV (As := [p0, p1, p2, p3, p4]) C k h hq hl cd cv ha haL rfl (aj_hr hr hm) hst aj_f0 aj_f0 (Nat.zero_add _).symm (Nat.zero_add _).symm hM
theorem y_cS5 {idx maxL r1 r2 c2 s2 : Nat} {y : MethodName} {bytes : ByteArray} {ret : Option FieldType} {p0 p1 p2 p3 p4 : Value} (C : aj_C G cc tbl own (aj_rm r2 c2 s2) nL) (k : Nat) (h : tbl[k]? = some (pc, .invokestatic idx, 3)) (hq : pc + 3 = q) (hl : Cond.methodLink own idx y ∈ aj_TB) (cd : aj_cd y bytes maxL ret 5) (cv : Cond.static y ∈ aj_TB) (hr : r1 < r2) (hm : maxL ≤ 13) (hst : (st.map fun v => v.category).sum ≤ 8) (hM : aj_M (gl G) y (aj_wc y bytes maxL ret) (aj_rm r1 0 0) [] [p0, p1, p2, p3, p4] I J V N L (aj_kont G pc q lv st bc bs)) : aj_X G pc lv (p4 :: p3 :: p2 :: p1 :: p0 :: st) I J V N L bc bs := x_invS (As := [p0, p1, p2, p3, p4]) C k h hq hl cd cv rfl (aj_hr hr hm) hst aj_f0 aj_f0 (Nat.zero_add _).symm (Nat.zero_add _).symm hM
theorem y_cSN1 {idx maxL r1 r2 c2 s2 : Nat} {y : MethodName} {bytes : ByteArray} {ret : Option FieldType} {p0 : Value} {host : String} (C : aj_C G cc tbl own (aj_rm r2 c2 s2) nL) (k : Nat) (h : tbl[k]? = some (pc, .invokestatic idx, 3)) (hq : pc + 3 = q) (hl : (own, idx, y, host) ∈ aj_NM) (cd : aj_cd y bytes maxL ret 1) (cv : Cond.static y ∈ aj_TB) (hr : r1 < r2) (hm : maxL ≤ 13) (hst : (st.map fun v => v.category).sum ≤ 8) (hM : aj_M (gl G) y (aj_wc y bytes maxL ret) (aj_rm r1 0 0) [] [p0] I J V N L (aj_kont G pc q lv st bc bs)) : aj_X G pc lv (p0 :: st) I J V N L bc bs := x_invSN (As := [p0]) C k h hq hl cd cv rfl (aj_hr hr hm) hst aj_f0 aj_f0 (Nat.zero_add _).symm (Nat.zero_add _).symm hM
end AJ6
end
section
section AJT
variable {G : aj_G} {cc : ByteArray} {tbl : List (Nat × Instr × Nat)} {own : String} {R0 : Room} {nL : Nat} {pc q : Nat} {lv lv' : List (Option Value)} {st st' : List Value} {I : Nat → Nat → Int32} {J : Nat → Nat → Int64} {V : Nat → Nat → Option Nat} {N : Nat → Nat} {L : List Nat} {bc bs : Nat}
-- ROWS FOR TEXTS
/-- DigitTens, DigitOnes, COMPACT_STRINGS -/
theorem x_getCS {idx : Nat} (C : aj_C G cc tbl own R0 nL) (k : Nat) (h : tbl[k]? = some (pc, .getstatic idx, 3)) (hq : pc + 3 = q) (hw : Cond.fieldLink own idx "java/lang/String" "COMPACT_STRINGS" "Z" ∈ aj_TB) (kk : aj_X G q lv (.int 1 :: st) I J V N L bc bs) : aj_X G pc lv st I J V N L bc bs := by
  subst hq
  intro r H locs cells slots ls hP hD hS hLL hF hc hs hl
  exact va_gets C.x C.b (v := .int 1) C.gw.1.2.2.2.2.1.1.1 hS C.o (C.ts _ hw) (fun _ z => z) (C.d h) (kk r H locs cells slots ls hP hD hS hLL hF hc hs hl)
theorem x_dgT {idx : Nat} (C : aj_C G cc tbl own R0 nL) (k : Nat) (h : tbl[k]? = some (pc, .getstatic idx, 3)) (hq : pc + 3 = q) (hw : Cond.fieldLink own idx "java/lang/Integer" "DigitTens" "[B" ∈ aj_TB) (kk : aj_X G q lv (.ref 13 :: st) I J V N L bc bs) : aj_X G pc lv st I J V N L bc bs := by
  subst hq
  intro r H locs cells slots ls hP hD hS hLL hF hc hs hl
  have e : r 13 = gr G 13 := hF 13 (fun h => C.f 13 h (Or.inr (Or.inl rfl)))
  refine va_gets C.x C.b (v := .ref (r 13)) ?_ hS C.o (C.ts _ hw) (fun _ z => z) (C.d h) (kk r H locs cells slots ls hP hD hS hLL hF hc hs hl)
  rw [e]; exact C.gw.1.2.2.2.2.1.1.2.1
theorem x_dgO {idx : Nat} (C : aj_C G cc tbl own R0 nL) (k : Nat) (h : tbl[k]? = some (pc, .getstatic idx, 3)) (hq : pc + 3 = q) (hw : Cond.fieldLink own idx "java/lang/Integer" "DigitOnes" "[B" ∈ aj_TB) (kk : aj_X G q lv (.ref 14 :: st) I J V N L bc bs) : aj_X G pc lv st I J V N L bc bs := by
  subst hq
  intro r H locs cells slots ls hP hD hS hLL hF hc hs hl
  have e : r 14 = gr G 14 := hF 14 (fun h => C.f 14 h (Or.inr (Or.inr rfl)))
  refine va_gets C.x C.b (v := .ref (r 14)) ?_ hS C.o (C.ts _ hw) (fun _ z => z) (C.d h) (kk r H locs cells slots ls hP hD hS hLL hF hc hs hl)
  rw [e]; exact C.gw.1.2.2.2.2.1.1.2.2
theorem x_dglT {j : Int32} (C : aj_C G cc tbl own R0 nL) (k : Nat) (h : tbl[k]? = some (pc, .baload, 1)) (hq : pc + 1 = q) (hin : vp_in j 100) (kk : aj_X G q lv (.int (Int32.ofNat (48 + j.toNatClampNeg / 10)) :: st) I J V N L bc bs) : aj_X G pc lv (.int j :: .ref 13 :: st) I J V N L bc bs := by
  subst hq
  intro r H locs cells slots ls hP hD hS hLL hF hc hs hl
  have e : r 13 = gr G 13 := hF 13 (fun h => C.f 13 h (Or.inr (Or.inl rfl)))
  refine va_tb C.x C.b (t := r 13) (N := 100) (f := aj_dg true) ?_ hS hin rfl (C.d h) ?_
  · rw [e]; exact C.gw.1.2.2.2.2.1.2.1
  · exact kk r H locs cells slots ls hP hD hS hLL hF hc hs hl
theorem x_dglO {j : Int32} (C : aj_C G cc tbl own R0 nL) (k : Nat) (h : tbl[k]? = some (pc, .baload, 1)) (hq : pc + 1 = q) (hin : vp_in j 100) (kk : aj_X G q lv (.int (Int32.ofNat (48 + j.toNatClampNeg % 10)) :: st) I J V N L bc bs) : aj_X G pc lv (.int j :: .ref 14 :: st) I J V N L bc bs := by
  subst hq
  intro r H locs cells slots ls hP hD hS hLL hF hc hs hl
  have e : r 14 = gr G 14 := hF 14 (fun h => C.f 14 h (Or.inr (Or.inr rfl)))
  refine va_tb C.x C.b (t := r 14) (N := 100) (f := aj_dg false) ?_ hS hin rfl (C.d h) ?_
  · rw [e]; exact C.gw.1.2.2.2.2.1.2.2.1
  · exact kk r H locs cells slots ls hP hD hS hLL hF hc hs hl
-- byte rows
theorem x_bast (C : aj_C G cc tbl own R0 nL) (k : Nat) {i : Nat} {j x : Int32} (h : tbl[k]? = some (pc, .bastore, 1)) (hq : pc + 1 = q) (hi : i % 16 = 10) (hL : i ∈ L) (hin : vp_in j (N i)) (kk : aj_X G q lv st (aj_u I i j.toNatClampNeg (vp_nar .byte x)) J V N L bc bs) : aj_X G pc lv (.int x :: .int j :: .ref i :: st) I J V N L bc bs := by
  subst hq
  intro r H locs cells slots ls hP hD hS hLL hF hc hs hl
  obtain ⟨k0, hk0, he⟩ := aj_ws_at (cs := gcs G) (r := r) (I := I) (J := J) (V := V) (N := N) hL
  rw [aj_el_byte hi] at he
  have hws : (aj_ws (gcs G) r I J V N L).set k0 (r i, .inl (gcs G 2, N i, .inl (upd (I i) j.toNatClampNeg (vp_nar .byte x)))) = aj_ws (gcs G) r (aj_u I i j.toNatClampNeg (vp_nar .byte x)) J V N L := by
    rw [← aj_ws_set (I' := aj_u I i j.toNatClampNeg (vp_nar .byte x)) hD hk0 (fun a ha => aj_el_congr (aj_u_o I _ ha) rfl rfl rfl), aj_el_byte hi, aj_upd_u I i j.toNatClampNeg (vp_nar .byte x) (upd (I i) j.toNatClampNeg (vp_nar .byte x)) (fun b => rfl)]
  refine va_bast C.x C.b C.k hP hD hS k0 2 he rfl hin (C.d h) (fun H1 locs1 hP1 hD1 hS1 => ?_)
  rw [hws] at hP1 hD1
  exact kk r H1 locs1 cells slots ls hP1 hD1 hS1 hLL hF hc hs hl
theorem x_alenB (C : aj_C G cc tbl own R0 nL) (k : Nat) {i : Nat} (h : tbl[k]? = some (pc, .arraylength, 1)) (hq : pc + 1 = q) (hi : i % 16 = 10) (hL : i ∈ L) (kk : aj_X G q lv (.int (Int32.ofNat (N i)) :: st) I J V N L bc bs) : aj_X G pc lv (.ref i :: st) I J V N L bc bs := by
  subst hq
  intro r H locs cells slots ls hP hD hS hLL hF hc hs hl
  obtain ⟨k0, hk0, he⟩ := aj_ws_at (cs := gcs G) (r := r) (I := I) (J := J) (V := V) (N := N) hL
  rw [aj_el_byte hi] at he
  exact va_alen C.x C.b C.k hP k0 2 he rfl rfl (C.d h) (kk r H locs cells slots ls hP hD hS hLL hF hc hs hl)
theorem x_newB (C : aj_C G cc tbl own R0 nL) (k a : Nat) {n : Int32} {n' m bc' bs' : Nat} (h : tbl[k]? = some (pc, .newarray .byte, 2)) (hq : pc + 2 = q) (hw : Cond.arrayClass .byte ∈ aj_TB) (hn : ¬ n < 0) (hn' : n.toNatClampNeg = n') (hm : n' ≤ m) (hm2 : m ≤ 1000000) (ha : a % 16 = 10) (haF : a ∈ gF G) (haL : a ∉ L) (hV : ∀ i ∈ L, ∀ j, V i j ≠ some a) (hno : aj_no a lv st) (hbc : bc = bc' + 1) (hbs : bs = bs' + m)
    (kk : aj_X G q lv (.ref a :: st) (aj_z I a 0) J V (aj_ur N a n') (L ++ [a]) bc' bs') : aj_X G pc lv (.int n :: st) I J V N L bc bs := by
  subst hq
  intro r H locs cells slots ls hP hD hS hLL hF hc hs hl
  refine va_newa (atype := .byte) (ty := .byte) (a0 := (n', .inl (fun _ => 0))) C.x C.b (C.ts _ hw) rfl C.k hP hD hS C.a (fun cA => rfl) hn hn' (by show n' * 1 ≤ _; omega) (by omega) (by omega) (C.d h) (fun b cA H1 hK1 hP1 hD1 hS1 => ?_)
  have hcA : cA = gcs G 2 := by
    have h1 := aj_ra_prim (ty := .byte) (fun _ => by simp) (hK1.2 4 (cA, .byte) rfl).2
    have h2 := aj_ra_prim (ty := .byte) (fun _ => by simp) (C.k.2 2 (gcs G 2, .byte) rfl).2
    exact Option.some.inj (h1.symm.trans h2)
  subst hcA
  have hws := aj_new_ws (cs := gcs G) (r := r) (I := I) (J := J) (V := V) (N := N) (b := b) (I' := aj_z I a 0) (J' := J) (V' := V) (N' := aj_ur N a n') haL hV (fun i hi => aj_z_o I 0 hi) (fun i hi => rfl) (fun i hi => rfl) (fun i hi => aj_ur_n N n' hi)
  rw [aj_el_byte ha, aj_z_s, aj_ur_s] at hws
  rw [← hws] at hP1 hD1
  refine W.widen (k := cells + 1) (n := slots + m) (Nat.le_refl _) (by omega) ?_
  have hk := kk (aj_ur r a b) H1 locs (cells + 1) (slots + m) ls hP1 hD1 hS1 (fun i hi => List.mem_append_left _ (hLL i hi)) (fun i hi => (aj_ur_n r b (fun e => hi (by rw [e]; exact haF))).trans (hF i hi)) (by omega) (by omega) (by rw [aj_lvs_ur hno.2]; exact hl)
  have e : (Value.ref a :: st).map (aj_v (aj_ur r a b)) = Value.ref b :: st.map (aj_v r) := by
    show aj_v _ (.ref a) :: st.map _ = _
    rw [aj_st_ur hno.1]
    show Value.ref (aj_ur r a b a) :: _ = _
    rw [aj_ur_s]
  rw [e] at hk
  exact hk
/-- the machine's arraycopy -/
def aj_ac (own : String) (idx : Nat) : Prop := Cond.methodLink own idx arraycopyName ∈ aj_TB ∧ Cond.native arraycopyName ∈ aj_TB ∧ Cond.static arraycopyName ∈ aj_TB ∧ Cond.initialized "java/lang/System" ∈ aj_TB
theorem aj_copy_ws {cs : Nat → ClassId} {r : Nat → Nat} {A : Nat → Prop} {a k1 : Nat} {g : Nat → Int32} (hD : va_D A (aj_ws cs r I J V N L)) (hk1 : L[k1]? = some a) (ha : a % 16 = 10) : (aj_ws cs r I J V N L).set k1 (r a, .inl (cs 2, N a, .inl g)) = aj_ws cs r (aj_ur I a g) J V N L := by
  rw [← aj_ws_set (I' := aj_ur I a g) hD hk1 (fun b hb => aj_el_congr (aj_ur_n I g hb) rfl rfl rfl), aj_el_byte ha, aj_ur_s]
theorem x_copyB (C : aj_C G cc tbl own R0 nL) (k : Nat) {idx i a : Nat} {sp dp n : Int32} (h : tbl[k]? = some (pc, .invokestatic idx, 3)) (hq : pc + 3 = q) (hw : aj_ac own idx) (hroom : 1 ≤ R0.frames ∧ (st.map fun v => v.category).sum + 30 ≤ R0.locals) (hi : i % 16 = 10) (hL : i ∈ L) (ha : a % 16 = 10) (haL : a ∈ L) (h1 : ¬ sp < 0) (h2 : ¬ dp < 0) (h3 : ¬ n < 0) (h4 : sp.toNatClampNeg + n.toNatClampNeg ≤ N i) (h5 : dp.toNatClampNeg + n.toNatClampNeg ≤ N a) (hfit : ∀ t, fits .byte (.int (I i t)) = true)
    (kk : aj_X G q lv st (aj_ur I a (va_cpy (I i) (I a) sp.toNatClampNeg dp.toNatClampNeg n.toNatClampNeg)) J V N L bc bs) : aj_X G pc lv (.int n :: .int dp :: .ref a :: .int sp :: .ref i :: st) I J V N L bc bs := by
  subst hq
  intro r H locs cells slots ls hP hD hS hLL hF hc hs hl
  obtain ⟨k0, hk0, he⟩ := aj_ws_at (cs := gcs G) (r := r) (I := I) (J := J) (V := V) (N := N) hL
  obtain ⟨k1, hk1, he1⟩ := aj_ws_at (cs := gcs G) (r := r) (I := I) (J := J) (V := V) (N := N) haL
  rw [aj_el_byte hi] at he
  rw [aj_el_byte ha] at he1
  refine va_copyi C.x C.b (C.ml.trans hl.1.symm) C.o (C.ts _ hw.1) (C.ts _ hw.2.1) (C.ts _ hw.2.2.1) (C.ts _ hw.2.2.2) C.k hP hD hS k0 k1 2 2 (ty := .byte) he he1 rfl rfl rfl h1 h2 h3 h4 h5 (fun t _ => hfit _) (by rw [C.r]; exact hroom.1) (by rw [aj_st_cat, C.r]; refine Nat.le_trans ?_ hroom.2; exact Nat.add_le_add_left (by decide) _) (C.d h) (fun H1 locs1 hP1 hD1 hS1 => ?_)
  rw [aj_copy_ws hD hk1 ha] at hP1 hD1
  exact kk r H1 locs1 cells slots ls hP1 hD1 hS1 hLL hF hc hs hl
theorem aj_kb (i z : Nat) : (([[], [32]] : List (List Int32)).getD i []).getD z 0 = 0 ∨ (([[], [32]] : List (List Int32)).getD i []).getD z 0 = 32 := by
  rcases i with _ | _ | i
  · left; simp
  · rcases z with _ | z
    · right; simp
    · left; simp
  · left; simp
def aj_kl (i : Nat) : Nat := ([0, 1] : List Nat).getD i 0
/-- out of a constant's row -/
theorem x_copyK (C : aj_C G cc tbl own R0 nL) (k : Nat) {idx i a : Nat} {sp dp n : Int32} (h : tbl[k]? = some (pc, .invokestatic idx, 3)) (hq : pc + 3 = q) (hw : aj_ac own idx) (hroom : 1 ≤ R0.frames ∧ (st.map fun v => v.category).sum + 30 ≤ R0.locals) (hi : i < 2) (ha : a % 16 = 10) (haL : a ∈ L) (h1 : ¬ sp < 0) (h2 : ¬ dp < 0) (h3 : ¬ n < 0) (h4 : sp.toNatClampNeg + n.toNatClampNeg ≤ aj_kl i) (h5 : dp.toNatClampNeg + n.toNatClampNeg ≤ N a)
    (kk : aj_X G q lv st (aj_ur I a (va_cpy (fun j => (([[], [32]] : List (List Int32)).getD i []).getD j 0) (I a) sp.toNatClampNeg dp.toNatClampNeg n.toNatClampNeg)) J V N L bc bs) : aj_X G pc lv (.int n :: .int dp :: .ref a :: .int sp :: .ref (60 + 16 * i) :: st) I J V N L bc bs := by
  subst hq
  intro r H locs cells slots ls hP hD hS hLL hF hc hs hl
  obtain ⟨k1, hk1, he1⟩ := aj_ws_at (cs := gcs G) (r := r) (I := I) (J := J) (V := V) (N := N) haL
  rw [aj_el_byte ha] at he1
  have e : r (60 + 16 * i) = gr G (60 + 16 * i) := hF _ (fun h => C.f _ h (Or.inl (by omega)))
  have hX := (C.gw.1.2.2.2.2.1.2.2.2.1 i hi).2.2.2
  refine vk_copyt C.x C.b (C.ml.trans hl.1.symm) C.o (C.ts _ hw.1) (C.ts _ hw.2.1) (C.ts _ hw.2.2.1) (C.ts _ hw.2.2.2) C.k hP hD hS (b0 := r (60 + 16 * i)) (n0 := aj_kl i) (f := fun j => (([[], [32]] : List (List Int32)).getD i []).getD j 0) ?_ k1 2 he1 rfl h1 h2 h3 h4 h5 (fun t _ => ?_) (by rw [C.r]; exact hroom.1) (by rw [aj_st_cat, C.r]; refine Nat.le_trans ?_ hroom.2; exact Nat.add_le_add_left (by decide) _) (C.d h) (fun H1 locs1 hP1 hD1 hS1 => ?_)
  · rw [e]; exact hX
  · rcases aj_kb i (sp.toNatClampNeg + t) with e | e <;> rw [e] <;> rfl
  · rw [aj_copy_ws hD hk1 ha] at hP1 hD1
    exact kk r H1 locs1 cells slots ls hP1 hD1 hS1 hLL hF hc hs hl
def aj_clo (own : String) (idx : Nat) : Prop := Cond.methodLink own idx ⟨"[B", "clone", "()Ljava/lang/Object;"⟩ ∈ aj_TB ∧ Cond.sameMethod "[B" "java/lang/Object" "clone" "()Ljava/lang/Object;" ∈ aj_TB ∧ Cond.native ⟨"java/lang/Object", "clone", "()Ljava/lang/Object;"⟩ ∈ aj_TB ∧ Cond.instanceMethod ⟨"java/lang/Object", "clone", "()Ljava/lang/Object;"⟩ ∈ aj_TB ∧ Cond.selects "[B" ⟨"[B", "clone", "()Ljava/lang/Object;"⟩ ⟨"java/lang/Object", "clone", "()Ljava/lang/Object;"⟩ ∈ aj_TB
theorem x_clone (C : aj_C G cc tbl own R0 nL) (k a : Nat) {idx i m bc' bs' : Nat} (h : tbl[k]? = some (pc, .invokevirtual idx, 3)) (hq : pc + 3 = q) (hw : aj_clo own idx) (hroom : 1 ≤ R0.frames ∧ (st.map fun v => v.category).sum + 14 ≤ R0.locals) (hi : i % 16 = 10) (hL : i ∈ L) (hm : N i ≤ m) (hfit : ∀ t, fits .byte (.int (I i t)) = true) (ha : a % 16 = 10) (haF : a ∈ gF G) (haL : a ∉ L) (hV : ∀ i ∈ L, ∀ j, V i j ≠ some a) (hno : aj_no a lv st) (hbc : bc = bc' + 1) (hbs : bs = bs' + m)
    (kk : aj_X G q lv (.ref a :: st) (aj_ur I a (I i)) J V (aj_ur N a (N i)) (L ++ [a]) bc' bs') : aj_X G pc lv (.ref i :: st) I J V N L bc bs := by
  subst hq
  intro r H locs cells slots ls hP hD hS hLL hF hc hs hl
  obtain ⟨k0, hk0, he⟩ := aj_ws_at (cs := gcs G) (r := r) (I := I) (J := J) (V := V) (N := N) hL
  rw [aj_el_byte hi] at he
  refine va_clone C.x C.b (C.ml.trans hl.1.symm) C.o (C.ts _ hw.1) (C.ts _ hw.2.1) (C.ts _ hw.2.2.1) (C.ts _ hw.2.2.2.1) (C.ts _ hw.2.2.2.2) C.gw.1.2.2.2.2.2.2.2 C.k hP hD hS C.a k0 2 he rfl (va_nm_byte (C.k.2 2 (gcs G 2, .byte) rfl).2) (va_fit (F := fun j => .int (I i j)) (fun t _ => hfit t)) (by rw [C.r]; exact hroom.1) (by rw [aj_st_cat, C.r]; exact hroom.2) (by omega) (by show slots + N i ≤ _; omega) (C.d h) (fun b H1 hK1 hP1 hD1 hS1 => ?_)
  have hws := aj_new_ws (cs := gcs G) (r := r) (I := I) (J := J) (V := V) (N := N) (b := b) (I' := aj_ur I a (I i)) (J' := J) (V' := V) (N' := aj_ur N a (N i)) haL hV (fun i hi => aj_ur_n I _ hi) (fun i hi => rfl) (fun i hi => rfl) (fun i hi => aj_ur_n N _ hi)
  rw [aj_el_byte ha, aj_ur_s, aj_ur_s] at hws
  rw [← hws] at hP1 hD1
  refine W.widen (k := cells + 1) (n := slots + m) (Nat.le_refl _) (by show slots + N i ≤ _; omega) ?_
  have hk := kk (aj_ur r a b) H1 locs (cells + 1) (slots + m) ls hP1 hD1 hS1 (fun i hi => List.mem_append_left _ (hLL i hi)) (fun i hi => (aj_ur_n r b (fun e => hi (by rw [e]; exact haF))).trans (hF i hi)) (by omega) (by omega) (by rw [aj_lvs_ur hno.2]; exact hl)
  have e : (Value.ref a :: st).map (aj_v (aj_ur r a b)) = Value.ref b :: st.map (aj_v r) := by
    show aj_v _ (.ref a) :: st.map _ = _
    rw [aj_st_ur hno.1]
    show Value.ref (aj_ur r a b a) :: _ = _
    rw [aj_ur_s]
  rw [e] at hk
  exact hk
theorem x_castB (C : aj_C G cc tbl own R0 nL) (k : Nat) {idx i : Nat} (h : tbl[k]? = some (pc, .checkcast idx, 3)) (hq : pc + 3 = q) (hw : Cond.classLink own idx "[B" ∈ aj_TB) (hi : i % 16 = 10) (hL : i ∈ L) (kk : aj_X G q lv (.ref i :: st) I J V N L bc bs) : aj_X G pc lv (.ref i :: st) I J V N L bc bs := by
  subst hq
  intro r H locs cells slots ls hP hD hS hLL hF hc hs hl
  obtain ⟨k0, hk0, he⟩ := aj_ws_at (cs := gcs G) (r := r) (I := I) (J := J) (V := V) (N := N) hL
  rw [aj_el_byte hi] at he
  exact va_castA C.x C.b C.o (C.ts _ hw) hP k0 he (va_nm_byte (C.k.2 2 (gcs G 2, .byte) rfl).2) (C.d h) (kk r H locs cells slots ls hP hD hS hLL hF hc hs hl)
def aj_mw (own : String) (idx : Nat) (y : MethodName) (bytes : ByteArray) : Prop := Cond.methodLink own idx y ∈ aj_TB ∧ Cond.static y ∈ aj_TB ∧ Cond.initialized "java/lang/Math" ∈ aj_TB ∧ Cond.code y bytes 2 (some .int) ∈ aj_TB
theorem x_min {idx : Nat} {x y : Int32} (C : aj_C G cc tbl own R0 nL) (k : Nat) (h : tbl[k]? = some (pc, .invokestatic idx, 3)) (hq : pc + 3 = q) (hw : aj_mw own idx Lib.Math.min.name Lib.Math.min.code) (hroom : 1 ≤ R0.frames ∧ (st.map fun v => v.category).sum + 13 ≤ R0.locals) (kk : aj_X G q lv (.int (if y < x then y else x) :: st) I J V N L bc bs) : aj_X G pc lv (.int y :: .int x :: st) I J V N L bc bs := by
  subst hq
  intro r H locs cells slots ls hP hD hS hLL hF hc hs hl
  exact va_mmin C.x C.b (C.ml.trans hl.1.symm) C.o (C.ts _ hw.1) (C.ts _ hw.2.1) (C.ts _ hw.2.2.1) (C.ts _ hw.2.2.2) (by rw [C.r]; exact hroom.1) (by rw [aj_st_cat, C.r]; exact hroom.2) (by omega) (by omega) (C.d h) (kk r H locs cells slots ls hP hD hS hLL hF hc hs hl)
theorem x_max {idx : Nat} {x y : Int32} (C : aj_C G cc tbl own R0 nL) (k : Nat) (h : tbl[k]? = some (pc, .invokestatic idx, 3)) (hq : pc + 3 = q) (hw : aj_mw own idx Lib.Math.max.name Lib.Math.max.code) (hroom : 1 ≤ R0.frames ∧ (st.map fun v => v.category).sum + 13 ≤ R0.locals) (kk : aj_X G q lv (.int (if x < y then y else x) :: st) I J V N L bc bs) : aj_X G pc lv (.int y :: .int x :: st) I J V N L bc bs := by
  subst hq
  intro r H locs cells slots ls hP hD hS hLL hF hc hs hl
  exact va_mmax C.x C.b (C.ml.trans hl.1.symm) C.o (C.ts _ hw.1) (C.ts _ hw.2.1) (C.ts _ hw.2.2.1) (C.ts _ hw.2.2.2) (by rw [C.r]; exact hroom.1) (by rw [aj_st_cat, C.r]; exact hroom.2) (by omega) (by omega) (C.d h) (kk r H locs cells slots ls hP hD hS hLL hF hc hs hl)
-- a final byte or int, in a constructor; a byte that isn't final
theorem x_putFI (C : aj_C G cc tbl own R0 nL) (k : Nat) {idx i ci kf : Nat} {x : Int32} (h : tbl[k]? = some (pc, .putfield idx, 3)) (hq : pc + 3 = q) (hw : aj_FL own idx ci kf) (hfin : (aj_T ci kf).2.2.2 = true) (hin : (gt G).name = "<init>") (hdecl : (aj_T ci kf).1 = own) (hty : ∀ r I i, aj_fv r I J V i kf (aj_ty ci kf) = .int (I i kf)) (hnar : narrow (aj_ty ci kf) (.int x) = .int x) (hfit : fits (aj_ty ci kf) (.int x) = true) (hi : i % 16 = ci) (hL : i ∈ L) (kk : aj_X G q lv st (aj_u I i kf x) J V N L bc bs) : aj_X G pc lv (.int x :: .ref i :: st) I J V N L bc bs := by
  subst hq
  intro r H locs cells slots ls hP hD hS hLL hF hc hs hl
  obtain ⟨k0, hk0, he⟩ := aj_ws_at (cs := gcs G) (r := r) (I := I) (J := J) (V := V) (N := N) hL
  rw [aj_el_obj hi hw.1] at he
  have hws := aj_put_ws (r := r) (cs := gcs G) (I' := aj_u I i kf x) (J' := J) (V' := V) (v := .int x) hD hk0 hi hw.1 (fun a b z => aj_u_n I x z) (fun a b z => rfl) (fun a b z => rfl) (by rw [hty, aj_u_s])
  refine va_putF C.x C.b C.ts (aj_cl_in ci hw.1) (aj_ty ci) (aj_tyok ci hw.1) (aj_nm ci hw.1) C.o C.k hP hD hS k0 he (aj_cl ci hw.1) kf hw.2.1 (C.ts _ hw.2.2) (fun _ z => z) hfin hin hdecl (ty := aj_ty ci kf) (aj_tyok ci hw.1 kf hw.2.1) hnar hfit (by rw [List.length_map, List.length_range]; exact hw.2.1) (C.d h) (fun H1 locs1 hP1 hD1 hS1 => ?_)
  have hP1 : va_P (gD G) vwCl (aj_ws (gcs G) r (aj_u I i kf x) J V N L) H1 := by rw [← hws]; exact hP1
  have hD1 : va_D (gA G) (aj_ws (gcs G) r (aj_u I i kf x) J V N L) := by rw [← hws]; exact hD1
  exact kk r H1 locs1 cells slots ls hP1 hD1 hS1 hLL hF hc hs hl
theorem x_putB (C : aj_C G cc tbl own R0 nL) (k : Nat) {idx i ci kf : Nat} {x : Int32} (h : tbl[k]? = some (pc, .putfield idx, 3)) (hq : pc + 3 = q) (hw : aj_FL own idx ci kf) (hfin : (aj_T ci kf).2.2.2 = false) (hty : ∀ r I i, aj_fv r I J V i kf (aj_ty ci kf) = .int (I i kf)) (hnar : narrow (aj_ty ci kf) (.int x) = .int x) (hfit : fits (aj_ty ci kf) (.int x) = true) (hi : i % 16 = ci) (hL : i ∈ L) (kk : aj_X G q lv st (aj_u I i kf x) J V N L bc bs) : aj_X G pc lv (.int x :: .ref i :: st) I J V N L bc bs := by
  subst hq
  intro r H locs cells slots ls hP hD hS hLL hF hc hs hl
  obtain ⟨k0, hk0, he⟩ := aj_ws_at (cs := gcs G) (r := r) (I := I) (J := J) (V := V) (N := N) hL
  rw [aj_el_obj hi hw.1] at he
  have hws := aj_put_ws (r := r) (cs := gcs G) (I' := aj_u I i kf x) (J' := J) (V' := V) (v := .int x) hD hk0 hi hw.1 (fun a b z => aj_u_n I x z) (fun a b z => rfl) (fun a b z => rfl) (by rw [hty, aj_u_s])
  refine va_put C.x C.b C.ts (aj_cl_in ci hw.1) (aj_ty ci) (aj_tyok ci hw.1) (aj_nm ci hw.1) C.o C.k hP hD hS k0 he (aj_cl ci hw.1) kf hw.2.1 (C.ts _ hw.2.2) (fun _ z => z) hfin (ty := aj_ty ci kf) (aj_tyok ci hw.1 kf hw.2.1) hnar hfit (by rw [List.length_map, List.length_range]; exact hw.2.1) (C.d h) (fun H1 locs1 hP1 hD1 hS1 => ?_)
  have hP1 : va_P (gD G) vwCl (aj_ws (gcs G) r (aj_u I i kf x) J V N L) H1 := by rw [← hws]; exact hP1
  have hD1 : va_D (gA G) (aj_ws (gcs G) r (aj_u I i kf x) J V N L) := by rw [← hws]; exact hD1
  exact kk r H1 locs1 cells slots ls hP1 hD1 hS1 hLL hF hc hs hl
-- constants
theorem x_ldcS0 (C : aj_C G cc tbl "RaywalkModel" R0 nL) (k : Nat) (h : tbl[k]? = some (pc, .ldc 220, 2)) (hq : pc + 2 = q) (kk : aj_X G q lv (.ref 28 :: st) I J V N L bc bs) : aj_X G pc lv st I J V N L bc bs := by
  subst hq
  intro r H locs cells slots ls hP hD hS hLL hF hc hs hl
  have e : r 28 = gr G 28 := hF 28 (fun h => C.f 28 h (Or.inl rfl))
  refine va_ldcS C.x C.b C.o (tx := "") (q := r 28) ?_ (C.d h) (kk r H locs cells slots ls hP hD hS hLL hF hc hs hl)
  rw [e]; exact C.gw.1.2.2.2.2.2.1
theorem x_ldcS1 (C : aj_C G cc tbl "RaywalkModel" R0 nL) (k : Nat) (h : tbl[k]? = some (pc, .ldc 222, 2)) (hq : pc + 2 = q) (kk : aj_X G q lv (.ref 44 :: st) I J V N L bc bs) : aj_X G pc lv st I J V N L bc bs := by
  subst hq
  intro r H locs cells slots ls hP hD hS hLL hF hc hs hl
  have e : r 44 = gr G 44 := hF 44 (fun h => C.f 44 h (Or.inl rfl))
  refine va_ldcS C.x C.b C.o (tx := " ") (q := r 44) ?_ (C.d h) (kk r H locs cells slots ls hP hD hS hLL hF hc hs hl)
  rw [e]; exact C.gw.1.2.2.2.2.2.2.1
theorem aj_kr {r : Nat → Nat} (C : aj_C G cc tbl own R0 nL) (hF : ∀ i, i ∉ gF G → r i = gr G i) (i : Nat) : r (28 + 16 * i) = gr G (28 + 16 * i) ∧ r (60 + 16 * i) = gr G (60 + 16 * i) := ⟨hF _ (fun h => C.f _ h (Or.inl (by omega))), hF _ (fun h => C.f _ h (Or.inl (by omega)))⟩
theorem x_kgetV (C : aj_C G cc tbl own R0 nL) (k : Nat) {idx i : Nat} (h : tbl[k]? = some (pc, .getfield idx, 3)) (hq : pc + 3 = q) (hw : Cond.fieldLink own idx "java/lang/String" "value" "[B" ∈ aj_TB) (hi : i < 2) (kk : aj_X G q lv (.ref (60 + 16 * i) :: st) I J V N L bc bs) : aj_X G pc lv (.ref (28 + 16 * i) :: st) I J V N L bc bs := by
  subst hq
  intro r H locs cells slots ls hP hD hS hLL hF hc hs hl
  have e := aj_kr C hF i
  refine vk_getf C.x C.b (q := r (28 + 16 * i)) (v := .ref (r (60 + 16 * i))) ?_ hS C.o (C.ts _ hw) (fun _ z => z) (C.d h) (kk r H locs cells slots ls hP hD hS hLL hF hc hs hl)
  rw [e.1, e.2]; exact (C.gw.1.2.2.2.2.1.2.2.2.1 i hi).2.2.1
theorem x_kgetC (C : aj_C G cc tbl own R0 nL) (k : Nat) {idx i : Nat} (h : tbl[k]? = some (pc, .getfield idx, 3)) (hq : pc + 3 = q) (hw : Cond.fieldLink own idx "java/lang/String" "coder" "B" ∈ aj_TB) (hi : i < 2) (kk : aj_X G q lv (.int 0 :: st) I J V N L bc bs) : aj_X G pc lv (.ref (28 + 16 * i) :: st) I J V N L bc bs := by
  subst hq
  intro r H locs cells slots ls hP hD hS hLL hF hc hs hl
  have e := aj_kr C hF i
  refine vk_getf C.x C.b (q := r (28 + 16 * i)) (v := .int 0) ?_ hS C.o (C.ts _ hw) (fun _ z => z) (C.d h) (kk r H locs cells slots ls hP hD hS hLL hF hc hs hl)
  rw [e.1]; exact (C.gw.1.2.2.2.2.1.2.2.2.1 i hi).2.1
theorem x_klen (C : aj_C G cc tbl own R0 nL) (k : Nat) {i : Nat} (h : tbl[k]? = some (pc, .arraylength, 1)) (hq : pc + 1 = q) (hi : i < 2) (kk : aj_X G q lv (.int (Int32.ofNat (aj_kl i)) :: st) I J V N L bc bs) : aj_X G pc lv (.ref (60 + 16 * i) :: st) I J V N L bc bs := by
  subst hq
  intro r H locs cells slots ls hP hD hS hLL hF hc hs hl
  have e := aj_kr C hF i
  refine va_tlen C.x C.b (t := r (60 + 16 * i)) (N := aj_kl i) (f := fun j => .int ((([[], [32]] : List (List Int32)).getD i []).getD j 0)) (ty := .byte) ?_ hS rfl (C.d h) (kk r H locs cells slots ls hP hD hS hLL hF hc hs hl)
  rw [e.2]; exact (C.gw.1.2.2.2.2.1.2.2.2.1 i hi).2.2.2
-- CALLS
section IT
variable {idx maxL n bc' bs' : Nat} {y : MethodName} {bytes : ByteArray} {ret : Option FieldType} {rm : Room} {F' : List Nat} {As : List Value} {a : Nat}
/-- of a constant -/
theorem x_invK {i : Nat} (C : aj_C G cc tbl own R0 nL) (k : Nat) (h : tbl[k]? = some (pc, .invokevirtual idx, 3)) (hq : pc + 3 = q) (hl : Cond.methodLink own idx y ∈ aj_TB) (cd : aj_cd y bytes maxL ret n) (cv : Cond.instanceMethod y ∈ aj_TB ∧ Cond.selects y.cls y y ∈ aj_TB) (hy : y.cls = "java/lang/String") (hi : i < 2)
    (hn : As.length = n) (hroom : rm.frames + 1 ≤ R0.frames ∧ 8 + (maxL + 11) + rm.locals ≤ R0.locals) (hst : (st.map fun v => v.category).sum ≤ 8) (hF' : ∀ i ∈ F', i ∈ gF G) (hno : ∀ i ∈ F', aj_no i lv st) (hbc : bc = rm.cells + bc') (hbs : bs = rm.slots + bs')
    (hM : aj_M (gl G) y (Cond.code y bytes maxL ret :: aj_TB) rm F' (.ref (28 + 16 * i) :: As) I J V N L (aj_kont G pc q lv st bc' bs')) : aj_X G pc lv (As.reverse ++ .ref (28 + 16 * i) :: st) I J V N L bc bs := by
  intro r H locs cells slots ls hP hD hS hLL hF hc hs hlv
  have hrec : ∃ cell : Cell, H[r (28 + 16 * i)]? = some cell ∧ cell.vm.isStatics = false ∧ (gs G).vm.findClass y.cls = some cell.cls := by
    rw [hy, (aj_kr C hF i).1]
    exact vk_recv (adK := fun i => gr G (28 + 16 * i)) (i := i) C.gw.1.2.2.2.2.1.2.2.2 hi hS
  have cw : CallW (gR G) (gs G) (ga G) own y.cls idx y bytes maxL ret (Cond.code y bytes maxL ret :: aj_TB) rm rm.cells rm.slots n := ⟨callB_of n C.ts (aj_goodIn cd.1) rfl rfl rfl (C.ts _ cd.2.1) (C.ts _ hl) cd.2.2 (by rw [C.r]; exact hroom), C.ts _ cv.1, C.ts _ cv.2⟩
  refine aj_after (rm := rm) (F' := F') (av := .ref (28 + 16 * i) :: As) (bc' := bc') (bs' := bs') hq hP hD hS hLL hF (by omega) (by omega) hlv (aj_subA C hD hS) hF' hno (vx_runV (As := As.map (aj_v r)) (b := r (28 + 16 * i)) ⟨C.x, C.b, C.ml, C.o, C.ts⟩ (hM C.st (gD G) (gcs G) r H.size) cw ⟨aj_blind, hrec, fun U hU hW => aj_pre (av := .ref (28 + 16 * i) :: As) C hP hD hS hF U hU hW⟩ rfl (by rw [List.length_map]; exact hn) hlv.1 ?_ (by rw [aj_st_cat]; exact lv_room hst) (C.d h) ⟨by omega, by omega⟩)
  show (As.reverse ++ .ref (28 + 16 * i) :: st).map (aj_v r) = (As.map (aj_v r)).reverse ++ .ref (r (28 + 16 * i)) :: st.map (aj_v r)
  rw [List.map_append, List.map_reverse]; rfl
def aj_cu (own : String) (idx : Nat) (C owner : String) (x y : MethodName) : Prop := (Cond.methodLink own idx x ∈ aj_TB ∧ Cond.sameMethod x.cls owner x.name x.desc ∈ aj_TB ∧ Cond.selects C x y ∈ aj_TB ∧ Cond.instanceMethod y ∈ aj_TB ∧ Cond.initialized y.cls ∈ aj_TB) ∧ y = ⟨owner, x.name, x.desc⟩ ∧ owner ≠ "java/lang/invoke/MethodHandle" ∧ owner ≠ "java/lang/invoke/VarHandle"
def aj_co (own : String) (idx : Nat) (C owner : String) (x y : MethodName) (b0 : ByteArray) (m0 : Nat) (r0 : Option FieldType) : Prop := (Cond.methodLink own idx x ∈ aj_TB ∧ Cond.sameMethod x.cls owner x.name x.desc ∈ aj_TB ∧ Cond.instanceMethod ⟨owner, x.name, x.desc⟩ ∈ aj_TB ∧ Cond.selects C x y ∈ aj_TB ∧ Cond.instanceMethod y ∈ aj_TB ∧ Cond.initialized y.cls ∈ aj_TB) ∧ Cond.code ⟨owner, x.name, x.desc⟩ b0 m0 r0 ∈ aj_TB ∧ owner ≠ "java/lang/invoke/MethodHandle" ∧ owner ≠ "java/lang/invoke/VarHandle"
theorem x_invCU {x : MethodName} {Cn owner : String} (C : aj_C G cc tbl own R0 nL) (k : Nat) (h : tbl[k]? = some (pc, .invokevirtual idx, 3)) (hq : pc + 3 = q)
    (cw : va_CU (gR G) (gs G) (ga G) own Cn owner idx x y bytes maxL ret (Cond.code y bytes maxL ret :: aj_TB) rm rm.cells rm.slots n) (ha : a % 16 < 7 ∧ aj_R (a % 16) = Cn) (haL : a ∈ L)
    (hn : As.length = n) (hst : (st.map fun v => v.category).sum ≤ 8) (hF' : ∀ i ∈ F', i ∈ gF G) (hno : ∀ i ∈ F', aj_no i lv st) (hbc : bc = rm.cells + bc') (hbs : bs = rm.slots + bs')
    (hM : aj_M (gl G) y (Cond.code y bytes maxL ret :: aj_TB) rm F' (.ref a :: As) I J V N L (aj_kont G pc q lv st bc' bs')) : aj_X G pc lv (As.reverse ++ .ref a :: st) I J V N L bc bs := by
  intro r H locs cells slots ls hP hD hS hLL hF hc hs hlv
  obtain ⟨k0, hk0, he⟩ := aj_ws_at (cs := gcs G) (r := r) (I := I) (J := J) (V := V) (N := N) haL
  rw [aj_el_obj rfl ha.1] at he
  have hrec := va_recv C.k hP (aj_cl (a % 16) ha.1) he
  rw [ha.2] at hrec
  refine aj_after (rm := rm) (F' := F') (av := .ref a :: As) (bc' := bc') (bs' := bs') hq hP hD hS hLL hF (by omega) (by omega) hlv (aj_subA C hD hS) hF' hno (vx_runU (As := As.map (aj_v r)) (b := r a) ⟨C.x, C.b, C.ml, C.o, C.ts⟩ (hM C.st (gD G) (gcs G) r H.size) cw ⟨aj_blind, hrec, fun U hU hW => aj_pre (av := .ref a :: As) C hP hD hS hF U hU hW⟩ rfl (by rw [List.length_map]; exact hn) hlv.1 ?_ (by rw [aj_st_cat]; exact lv_room hst) (C.d h) ⟨by omega, by omega⟩)
  show (As.reverse ++ .ref a :: st).map (aj_v r) = (As.map (aj_v r)).reverse ++ .ref (r a) :: st.map (aj_v r)
  rw [List.map_append, List.map_reverse]; rfl
theorem aj_cons_all {P : Cond → Prop} {w : Cond} {l : List Cond} (h : P w) (t : ∀ w ∈ l, P w) : ∀ w' ∈ w :: l, P w' := fun w' hw' => (List.mem_cons.mp hw').elim (fun e => e ▸ h) (t w')
theorem aj_nil_all {P : Cond → Prop} : ∀ w ∈ ([] : List Cond), P w := fun _ h => nomatch h
theorem x_invU {x : MethodName} {Cn owner : String} (C : aj_C G cc tbl own R0 nL) (k : Nat) (h : tbl[k]? = some (pc, .invokevirtual idx, 3)) (hq : pc + 3 = q) (hu : aj_cu own idx Cn owner x y) (cd : aj_cd y bytes maxL ret n) (ha : a % 16 < 7 ∧ aj_R (a % 16) = Cn) (haL : a ∈ L)
    (hn : As.length = n) (hroom : rm.frames + 1 ≤ R0.frames ∧ 8 + (maxL + 11) + rm.locals ≤ R0.locals) (hst : (st.map fun v => v.category).sum ≤ 8) (hF' : ∀ i ∈ F', i ∈ gF G) (hno : ∀ i ∈ F', aj_no i lv st) (hbc : bc = rm.cells + bc') (hbs : bs = rm.slots + bs')
    (hM : aj_M (gl G) y (Cond.code y bytes maxL ret :: aj_TB) rm F' (.ref a :: As) I J V N L (aj_kont G pc q lv st bc' bs')) : aj_X G pc lv (As.reverse ++ .ref a :: st) I J V N L bc bs :=
  x_invCU C k h hq (va_cwU n C.ts (fun w hw => by
    rcases List.mem_append.mp hw with e | e
    · exact aj_cons_all (P := fun w => w ∈ aj_TB ∧ ((w.onTables && w.keeps) = true ∨ ∃ ty, w = .arrayClass ty)) (aj_good _ hu.1.1) (aj_cons_all (aj_good _ hu.1.2.1) (aj_cons_all (aj_good _ hu.1.2.2.1) (aj_cons_all (aj_good _ hu.1.2.2.2.1) (aj_cons_all (aj_good _ hu.1.2.2.2.2) aj_nil_all)))) w e
    · exact aj_goodIn cd.1 w e) rfl rfl rfl hu.2.1 ⟨hu.2.2.1, hu.2.2.2, by have e := cd.2.2.2.2; rw [hu.2.1] at e; exact e⟩ (by rw [C.r]; exact hroom)) ha haL hn hst hF' hno hbc hbs hM
theorem x_invO {x : MethodName} {Cn owner : String} {b0 : ByteArray} {m0 : Nat} {r0 : Option FieldType} (C : aj_C G cc tbl own R0 nL) (k : Nat) (h : tbl[k]? = some (pc, .invokevirtual idx, 3)) (hq : pc + 3 = q) (hu : aj_co own idx Cn owner x y b0 m0 r0) (hd : (parseMethodDescriptor x.desc).map (fun d => d.parameters.length) = some n) (cd : aj_cd y bytes maxL ret n) (ha : a % 16 < 7 ∧ aj_R (a % 16) = Cn) (haL : a ∈ L)
    (hn : As.length = n) (hroom : rm.frames + 1 ≤ R0.frames ∧ 8 + (maxL + 11) + rm.locals ≤ R0.locals) (hst : (st.map fun v => v.category).sum ≤ 8) (hF' : ∀ i ∈ F', i ∈ gF G) (hno : ∀ i ∈ F', aj_no i lv st) (hbc : bc = rm.cells + bc') (hbs : bs = rm.slots + bs')
    (hM : aj_M (gl G) y (Cond.code y bytes maxL ret :: aj_TB) rm F' (.ref a :: As) I J V N L (aj_kont G pc q lv st bc' bs')) : aj_X G pc lv (As.reverse ++ .ref a :: st) I J V N L bc bs :=
  x_invCU C k h hq (va_cwO n C.ts (fun w hw => by
    rcases List.mem_append.mp hw with e | e
    · exact aj_cons_all (P := fun w => w ∈ aj_TB ∧ ((w.onTables && w.keeps) = true ∨ ∃ ty, w = .arrayClass ty)) (aj_good _ hu.1.1) (aj_cons_all (aj_good _ hu.1.2.1) (aj_cons_all (aj_good _ hu.1.2.2.1) (aj_cons_all (aj_good _ hu.1.2.2.2.1) (aj_cons_all (aj_good _ hu.1.2.2.2.2.1) (aj_cons_all (aj_good _ hu.1.2.2.2.2.2) aj_nil_all))))) w e
    · exact aj_goodIn cd.1 w e) rfl rfl rfl hu.2.1 ⟨hu.2.2.1, hu.2.2.2, hd⟩ (by rw [C.r]; exact hroom)) ha haL hn hst hF' hno hbc hbs hM
/-- private methods of the class above -/
theorem aj_selp {s : State} {args : Array Value} {Cn : String} {x0 y : MethodName} (h0 : (Cond.selects Cn x0 x0).before args s = true) (hc : x0.cls = y.cls) (hy : y.cls ≠ "java/lang/invoke/MethodHandle" ∧ y.cls ≠ "java/lang/invoke/VarHandle") (hpriv : (Cond.privateMethod y).before args s = true) (hinst : (Cond.instanceMethod y).before args s = true) : (Cond.selects Cn y y).before args s = true := by
  obtain ⟨c, r, m0, h1, -, h3, -, k0, h5, h6⟩ := Cond.selects_spec h0
  obtain ⟨mk, methM, hnamed, hmethM, -, -⟩ := Cond.instanceMethod_spec hinst
  have hfound : s.methodFound? y.cls y.name y.desc = some mk := State.methodFound?_of_named hnamed hy
  have hcls : mk.cls = m0.cls := Option.some.inj ((findClass_of_methodNamed hnamed).symm.trans (by rw [← hc]; exact findClass_of_methodNamed h3))
  have hsel : selectMethod {} s.vm c mk = .method mk := selectMethod_private hmethM (Cond.privateMethod_at hpriv mk methM hnamed hmethM)
  simp only [Cond.before, Cond.holds, Cond.value, h1, hfound, hnamed, hsel, hcls, h5]
  simp; exact h6
/-- super.m(..) -/
def aj_su (own : String) (idx : Nat) (y : MethodName) : Prop := (Cond.methodLink own idx y ∈ aj_TB ∧ Cond.sameMethod y.cls y.cls y.name y.desc ∈ aj_TB ∧ Cond.superclass own y.cls ∈ aj_TB ∧ Cond.instanceMethod y ∈ aj_TB ∧ Cond.initialized y.cls ∈ aj_TB) ∧ y.name ≠ "<init>"
theorem x_invSu (C : aj_C G cc tbl own R0 nL) (k : Nat) (h : tbl[k]? = some (pc, .invokespecial idx, 3)) (hq : pc + 3 = q) (hu : aj_su own idx y) (cd : aj_cd y bytes maxL ret n) (ha : a % 16 < 7 ∧ aj_R (a % 16) = own) (haL : a ∈ L)
    (hn : As.length = n) (hroom : rm.frames + 1 ≤ R0.frames ∧ 8 + (maxL + 11) + rm.locals ≤ R0.locals) (hst : (st.map fun v => v.category).sum ≤ 8) (hF' : ∀ i ∈ F', i ∈ gF G) (hno : ∀ i ∈ F', aj_no i lv st) (hbc : bc = rm.cells + bc') (hbs : bs = rm.slots + bs')
    (hM : aj_M (gl G) y (Cond.code y bytes maxL ret :: aj_TB) rm F' (.ref a :: As) I J V N L (aj_kont G pc q lv st bc' bs')) : aj_X G pc lv (As.reverse ++ .ref a :: st) I J V N L bc bs := by
  intro r H locs cells slots ls hP hD hS hLL hF hc hs hlv
  obtain ⟨k0, hk0, he⟩ := aj_ws_at (cs := gcs G) (r := r) (I := I) (J := J) (V := V) (N := N) haL
  rw [aj_el_obj rfl ha.1] at he
  have hrec := va_recv C.k hP (aj_cl (a % 16) ha.1) he
  have hat := (C.k.1 (a % 16) _ (aj_cl (a % 16) ha.1)).2
  rw [ha.2] at hrec
  have hat : ClassAt (gs G) own ((gD G).1 (a % 16)) := by rw [← ha.2]; exact hat
  have cw : va_CS (gR G) (gs G) (ga G) own idx y bytes maxL ret (Cond.code y bytes maxL ret :: aj_TB) rm rm.cells rm.slots n := va_cwSU n C.ts (fun w hw => by
    rcases List.mem_append.mp hw with e | e
    · exact aj_cons_all (P := fun w => w ∈ aj_TB ∧ ((w.onTables && w.keeps) = true ∨ ∃ ty, w = .arrayClass ty)) (aj_good _ hu.1.1) (aj_cons_all (aj_good _ hu.1.2.1) (aj_cons_all (aj_good _ hu.1.2.2.1) (aj_cons_all (aj_good _ hu.1.2.2.2.1) (aj_cons_all (aj_good _ hu.1.2.2.2.2) aj_nil_all)))) w e
    · exact aj_goodIn cd.1 w e) rfl rfl rfl ⟨hu.2, cd.2.2.2.2⟩ (by rw [C.r]; exact hroom)
  refine aj_after (rm := rm) (F' := F') (av := .ref a :: As) (bc' := bc') (bs' := bs') hq hP hD hS hLL hF (by omega) (by omega) hlv (aj_subA C hD hS) hF' hno (vx_runSU (As := As.map (aj_v r)) (b := r a) hat ⟨C.x, C.b, C.ml, C.o, C.ts⟩ (hM C.st (gD G) (gcs G) r H.size) cw ⟨aj_blind, hrec, fun U hU hW => aj_pre (av := .ref a :: As) C hP hD hS hF U hU hW⟩ rfl (by rw [List.length_map]; exact hn) hlv.1 ?_ (by rw [aj_st_cat]; exact lv_room hst) (C.d h) ⟨by omega, by omega⟩)
  show (As.reverse ++ .ref a :: st).map (aj_v r) = (As.map (aj_v r)).reverse ++ .ref (r a) :: st.map (aj_v r)
  rw [List.map_append, List.map_reverse]; rfl
end IT
theorem x_ifnonnull (C : aj_C G cc tbl own R0 nL) (k : Nat) {off : Int} {t x : Nat} (h : tbl[k]? = some (pc, .ifnonnull off, 3)) (ht : (pc : Int) + off = (t : Int)) (kk : aj_X G t lv st I J V N L bc bs) : aj_X G pc lv (.ref x :: st) I J V N L bc bs :=
  fun r H locs cells slots ls hP hD hS hLL hF hc hs hl => lv_ifnonnull C.x C.b (C.d h) ht (kk r H locs cells slots ls hP hD hS hLL hF hc hs hl)
theorem y_U0 {idx maxL r1 r2 c2 s2 c1 s1 bc' bs' : Nat} {y : MethodName} {bytes : ByteArray} {F' : List Nat} {ret : Option FieldType} {a : Nat} {x : MethodName} {Cn owner : String} (C : aj_C G cc tbl own (aj_rm r2 c2 s2) nL) (k : Nat) (h : tbl[k]? = some (pc, .invokevirtual idx, 3)) (hq : pc + 3 = q) (hu : aj_cu own idx Cn owner x y) (cd : aj_cd y bytes maxL ret 0) (ha : a % 16 < 7 ∧ aj_R (a % 16) = Cn) (haL : a ∈ L) (hr : r1 < r2) (hm : maxL ≤ 13) (hst : (st.map fun v => v.category).sum ≤ 8) (hbc : bc = c1 + bc') (hbs : bs = s1 + bs') (hF' : ∀ i ∈ F', i ∈ gF G) (hno : ∀ i ∈ F', aj_no i lv st) (hM : aj_M (gl G) y (aj_wc y bytes maxL ret) (aj_rm r1 c1 s1) F' (.ref a :: []) I J V N L (aj_kont G pc q lv st bc' bs')) : aj_X G pc lv (.ref a :: st) I J V N L bc bs := x_invU (As := []) C k h hq hu cd ha haL rfl (aj_hr hr hm) hst hF' hno hbc hbs hM
theorem y_U1 {idx maxL r1 r2 c2 s2 c1 s1 bc' bs' : Nat} {y : MethodName} {bytes : ByteArray} {F' : List Nat} {p0 : Value} {ret : Option FieldType} {a : Nat} {x : MethodName} {Cn owner : String} (C : aj_C G cc tbl own (aj_rm r2 c2 s2) nL) (k : Nat) (h : tbl[k]? = some (pc, .invokevirtual idx, 3)) (hq : pc + 3 = q) (hu : aj_cu own idx Cn owner x y) (cd : aj_cd y bytes maxL ret 1) (ha : a % 16 < 7 ∧ aj_R (a % 16) = Cn) (haL : a ∈ L) (hr : r1 < r2) (hm : maxL ≤ 13) (hst : (st.map fun v => v.category).sum ≤ 8) (hbc : bc = c1 + bc') (hbs : bs = s1 + bs') (hF' : ∀ i ∈ F', i ∈ gF G) (hno : ∀ i ∈ F', aj_no i lv st) (hM : aj_M (gl G) y (aj_wc y bytes maxL ret) (aj_rm r1 c1 s1) F' (.ref a :: [p0]) I J V N L (aj_kont G pc q lv st bc' bs')) : aj_X G pc lv (p0 :: .ref a :: st) I J V N L bc bs := x_invU (As := [p0]) C k h hq hu cd ha haL rfl (aj_hr hr hm) hst hF' hno hbc hbs hM
theorem y_U2 {idx maxL r1 r2 c2 s2 c1 s1 bc' bs' : Nat} {y : MethodName} {bytes : ByteArray} {F' : List Nat} {p0 p1 : Value} {ret : Option FieldType} {a : Nat} {x : MethodName} {Cn owner : String} (C : aj_C G cc tbl own (aj_rm r2 c2 s2) nL) (k : Nat) (h : tbl[k]? = some (pc, .invokevirtual idx, 3)) (hq : pc + 3 = q) (hu : aj_cu own idx Cn owner x y) (cd : aj_cd y bytes maxL ret 2) (ha : a % 16 < 7 ∧ aj_R (a % 16) = Cn) (haL : a ∈ L) (hr : r1 < r2) (hm : maxL ≤ 13) (hst : (st.map fun v => v.category).sum ≤ 8) (hbc : bc = c1 + bc') (hbs : bs = s1 + bs') (hF' : ∀ i ∈ F', i ∈ gF G) (hno : ∀ i ∈ F', aj_no i lv st) (hM : aj_M (gl G) y (aj_wc y bytes maxL ret) (aj_rm r1 c1 s1) F' (.ref a :: [p0, p1]) I J V N L (aj_kont G pc q lv st bc' bs')) : aj_X G pc lv (p1 :: p0 :: .ref a :: st) I J V N L bc bs := x_invU (As := [p0, p1]) C k h hq hu cd ha haL rfl (aj_hr hr hm) hst hF' hno hbc hbs hM
theorem y_O0 {idx maxL r1 r2 c2 s2 c1 s1 bc' bs' : Nat} {y : MethodName} {bytes : ByteArray} {F' : List Nat} {ret : Option FieldType} {a : Nat} {x : MethodName} {Cn owner : String} {b0 : ByteArray} {m0 : Nat} {r0 : Option FieldType} (C : aj_C G cc tbl own (aj_rm r2 c2 s2) nL) (k : Nat) (h : tbl[k]? = some (pc, .invokevirtual idx, 3)) (hq : pc + 3 = q) (hu : aj_co own idx Cn owner x y b0 m0 r0) (hd : (parseMethodDescriptor x.desc).map (fun d => d.parameters.length) = some 0) (cd : aj_cd y bytes maxL ret 0) (ha : a % 16 < 7 ∧ aj_R (a % 16) = Cn) (haL : a ∈ L) (hr : r1 < r2) (hm : maxL ≤ 13) (hst : (st.map fun v => v.category).sum ≤ 8) (hbc : bc = c1 + bc') (hbs : bs = s1 + bs') (hF' : ∀ i ∈ F', i ∈ gF G) (hno : ∀ i ∈ F', aj_no i lv st) (hM : aj_M (gl G) y (aj_wc y bytes maxL ret) (aj_rm r1 c1 s1) F' (.ref a :: []) I J V N L (aj_kont G pc q lv st bc' bs')) : aj_X G pc lv (.ref a :: st) I J V N L bc bs := x_invO (As := []) C k h hq hu hd cd ha haL rfl (aj_hr hr hm) hst hF' hno hbc hbs hM
theorem y_P0 {idx maxL r1 r2 c2 s2 c1 s1 bc' bs' : Nat} {y : MethodName} {bytes : ByteArray} {F' : List Nat} {ret : Option FieldType} {a : Nat} (C : aj_C G cc tbl own (aj_rm r2 c2 s2) nL) (k : Nat) (h : tbl[k]? = some (pc, .invokespecial idx, 3)) (hq : pc + 3 = q) (hu : aj_su own idx y) (cd : aj_cd y bytes maxL ret 0) (ha : a % 16 < 7 ∧ aj_R (a % 16) = own) (haL : a ∈ L) (hr : r1 < r2) (hm : maxL ≤ 13) (hst : (st.map fun v => v.category).sum ≤ 8) (hbc : bc = c1 + bc') (hbs : bs = s1 + bs') (hF' : ∀ i ∈ F', i ∈ gF G) (hno : ∀ i ∈ F', aj_no i lv st) (hM : aj_M (gl G) y (aj_wc y bytes maxL ret) (aj_rm r1 c1 s1) F' (.ref a :: []) I J V N L (aj_kont G pc q lv st bc' bs')) : aj_X G pc lv (.ref a :: st) I J V N L bc bs := x_invSu (As := []) C k h hq hu cd ha haL rfl (aj_hr hr hm) hst hF' hno hbc hbs hM
theorem y_P1 {idx maxL r1 r2 c2 s2 c1 s1 bc' bs' : Nat} {y : MethodName} {bytes : ByteArray} {F' : List Nat} {p0 : Value} {ret : Option FieldType} {a : Nat} (C : aj_C G cc tbl own (aj_rm r2 c2 s2) nL) (k : Nat) (h : tbl[k]? = some (pc, .invokespecial idx, 3)) (hq : pc + 3 = q) (hu : aj_su own idx y) (cd : aj_cd y bytes maxL ret 1) (ha : a % 16 < 7 ∧ aj_R (a % 16) = own) (haL : a ∈ L) (hr : r1 < r2) (hm : maxL ≤ 13) (hst : (st.map fun v => v.category).sum ≤ 8) (hbc : bc = c1 + bc') (hbs : bs = s1 + bs') (hF' : ∀ i ∈ F', i ∈ gF G) (hno : ∀ i ∈ F', aj_no i lv st) (hM : aj_M (gl G) y (aj_wc y bytes maxL ret) (aj_rm r1 c1 s1) F' (.ref a :: [p0]) I J V N L (aj_kont G pc q lv st bc' bs')) : aj_X G pc lv (p0 :: .ref a :: st) I J V N L bc bs := x_invSu (As := [p0]) C k h hq hu cd ha haL rfl (aj_hr hr hm) hst hF' hno hbc hbs hM
theorem y_K0 {idx maxL r1 r2 c2 s2 c1 s1 bc' bs' : Nat} {y : MethodName} {bytes : ByteArray} {F' : List Nat} {ret : Option FieldType} {i : Nat} (C : aj_C G cc tbl own (aj_rm r2 c2 s2) nL) (k : Nat) (h : tbl[k]? = some (pc, .invokevirtual idx, 3)) (hq : pc + 3 = q) (hl : Cond.methodLink own idx y ∈ aj_TB) (cd : aj_cd y bytes maxL ret 0) (cv : aj_cv y) (hy : y.cls = "java/lang/String") (hi : i < 2) (hr : r1 < r2) (hm : maxL ≤ 13) (hst : (st.map fun v => v.category).sum ≤ 8) (hbc : bc = c1 + bc') (hbs : bs = s1 + bs') (hF' : ∀ i ∈ F', i ∈ gF G) (hno : ∀ i ∈ F', aj_no i lv st) (hM : aj_M (gl G) y (aj_wc y bytes maxL ret) (aj_rm r1 c1 s1) F' (.ref (28 + 16 * i) :: []) I J V N L (aj_kont G pc q lv st bc' bs')) : aj_X G pc lv (.ref (28 + 16 * i) :: st) I J V N L bc bs := x_invK (As := []) C k h hq hl cd cv hy hi rfl (aj_hr hr hm) hst hF' hno hbc hbs hM
theorem y_K3 {idx maxL r1 r2 c2 s2 c1 s1 bc' bs' : Nat} {y : MethodName} {bytes : ByteArray} {F' : List Nat} {p0 p1 p2 : Value} {ret : Option FieldType} {i : Nat} (C : aj_C G cc tbl own (aj_rm r2 c2 s2) nL) (k : Nat) (h : tbl[k]? = some (pc, .invokevirtual idx, 3)) (hq : pc + 3 = q) (hl : Cond.methodLink own idx y ∈ aj_TB) (cd : aj_cd y bytes maxL ret 3) (cv : aj_cv y) (hy : y.cls = "java/lang/String") (hi : i < 2) (hr : r1 < r2) (hm : maxL ≤ 13) (hst : (st.map fun v => v.category).sum ≤ 8) (hbc : bc = c1 + bc') (hbs : bs = s1 + bs') (hF' : ∀ i ∈ F', i ∈ gF G) (hno : ∀ i ∈ F', aj_no i lv st) (hM : aj_M (gl G) y (aj_wc y bytes maxL ret) (aj_rm r1 c1 s1) F' (.ref (28 + 16 * i) :: [p0, p1, p2]) I J V N L (aj_kont G pc q lv st bc' bs')) : aj_X G pc lv (p2 :: p1 :: p0 :: .ref (28 + 16 * i) :: st) I J V N L bc bs := x_invK (As := [p0, p1, p2]) C k h hq hl cd cv hy hi rfl (aj_hr hr hm) hst hF' hno hbc hbs hM
theorem y_G0 {idx maxL r1 r2 c2 s2 c1 s1 bc' bs' : Nat} {y : MethodName} {bytes : ByteArray} {F' : List Nat} {ret : Option FieldType} {a : Nat} (C : aj_C G cc tbl own (aj_rm r2 c2 s2) nL) (k : Nat) (h : tbl[k]? = some (pc, .invokevirtual idx, 3)) (hq : pc + 3 = q) (hl : Cond.methodLink own idx y ∈ aj_TB) (cd : aj_cd y bytes maxL ret 0) (cv : aj_cv y) (ha : a % 16 < 7 ∧ aj_R (a % 16) = y.cls) (haL : a ∈ L) (hr : r1 < r2) (hm : maxL ≤ 13) (hst : (st.map fun v => v.category).sum ≤ 8) (hbc : bc = c1 + bc') (hbs : bs = s1 + bs') (hF' : ∀ i ∈ F', i ∈ gF G) (hno : ∀ i ∈ F', aj_no i lv st) (hM : aj_M (gl G) y (aj_wc y bytes maxL ret) (aj_rm r1 c1 s1) F' (.ref a :: []) I J V N L (aj_kont G pc q lv st bc' bs')) : aj_X G pc lv (.ref a :: st) I J V N L bc bs := x_invV (As := []) C k h hq hl cd cv ha haL rfl (aj_hr hr hm) hst hF' hno hbc hbs hM
theorem y_G1 {idx maxL r1 r2 c2 s2 c1 s1 bc' bs' : Nat} {y : MethodName} {bytes : ByteArray} {F' : List Nat} {p0 : Value} {ret : Option FieldType} {a : Nat} (C : aj_C G cc tbl own (aj_rm r2 c2 s2) nL) (k : Nat) (h : tbl[k]? = some (pc, .invokevirtual idx, 3)) (hq : pc + 3 = q) (hl : Cond.methodLink own idx y ∈ aj_TB) (cd : aj_cd y bytes maxL ret 1) (cv : aj_cv y) (ha : a % 16 < 7 ∧ aj_R (a % 16) = y.cls) (haL : a ∈ L) (hr : r1 < r2) (hm : maxL ≤ 13) (hst : (st.map fun v => v.category).sum ≤ 8) (hbc : bc = c1 + bc') (hbs : bs = s1 + bs') (hF' : ∀ i ∈ F', i ∈ gF G) (hno : ∀ i ∈ F', aj_no i lv st) (hM : aj_M (gl G) y (aj_wc y bytes maxL ret) (aj_rm r1 c1 s1) F' (.ref a :: [p0]) I J V N L (aj_kont G pc q lv st bc' bs')) : aj_X G pc lv (p0 :: .ref a :: st) I J V N L bc bs := x_invV (As := [p0]) C k h hq hl cd cv ha haL rfl (aj_hr hr hm) hst hF' hno hbc hbs hM
theorem y_I0 {idx maxL r1 r2 c2 s2 c1 s1 bc' bs' : Nat} {y : MethodName} {bytes : ByteArray} {F' : List Nat} {a : Nat} (C : aj_C G cc tbl own (aj_rm r2 c2 s2) nL) (k : Nat) (h : tbl[k]? = some (pc, .invokespecial idx, 3)) (hq : pc + 3 = q) (hl : Cond.methodLink own idx y ∈ aj_TB) (cd : aj_cd y bytes maxL none 0) (cv : Cond.instanceMethod y ∈ aj_TB) (hy : y.name = "<init>") (ha : True) (hr : r1 < r2) (hm : maxL ≤ 13) (hst : (st.map fun v => v.category).sum ≤ 8) (hbc : bc = c1 + bc') (hbs : bs = s1 + bs') (hF' : ∀ i ∈ F', i ∈ gF G) (hno : ∀ i ∈ F', aj_no i lv st) (hM : aj_M (gl G) y (aj_wc y bytes maxL none) (aj_rm r1 c1 s1) F' (.ref a :: []) I J V N L (aj_kont G pc q lv st bc' bs')) : aj_X G pc lv (.ref a :: st) I J V N L bc bs := x_invI (As := []) C k h hq hl cd cv hy rfl (aj_hr hr hm) hst hF' hno hbc hbs hM
theorem y_I1 {idx maxL r1 r2 c2 s2 c1 s1 bc' bs' : Nat} {y : MethodName} {bytes : ByteArray} {F' : List Nat} {p0 : Value} {a : Nat} (C : aj_C G cc tbl own (aj_rm r2 c2 s2) nL) (k : Nat) (h : tbl[k]? = some (pc, .invokespecial idx, 3)) (hq : pc + 3 = q) (hl : Cond.methodLink own idx y ∈ aj_TB) (cd : aj_cd y bytes maxL none 1) (cv : Cond.instanceMethod y ∈ aj_TB) (hy : y.name = "<init>") (ha : True) (hr : r1 < r2) (hm : maxL ≤ 13) (hst : (st.map fun v => v.category).sum ≤ 8) (hbc : bc = c1 + bc') (hbs : bs = s1 + bs') (hF' : ∀ i ∈ F', i ∈ gF G) (hno : ∀ i ∈ F', aj_no i lv st) (hM : aj_M (gl G) y (aj_wc y bytes maxL none) (aj_rm r1 c1 s1) F' (.ref a :: [p0]) I J V N L (aj_kont G pc q lv st bc' bs')) : aj_X G pc lv (p0 :: .ref a :: st) I J V N L bc bs := x_invI (As := [p0]) C k h hq hl cd cv hy rfl (aj_hr hr hm) hst hF' hno hbc hbs hM
theorem y_I2 {idx maxL r1 r2 c2 s2 c1 s1 bc' bs' : Nat} {y : MethodName} {bytes : ByteArray} {F' : List Nat} {p0 p1 : Value} {a : Nat} (C : aj_C G cc tbl own (aj_rm r2 c2 s2) nL) (k : Nat) (h : tbl[k]? = some (pc, .invokespecial idx, 3)) (hq : pc + 3 = q) (hl : Cond.methodLink own idx y ∈ aj_TB) (cd : aj_cd y bytes maxL none 2) (cv : Cond.instanceMethod y ∈ aj_TB) (hy : y.name = "<init>") (ha : True) (hr : r1 < r2) (hm : maxL ≤ 13) (hst : (st.map fun v => v.category).sum ≤ 8) (hbc : bc = c1 + bc') (hbs : bs = s1 + bs') (hF' : ∀ i ∈ F', i ∈ gF G) (hno : ∀ i ∈ F', aj_no i lv st) (hM : aj_M (gl G) y (aj_wc y bytes maxL none) (aj_rm r1 c1 s1) F' (.ref a :: [p0, p1]) I J V N L (aj_kont G pc q lv st bc' bs')) : aj_X G pc lv (p1 :: p0 :: .ref a :: st) I J V N L bc bs := x_invI (As := [p0, p1]) C k h hq hl cd cv hy rfl (aj_hr hr hm) hst hF' hno hbc hbs hM
theorem y_T1 {idx maxL r1 r2 c2 s2 c1 s1 bc' bs' : Nat} {y : MethodName} {bytes : ByteArray} {F' : List Nat} {p0 : Value} {ret : Option FieldType} (C : aj_C G cc tbl own (aj_rm r2 c2 s2) nL) (k : Nat) (h : tbl[k]? = some (pc, .invokestatic idx, 3)) (hq : pc + 3 = q) (hl : Cond.methodLink own idx y ∈ aj_TB) (cd : aj_cd y bytes maxL ret 1) (cv : Cond.static y ∈ aj_TB) (hr : r1 < r2) (hm : maxL ≤ 13) (hst : (st.map fun v => v.category).sum ≤ 8) (hbc : bc = c1 + bc') (hbs : bs = s1 + bs') (hF' : ∀ i ∈ F', i ∈ gF G) (hno : ∀ i ∈ F', aj_no i lv st) (hM : aj_M (gl G) y (aj_wc y bytes maxL ret) (aj_rm r1 c1 s1) F' [p0] I J V N L (aj_kont G pc q lv st bc' bs')) : aj_X G pc lv (p0 :: st) I J V N L bc bs := x_invS (As := [p0]) C k h hq hl cd cv rfl (aj_hr hr hm) hst hF' hno hbc hbs hM
theorem y_T2 {idx maxL r1 r2 c2 s2 c1 s1 bc' bs' : Nat} {y : MethodName} {bytes : ByteArray} {F' : List Nat} {p0 p1 : Value} {ret : Option FieldType} (C : aj_C G cc tbl own (aj_rm r2 c2 s2) nL) (k : Nat) (h : tbl[k]? = some (pc, .invokestatic idx, 3)) (hq : pc + 3 = q) (hl : Cond.methodLink own idx y ∈ aj_TB) (cd : aj_cd y bytes maxL ret 2) (cv : Cond.static y ∈ aj_TB) (hr : r1 < r2) (hm : maxL ≤ 13) (hst : (st.map fun v => v.category).sum ≤ 8) (hbc : bc = c1 + bc') (hbs : bs = s1 + bs') (hF' : ∀ i ∈ F', i ∈ gF G) (hno : ∀ i ∈ F', aj_no i lv st) (hM : aj_M (gl G) y (aj_wc y bytes maxL ret) (aj_rm r1 c1 s1) F' [p0, p1] I J V N L (aj_kont G pc q lv st bc' bs')) : aj_X G pc lv (p1 :: p0 :: st) I J V N L bc bs := x_invS (As := [p0, p1]) C k h hq hl cd cv rfl (aj_hr hr hm) hst hF' hno hbc hbs hM
theorem y_T3 {idx maxL r1 r2 c2 s2 c1 s1 bc' bs' : Nat} {y : MethodName} {bytes : ByteArray} {F' : List Nat} {p0 p1 p2 : Value} {ret : Option FieldType} (C : aj_C G cc tbl own (aj_rm r2 c2 s2) nL) (k : Nat) (h : tbl[k]? = some (pc, .invokestatic idx, 3)) (hq : pc + 3 = q) (hl : Cond.methodLink own idx y ∈ aj_TB) (cd : aj_cd y bytes maxL ret 3) (cv : Cond.static y ∈ aj_TB) (hr : r1 < r2) (hm : maxL ≤ 13) (hst : (st.map fun v => v.category).sum ≤ 8) (hbc : bc = c1 + bc') (hbs : bs = s1 + bs') (hF' : ∀ i ∈ F', i ∈ gF G) (hno : ∀ i ∈ F', aj_no i lv st) (hM : aj_M (gl G) y (aj_wc y bytes maxL ret) (aj_rm r1 c1 s1) F' [p0, p1, p2] I J V N L (aj_kont G pc q lv st bc' bs')) : aj_X G pc lv (p2 :: p1 :: p0 :: st) I J V N L bc bs := x_invS (As := [p0, p1, p2]) C k h hq hl cd cv rfl (aj_hr hr hm) hst hF' hno hbc hbs hM

end AJT
end
section
def t_X3_init : List (Nat × Instr × Nat) := [(0, .aload_n 0, 1), (1, .invokespecial 1, 3), (4, .aload_n 0, 1), (5, .bipush 8, 2), (7, .anewarray 9, 3), (10, .putfield 11, 3), (13, .aload_n 0, 1), (14, .bipush 8, 2), (16, .anewarray 9, 3), (19, .putfield 15, 3), (22, .aload_n 0, 1), (23, .bipush 8, 2), (25, .newarray .long, 2), (27, .putfield 18, 3), (30, .aload_n 0, 1), (31, .new 9, 3), (34, .dup, 1), (35, .invokespecial 22, 3), (38, .putfield 23, 3), (41, .aload_n 0, 1), (42, .new 9, 3), (45, .dup, 1), (46, .invokespecial 22, 3), (49, .putfield 27, 3), (52, .aload_n 0, 1), (53, .new 30, 3), (56, .dup, 1), (57, .invokespecial 32, 3), (60, .putfield 33, 3), (63, .iconst 0, 1), (64, .istore_n 1, 1), (65, .iload_n 1, 1), (66, .bipush 8, 2), (68, .if_icmp .ge 22, 3), (71, .aload_n 0, 1), (72, .getfield 11, 3), (75, .iload_n 1, 1), (76, .new 9, 3), (79, .dup, 1), (80, .invokespecial 22, 3), (83, .aastore, 1), (84, .iinc 1 1, 3), (87, .goto (-22), 3), (90, .return_, 1)]
set_option maxRecDepth 100000 in
theorem T_X3_init : ∀ e ∈ t_X3_init, decode cX3_init e.1 = .ok e.2 := by decide +kernel
def t_X3_put : List (Nat × Instr × Nat) := [(0, .iload_n 1, 1), (1, .invokestatic 37, 3), (4, .iload_n 2, 1), (5, .bipush (-127), 2), (7, .bipush 127, 2), (9, .invokestatic 41, 3), (12, .iload_n 3, 1), (13, .bipush (-127), 2), (15, .bipush 127, 2), (17, .invokestatic 41, 3), (20, .iload 4, 2), (22, .iconst 0, 1), (23, .iconst 3, 1), (24, .invokestatic 41, 3), (27, .aload_n 0, 1), (28, .getfield 23, 3), (31, .iload_n 2, 1), (32, .iload_n 3, 1), (33, .iload 4, 2), (35, .invokevirtual 45, 3), (38, .aload_n 0, 1), (39, .iload_n 1, 1), (40, .invokevirtual 48, 3), (43, .ireturn, 1)]
set_option maxRecDepth 100000 in
theorem T_X3_put : ∀ e ∈ t_X3_put, decode cX3_put e.1 = .ok e.2 := by decide +kernel
def t_X3_make : List (Nat × Instr × Nat) := [(0, .iload_n 1, 1), (1, .invokestatic 37, 3), (4, .iload_n 2, 1), (5, .iconst 0, 1), (6, .iconst 5, 1), (7, .invokestatic 41, 3), (10, .aload_n 0, 1), (11, .getfield 23, 3), (14, .aload_n 0, 1), (15, .getfield 11, 3), (18, .iload_n 1, 1), (19, .aaload, 1), (20, .iload_n 2, 1), (21, .invokevirtual 52, 3), (24, .aload_n 0, 1), (25, .iload_n 1, 1), (26, .invokevirtual 48, 3), (29, .ireturn, 1)]
set_option maxRecDepth 100000 in
theorem T_X3_make : ∀ e ∈ t_X3_make, decode cX3_make e.1 = .ok e.2 := by decide +kernel
def t_X3_stretch : List (Nat × Instr × Nat) := [(0, .iload_n 1, 1), (1, .invokestatic 37, 3), (4, .iload_n 2, 1), (5, .iconst 1, 1), (6, .bipush 127, 2), (8, .invokestatic 41, 3), (11, .aload_n 0, 1), (12, .getfield 11, 3), (15, .iload_n 1, 1), (16, .aaload, 1), (17, .astore_n 3, 1), (18, .aload_n 0, 1), (19, .iload_n 1, 1), (20, .aload_n 3, 1), (21, .getfield 56, 3), (24, .iload_n 2, 1), (25, .imul, 1), (26, .aload_n 3, 1), (27, .getfield 60, 3), (30, .iload_n 2, 1), (31, .imul, 1), (32, .aload_n 3, 1), (33, .getfield 63, 3), (36, .invokevirtual 66, 3), (39, .ireturn, 1)]
set_option maxRecDepth 100000 in
theorem T_X3_stretch : ∀ e ∈ t_X3_stretch, decode cX3_stretch e.1 = .ok e.2 := by decide +kernel
def t_X3_addSteps : List (Nat × Instr × Nat) := [(0, .iload_n 1, 1), (1, .invokestatic 37, 3), (4, .iload_n 2, 1), (5, .invokestatic 37, 3), (8, .iload_n 3, 1), (9, .invokestatic 37, 3), (12, .aload_n 0, 1), (13, .getfield 11, 3), (16, .iload_n 1, 1), (17, .aaload, 1), (18, .astore 4, 2), (20, .aload_n 0, 1), (21, .getfield 11, 3), (24, .iload_n 2, 1), (25, .aaload, 1), (26, .astore 5, 2), (28, .aload_n 0, 1), (29, .iload_n 3, 1), (30, .aload 4, 2), (32, .getfield 56, 3), (35, .aload 5, 2), (37, .getfield 56, 3), (40, .iadd, 1), (41, .aload 4, 2), (43, .getfield 60, 3), (46, .aload 5, 2), (48, .getfield 60, 3), (51, .iadd, 1), (52, .aload 4, 2), (54, .getfield 63, 3), (57, .aload 5, 2), (59, .getfield 63, 3), (62, .iand, 1), (63, .invokevirtual 66, 3), (66, .ireturn, 1)]
set_option maxRecDepth 100000 in
theorem T_X3_addSteps : ∀ e ∈ t_X3_addSteps, decode cX3_addSteps e.1 = .ok e.2 := by decide +kernel
def t_X3_takeStep : List (Nat × Instr × Nat) := [(0, .iload_n 1, 1), (1, .invokestatic 37, 3), (4, .aload_n 0, 1), (5, .iload_n 2, 1), (6, .invokevirtual 70, 3), (9, .aload_n 0, 1), (10, .iload_n 3, 1), (11, .invokevirtual 70, 3), (14, .aload_n 0, 1), (15, .getfield 33, 3), (18, .aload_n 0, 1), (19, .getfield 23, 3), (22, .iload_n 2, 1), (23, .iload_n 3, 1), (24, .invokevirtual 73, 3), (27, .aload_n 0, 1), (28, .iload_n 1, 1), (29, .invokevirtual 48, 3), (32, .ireturn, 1)]
set_option maxRecDepth 100000 in
theorem T_X3_takeStep : ∀ e ∈ t_X3_takeStep, decode cX3_takeStep e.1 = .ok e.2 := by decide +kernel
def t_X3_sortSteps : List (Nat × Instr × Nat) := [(0, .iconst 0, 1), (1, .istore_n 2, 1), (2, .iload_n 2, 1), (3, .bipush 8, 2), (5, .if_icmp .ge 21, 3), (8, .aload_n 0, 1), (9, .getfield 15, 3), (12, .iload_n 2, 1), (13, .aload_n 0, 1), (14, .getfield 11, 3), (17, .iload_n 2, 1), (18, .aaload, 1), (19, .aastore, 1), (20, .iinc 2 1, 3), (23, .goto (-21), 3), (26, .iconst 1, 1), (27, .istore_n 2, 1), (28, .iload_n 2, 1), (29, .bipush 8, 2), (31, .if_icmp .ge 15, 3), (34, .aload_n 0, 1), (35, .iload_n 2, 1), (36, .iload_n 1, 1), (37, .invokevirtual 77, 3), (40, .iinc 2 1, 3), (43, .goto (-15), 3), (46, .iconst 0, 1), (47, .istore_n 2, 1), (48, .iconst 0, 1), (49, .istore_n 3, 1), (50, .iload_n 3, 1), (51, .bipush 8, 2), (53, .if_icmp .ge 30, 3), (56, .aload_n 0, 1), (57, .getfield 11, 3), (60, .iload_n 3, 1), (61, .aaload, 1), (62, .aload_n 0, 1), (63, .getfield 15, 3), (66, .iload_n 3, 1), (67, .aaload, 1), (68, .invokevirtual 81, 3), (71, .ifCond .ne 6, 3), (74, .iinc 2 1, 3), (77, .iinc 3 1, 3), (80, .goto (-30), 3), (83, .aload_n 0, 1), (84, .dup, 1), (85, .getfield 85, 3), (88, .iconst 1, 1), (89, .iadd, 1), (90, .putfield 85, 3), (93, .iload_n 2, 1), (94, .ireturn, 1)]
set_option maxRecDepth 100000 in
theorem T_X3_sortSteps : ∀ e ∈ t_X3_sortSteps, decode cX3_sortSteps e.1 = .ok e.2 := by decide +kernel
def t_X3_sinkIntoSorted : List (Nat × Instr × Nat) := [(0, .aload_n 0, 1), (1, .getfield 11, 3), (4, .iload_n 1, 1), (5, .aaload, 1), (6, .astore_n 3, 1), (7, .iload_n 2, 1), (8, .ifCond .eq 7, 3), (11, .iconst 1, 1), (12, .goto 4, 3), (15, .iconst (-1), 1), (16, .istore 4, 2), (18, .iload_n 1, 1), (19, .istore 5, 2), (21, .iload 5, 2), (23, .ifCond .le 43, 3), (26, .aload_n 3, 1), (27, .aload_n 0, 1), (28, .getfield 11, 3), (31, .iload 5, 2), (33, .iconst 1, 1), (34, .isub, 1), (35, .aaload, 1), (36, .invokevirtual 88, 3), (39, .iload 4, 2), (41, .if_icmp .ne 25, 3), (44, .aload_n 0, 1), (45, .getfield 11, 3), (48, .iload 5, 2), (50, .aload_n 0, 1), (51, .getfield 11, 3), (54, .iload 5, 2), (56, .iconst 1, 1), (57, .isub, 1), (58, .aaload, 1), (59, .aastore, 1), (60, .iinc 5 (-1), 3), (63, .goto (-42), 3), (66, .aload_n 0, 1), (67, .getfield 11, 3), (70, .iload 5, 2), (72, .aload_n 3, 1), (73, .aastore, 1), (74, .return_, 1)]
set_option maxRecDepth 100000 in
theorem T_X3_sinkIntoSorted : ∀ e ∈ t_X3_sinkIntoSorted, decode cX3_sinkIntoSorted e.1 = .ok e.2 := by decide +kernel
def t_X3_comeOrRefuse : List (Nat × Instr × Nat) := [(0, .iload_n 2, 1), (1, .invokestatic 92, 3), (4, .ifCond .eq 10, 3), (7, .iload_n 3, 1), (8, .invokestatic 92, 3), (11, .ifCond .ne 8, 3), (14, .aload_n 0, 1), (15, .invokevirtual 96, 3), (18, .ireturn, 1), (19, .aload_n 0, 1), (20, .getfield 23, 3), (23, .iload_n 2, 1), (24, .iload_n 3, 1), (25, .iload 4, 2), (27, .invokevirtual 45, 3), (30, .aload_n 0, 1), (31, .iload_n 1, 1), (32, .invokevirtual 48, 3), (35, .ireturn, 1)]
set_option maxRecDepth 100000 in
theorem T_X3_comeOrRefuse : ∀ e ∈ t_X3_comeOrRefuse, decode cX3_comeOrRefuse e.1 = .ok e.2 := by decide +kernel
def t_X3_comeTo : List (Nat × Instr × Nat) := [(0, .aload_n 0, 1), (1, .getfield 23, 3), (4, .aload_n 0, 1), (5, .getfield 11, 3), (8, .iload_n 1, 1), (9, .aaload, 1), (10, .invokevirtual 88, 3), (13, .istore_n 2, 1), (14, .aload_n 0, 1), (15, .getfield 11, 3), (18, .iload_n 1, 1), (19, .aaload, 1), (20, .aload_n 0, 1), (21, .getfield 23, 3), (24, .getfield 56, 3), (27, .aload_n 0, 1), (28, .getfield 23, 3), (31, .getfield 60, 3), (34, .aload_n 0, 1), (35, .getfield 23, 3), (38, .getfield 63, 3), (41, .invokevirtual 45, 3), (44, .aload_n 0, 1), (45, .dup, 1), (46, .getfield 85, 3), (49, .iconst 1, 1), (50, .iadd, 1), (51, .putfield 85, 3), (54, .iload_n 2, 1), (55, .ireturn, 1)]
set_option maxRecDepth 100000 in
theorem T_X3_comeTo : ∀ e ∈ t_X3_comeTo, decode cX3_comeTo e.1 = .ok e.2 := by decide +kernel
def t_X3_refuse : List (Nat × Instr × Nat) := [(0, .aload_n 0, 1), (1, .dup, 1), (2, .getfield 100, 3), (5, .iconst 1, 1), (6, .iadd, 1), (7, .putfield 100, 3), (10, .bipush (-9), 2), (12, .ireturn, 1)]
set_option maxRecDepth 100000 in
theorem T_X3_refuse : ∀ e ∈ t_X3_refuse, decode cX3_refuse e.1 = .ok e.2 := by decide +kernel
def t_X3_across : List (Nat × Instr × Nat) := [(0, .iload_n 1, 1), (1, .invokestatic 37, 3), (4, .aload_n 0, 1), (5, .getfield 11, 3), (8, .iload_n 1, 1), (9, .aaload, 1), (10, .getfield 56, 3), (13, .ireturn, 1)]
set_option maxRecDepth 100000 in
theorem T_X3_across : ∀ e ∈ t_X3_across, decode cX3_across e.1 = .ok e.2 := by decide +kernel
def t_X3_up : List (Nat × Instr × Nat) := [(0, .iload_n 1, 1), (1, .invokestatic 37, 3), (4, .aload_n 0, 1), (5, .getfield 11, 3), (8, .iload_n 1, 1), (9, .aaload, 1), (10, .getfield 60, 3), (13, .ireturn, 1)]
set_option maxRecDepth 100000 in
theorem T_X3_up : ∀ e ∈ t_X3_up, decode cX3_up e.1 = .ok e.2 := by decide +kernel
def t_X3_signs : List (Nat × Instr × Nat) := [(0, .iload_n 1, 1), (1, .invokestatic 37, 3), (4, .aload_n 0, 1), (5, .getfield 11, 3), (8, .iload_n 1, 1), (9, .aaload, 1), (10, .getfield 63, 3), (13, .ireturn, 1)]
set_option maxRecDepth 100000 in
theorem T_X3_signs : ∀ e ∈ t_X3_signs, decode cX3_signs e.1 = .ok e.2 := by decide +kernel
def t_X3_upper : List (Nat × Instr × Nat) := [(0, .iload_n 1, 1), (1, .invokestatic 37, 3), (4, .aload_n 0, 1), (5, .getfield 11, 3), (8, .iload_n 1, 1), (9, .aaload, 1), (10, .aload_n 0, 1), (11, .getfield 11, 3), (14, .iload_n 1, 1), (15, .aaload, 1), (16, .invokevirtual 103, 3), (19, .invokevirtual 107, 3), (22, .ireturn, 1)]
set_option maxRecDepth 100000 in
theorem T_X3_upper : ∀ e ∈ t_X3_upper, decode cX3_upper e.1 = .ok e.2 := by decide +kernel
def t_X3_lower : List (Nat × Instr × Nat) := [(0, .iload_n 1, 1), (1, .invokestatic 37, 3), (4, .aload_n 0, 1), (5, .getfield 11, 3), (8, .iload_n 1, 1), (9, .aaload, 1), (10, .invokevirtual 111, 3), (13, .ifCond .eq 15, 3), (16, .aload_n 0, 1), (17, .getfield 11, 3), (20, .iload_n 1, 1), (21, .aaload, 1), (22, .invokevirtual 115, 3), (25, .goto 5, 3), (28, .bipush (-9), 2), (30, .ireturn, 1)]
set_option maxRecDepth 100000 in
theorem T_X3_lower : ∀ e ∈ t_X3_lower, decode cX3_lower e.1 = .ok e.2 := by decide +kernel
def t_X3_grade : List (Nat × Instr × Nat) := [(0, .iload_n 1, 1), (1, .invokestatic 37, 3), (4, .iload_n 2, 1), (5, .iconst 0, 1), (6, .bipush 29, 2), (8, .invokestatic 41, 3), (11, .aload_n 0, 1), (12, .getfield 11, 3), (15, .iload_n 1, 1), (16, .aaload, 1), (17, .invokevirtual 103, 3), (20, .iload_n 2, 1), (21, .invokestatic 118, 3), (24, .ireturn, 1)]
set_option maxRecDepth 100000 in
theorem T_X3_grade : ∀ e ∈ t_X3_grade, decode cX3_grade e.1 = .ok e.2 := by decide +kernel
def t_X3_order : List (Nat × Instr × Nat) := [(0, .iload_n 1, 1), (1, .invokestatic 37, 3), (4, .iload_n 2, 1), (5, .invokestatic 37, 3), (8, .iload_n 3, 1), (9, .iconst 0, 1), (10, .iconst 2, 1), (11, .invokestatic 41, 3), (14, .aload_n 0, 1), (15, .getfield 11, 3), (18, .iload_n 1, 1), (19, .aaload, 1), (20, .aload_n 0, 1), (21, .getfield 11, 3), (24, .iload_n 2, 1), (25, .aaload, 1), (26, .invokevirtual 88, 3), (29, .ireturn, 1)]
set_option maxRecDepth 100000 in
theorem T_X3_order : ∀ e ∈ t_X3_order, decode cX3_order e.1 = .ok e.2 := by decide +kernel
def t_X3_like : List (Nat × Instr × Nat) := [(0, .iload_n 1, 1), (1, .invokestatic 37, 3), (4, .iload_n 2, 1), (5, .invokestatic 37, 3), (8, .aload_n 0, 1), (9, .getfield 11, 3), (12, .iload_n 1, 1), (13, .aaload, 1), (14, .aload_n 0, 1), (15, .getfield 11, 3), (18, .iload_n 2, 1), (19, .aaload, 1), (20, .invokevirtual 88, 3), (23, .ifCond .eq 27, 3), (26, .aload_n 0, 1), (27, .getfield 11, 3), (30, .iload_n 1, 1), (31, .aaload, 1), (32, .invokevirtual 124, 3), (35, .ifCond .eq 19, 3), (38, .aload_n 0, 1), (39, .getfield 11, 3), (42, .iload_n 2, 1), (43, .aaload, 1), (44, .invokevirtual 124, 3), (47, .ifCond .eq 7, 3), (50, .iconst 1, 1), (51, .goto 4, 3), (54, .iconst 0, 1), (55, .ireturn, 1)]
set_option maxRecDepth 100000 in
theorem T_X3_like : ∀ e ∈ t_X3_like, decode cX3_like e.1 = .ok e.2 := by decide +kernel
def t_X3_same : List (Nat × Instr × Nat) := [(0, .iload_n 1, 1), (1, .invokestatic 37, 3), (4, .iload_n 2, 1), (5, .invokestatic 37, 3), (8, .iload_n 3, 1), (9, .iconst 0, 1), (10, .iconst 1, 1), (11, .invokestatic 41, 3), (14, .aload_n 0, 1), (15, .getfield 11, 3), (18, .iload_n 1, 1), (19, .aaload, 1), (20, .aload_n 0, 1), (21, .getfield 11, 3), (24, .iload_n 2, 1), (25, .aaload, 1), (26, .invokevirtual 88, 3), (29, .ifCond .ne 7, 3), (32, .iconst 1, 1), (33, .goto 4, 3), (36, .iconst 0, 1), (37, .ireturn, 1)]
set_option maxRecDepth 100000 in
theorem T_X3_same : ∀ e ∈ t_X3_same, decode cX3_same e.1 = .ok e.2 := by decide +kernel
def t_X3_side : List (Nat × Instr × Nat) := [(0, .iload_n 1, 1), (1, .invokestatic 37, 3), (4, .iload_n 2, 1), (5, .invokestatic 37, 3), (8, .aload_n 0, 1), (9, .getfield 11, 3), (12, .iload_n 1, 1), (13, .aaload, 1), (14, .invokevirtual 127, 3), (17, .ifCond .ne 15, 3), (20, .aload_n 0, 1), (21, .getfield 11, 3), (24, .iload_n 2, 1), (25, .aaload, 1), (26, .invokevirtual 127, 3), (29, .ifCond .eq 8, 3), (32, .bipush (-9), 2), (34, .goto 18, 3), (37, .aload_n 0, 1), (38, .getfield 11, 3), (41, .iload_n 1, 1), (42, .aaload, 1), (43, .aload_n 0, 1), (44, .getfield 11, 3), (47, .iload_n 2, 1), (48, .aaload, 1), (49, .invokevirtual 130, 3), (52, .ireturn, 1)]
set_option maxRecDepth 100000 in
theorem T_X3_side : ∀ e ∈ t_X3_side, decode cX3_side e.1 = .ok e.2 := by decide +kernel
def t_X3_eighth : List (Nat × Instr × Nat) := [(0, .iload_n 1, 1), (1, .invokestatic 37, 3), (4, .iconst 0, 1), (5, .istore_n 2, 1), (6, .iconst 0, 1), (7, .istore_n 3, 1), (8, .iload_n 3, 1), (9, .iconst 1, 1), (10, .iadd, 1), (11, .getstatic 133, 3), (14, .arraylength, 1), (15, .if_icmp .ge 49, 3), (18, .aload_n 0, 1), (19, .getfield 27, 3), (22, .getstatic 133, 3), (25, .iload_n 3, 1), (26, .iaload, 1), (27, .getstatic 133, 3), (30, .iload_n 3, 1), (31, .iconst 1, 1), (32, .iadd, 1), (33, .iaload, 1), (34, .iconst 0, 1), (35, .invokevirtual 45, 3), (38, .aload_n 0, 1), (39, .getfield 11, 3), (42, .iload_n 1, 1), (43, .aaload, 1), (44, .aload_n 0, 1), (45, .getfield 27, 3), (48, .invokevirtual 88, 3), (51, .iconst (-1), 1), (52, .if_icmp .eq 6, 3), (55, .iinc 2 1, 3), (58, .iinc 3 2, 3), (61, .goto (-53), 3), (64, .iload_n 2, 1), (65, .ireturn, 1)]
set_option maxRecDepth 100000 in
theorem T_X3_eighth : ∀ e ∈ t_X3_eighth, decode cX3_eighth e.1 = .ok e.2 := by decide +kernel
def t_X3_rule : List (Nat × Instr × Nat) := [(0, .iload_n 1, 1), (1, .invokestatic 37, 3), (4, .iload_n 2, 1), (5, .iconst 0, 1), (6, .bipush 7, 2), (8, .invokestatic 41, 3), (11, .iload_n 2, 1), (12, .iconst 2, 1), (13, .if_icmp .lt 12, 3), (16, .iload_n 2, 1), (17, .iconst 5, 1), (18, .if_icmp .gt 7, 3), (21, .iconst 1, 1), (22, .goto 4, 3), (25, .iconst 0, 1), (26, .istore_n 3, 1), (27, .iload_n 3, 1), (28, .ifCond .eq 20, 3), (31, .aload_n 0, 1), (32, .getfield 11, 3), (35, .iload_n 1, 1), (36, .aaload, 1), (37, .invokevirtual 127, 3), (40, .ifCond .eq 8, 3), (43, .bipush (-9), 2), (45, .goto 4, 3), (48, .iconst 1, 1), (49, .ireturn, 1)]
set_option maxRecDepth 100000 in
theorem T_X3_rule : ∀ e ∈ t_X3_rule, decode cX3_rule e.1 = .ok e.2 := by decide +kernel
def t_X3_find : List (Nat × Instr × Nat) := [(0, .iload_n 1, 1), (1, .invokestatic 37, 3), (4, .iconst 0, 1), (5, .istore_n 3, 1), (6, .iload_n 3, 1), (7, .bipush 8, 2), (9, .if_icmp .ge 45, 3), (12, .iload_n 2, 1), (13, .ifCond .eq 10, 3), (16, .bipush 7, 2), (18, .iload_n 3, 1), (19, .isub, 1), (20, .goto 4, 3), (23, .iload_n 3, 1), (24, .istore 4, 2), (26, .aload_n 0, 1), (27, .getfield 11, 3), (30, .iload 4, 2), (32, .aaload, 1), (33, .aload_n 0, 1), (34, .getfield 11, 3), (37, .iload_n 1, 1), (38, .aaload, 1), (39, .invokevirtual 88, 3), (42, .ifCond .ne 6, 3), (45, .iload 4, 2), (47, .ireturn, 1), (48, .iinc 3 1, 3), (51, .goto (-45), 3), (54, .iload_n 1, 1), (55, .ireturn, 1)]
set_option maxRecDepth 100000 in
theorem T_X3_find : ∀ e ∈ t_X3_find, decode cX3_find e.1 = .ok e.2 := by decide +kernel
def t_X3_addPlace : List (Nat × Instr × Nat) := [(0, .iload_n 1, 1), (1, .iload_n 2, 1), (2, .invokestatic 137, 3), (5, .aload_n 0, 1), (6, .getfield 33, 3), (9, .getfield 141, 3), (12, .bipush 12, 2), (14, .if_icmp .eq 15, 3), (17, .aload_n 0, 1), (18, .getfield 33, 3), (21, .iload_n 1, 1), (22, .iload_n 2, 1), (23, .invokevirtual 144, 3), (26, .ifCond .lt 8, 3), (29, .aload_n 0, 1), (30, .invokevirtual 96, 3), (33, .ireturn, 1), (34, .aload_n 0, 1), (35, .dup, 1), (36, .getfield 148, 3), (39, .iconst 1, 1), (40, .iadd, 1), (41, .putfield 148, 3), (44, .aload_n 0, 1), (45, .getfield 33, 3), (48, .iload_n 1, 1), (49, .iload_n 2, 1), (50, .invokevirtual 151, 3), (53, .ireturn, 1)]
set_option maxRecDepth 100000 in
theorem T_X3_addPlace : ∀ e ∈ t_X3_addPlace, decode cX3_addPlace e.1 = .ok e.2 := by decide +kernel
def t_X3_removePlace : List (Nat × Instr × Nat) := [(0, .aload_n 0, 1), (1, .iload_n 1, 1), (2, .invokevirtual 70, 3), (5, .aload_n 0, 1), (6, .getfield 33, 3), (9, .iload_n 1, 1), (10, .invokevirtual 154, 3), (13, .aload_n 0, 1), (14, .dup, 1), (15, .getfield 148, 3), (18, .iconst 1, 1), (19, .iadd, 1), (20, .putfield 148, 3), (23, .aload_n 0, 1), (24, .getfield 33, 3), (27, .getfield 141, 3), (30, .ireturn, 1)]
set_option maxRecDepth 100000 in
theorem T_X3_removePlace : ∀ e ∈ t_X3_removePlace, decode cX3_removePlace e.1 = .ok e.2 := by decide +kernel
def t_X3_movePlace : List (Nat × Instr × Nat) := [(0, .aload_n 0, 1), (1, .iload_n 1, 1), (2, .invokevirtual 70, 3), (5, .iload_n 2, 1), (6, .iload_n 3, 1), (7, .invokestatic 137, 3), (10, .aload_n 0, 1), (11, .getfield 33, 3), (14, .iload_n 2, 1), (15, .iload_n 3, 1), (16, .invokevirtual 144, 3), (19, .istore 4, 2), (21, .iload 4, 2), (23, .ifCond .lt 14, 3), (26, .iload 4, 2), (28, .iload_n 1, 1), (29, .if_icmp .eq 8, 3), (32, .aload_n 0, 1), (33, .invokevirtual 96, 3), (36, .ireturn, 1), (37, .aload_n 0, 1), (38, .dup, 1), (39, .getfield 148, 3), (42, .iconst 1, 1), (43, .iadd, 1), (44, .putfield 148, 3), (47, .aload_n 0, 1), (48, .getfield 33, 3), (51, .iload_n 1, 1), (52, .iload_n 2, 1), (53, .iload_n 3, 1), (54, .invokevirtual 157, 3), (57, .ifCond .eq 7, 3), (60, .iconst 1, 1), (61, .goto 4, 3), (64, .iconst 0, 1), (65, .ireturn, 1)]
set_option maxRecDepth 100000 in
theorem T_X3_movePlace : ∀ e ∈ t_X3_movePlace, decode cX3_movePlace e.1 = .ok e.2 := by decide +kernel
def t_X3_centre : List (Nat × Instr × Nat) := [(0, .iload_n 1, 1), (1, .iload_n 2, 1), (2, .invokestatic 137, 3), (5, .aload_n 0, 1), (6, .dup, 1), (7, .getfield 148, 3), (10, .iconst 1, 1), (11, .iadd, 1), (12, .putfield 148, 3), (15, .aload_n 0, 1), (16, .getfield 33, 3), (19, .bipush 12, 2), (21, .iload_n 1, 1), (22, .iload_n 2, 1), (23, .invokevirtual 157, 3), (26, .ifCond .eq 7, 3), (29, .iconst 1, 1), (30, .goto 4, 3), (33, .iconst 0, 1), (34, .ireturn, 1)]
set_option maxRecDepth 100000 in
theorem T_X3_centre : ∀ e ∈ t_X3_centre, decode cX3_centre e.1 = .ok e.2 := by decide +kernel
def t_X3_turnPlaces : List (Nat × Instr × Nat) := [(0, .aload_n 0, 1), (1, .getfield 33, 3), (4, .invokevirtual 161, 3), (7, .aload_n 0, 1), (8, .dup, 1), (9, .getfield 148, 3), (12, .iconst 1, 1), (13, .iadd, 1), (14, .putfield 148, 3), (17, .aload_n 0, 1), (18, .getfield 33, 3), (21, .invokevirtual 164, 3), (24, .ireturn, 1)]
set_option maxRecDepth 100000 in
theorem T_X3_turnPlaces : ∀ e ∈ t_X3_turnPlaces, decode cX3_turnPlaces e.1 = .ok e.2 := by decide +kernel
def t_X3_mirrorPlaces : List (Nat × Instr × Nat) := [(0, .aload_n 0, 1), (1, .getfield 33, 3), (4, .invokevirtual 167, 3), (7, .aload_n 0, 1), (8, .dup, 1), (9, .getfield 148, 3), (12, .iconst 1, 1), (13, .iadd, 1), (14, .putfield 148, 3), (17, .aload_n 0, 1), (18, .getfield 33, 3), (21, .invokevirtual 164, 3), (24, .ireturn, 1)]
set_option maxRecDepth 100000 in
theorem T_X3_mirrorPlaces : ∀ e ∈ t_X3_mirrorPlaces, decode cX3_mirrorPlaces e.1 = .ok e.2 := by decide +kernel
def t_X3_places : List (Nat × Instr × Nat) := [(0, .aload_n 0, 1), (1, .getfield 33, 3), (4, .getfield 141, 3), (7, .ireturn, 1)]
set_option maxRecDepth 100000 in
theorem T_X3_places : ∀ e ∈ t_X3_places, decode cX3_places e.1 = .ok e.2 := by decide +kernel
def t_X3_place : List (Nat × Instr × Nat) := [(0, .aload_n 0, 1), (1, .iload_n 1, 1), (2, .invokevirtual 70, 3), (5, .iload_n 2, 1), (6, .ifCond .eq 15, 3), (9, .aload_n 0, 1), (10, .getfield 33, 3), (13, .getfield 170, 3), (16, .iload_n 1, 1), (17, .iaload, 1), (18, .goto 12, 3), (21, .aload_n 0, 1), (22, .getfield 33, 3), (25, .getfield 173, 3), (28, .iload_n 1, 1), (29, .iaload, 1), (30, .ireturn, 1)]
set_option maxRecDepth 100000 in
theorem T_X3_place : ∀ e ∈ t_X3_place, decode cX3_place e.1 = .ok e.2 := by decide +kernel
def t_X3_centreAt : List (Nat × Instr × Nat) := [(0, .iload_n 1, 1), (1, .ifCond .eq 16, 3), (4, .aload_n 0, 1), (5, .getfield 33, 3), (8, .getfield 170, 3), (11, .bipush 12, 2), (13, .iaload, 1), (14, .goto 13, 3), (17, .aload_n 0, 1), (18, .getfield 33, 3), (21, .getfield 173, 3), (24, .bipush 12, 2), (26, .iaload, 1), (27, .ireturn, 1)]
set_option maxRecDepth 100000 in
theorem T_X3_centreAt : ∀ e ∈ t_X3_centreAt, decode cX3_centreAt e.1 = .ok e.2 := by decide +kernel
def t_X3_bearing : List (Nat × Instr × Nat) := [(0, .aload_n 0, 1), (1, .iload_n 1, 1), (2, .invokevirtual 70, 3), (5, .aload_n 0, 1), (6, .iload_n 2, 1), (7, .invokevirtual 70, 3), (10, .iload_n 3, 1), (11, .iconst 0, 1), (12, .bipush 29, 2), (14, .invokestatic 41, 3), (17, .iload_n 1, 1), (18, .iload_n 2, 1), (19, .if_icmp .ne 6, 3), (22, .bipush (-9), 2), (24, .ireturn, 1), (25, .aload_n 0, 1), (26, .getfield 33, 3), (29, .aload_n 0, 1), (30, .getfield 27, 3), (33, .iload_n 1, 1), (34, .iload_n 2, 1), (35, .invokevirtual 73, 3), (38, .aload_n 0, 1), (39, .getfield 27, 3), (42, .invokevirtual 103, 3), (45, .iload_n 3, 1), (46, .invokestatic 118, 3), (49, .ireturn, 1)]
set_option maxRecDepth 100000 in
theorem T_X3_bearing : ∀ e ∈ t_X3_bearing, decode cX3_bearing e.1 = .ok e.2 := by decide +kernel
def t_X3_bearingOrder : List (Nat × Instr × Nat) := [(0, .aload_n 0, 1), (1, .iload_n 1, 1), (2, .invokevirtual 70, 3), (5, .aload_n 0, 1), (6, .iload_n 2, 1), (7, .invokevirtual 70, 3), (10, .aload_n 0, 1), (11, .iload_n 3, 1), (12, .invokevirtual 70, 3), (15, .iload_n 2, 1), (16, .iload_n 1, 1), (17, .if_icmp .eq 8, 3), (20, .iload_n 3, 1), (21, .iload_n 1, 1), (22, .if_icmp .ne 6, 3), (25, .bipush (-9), 2), (27, .ireturn, 1), (28, .aload_n 0, 1), (29, .getfield 33, 3), (32, .iload_n 1, 1), (33, .iload_n 2, 1), (34, .iload_n 3, 1), (35, .invokevirtual 176, 3), (38, .ireturn, 1)]
set_option maxRecDepth 100000 in
theorem T_X3_bearingOrder : ∀ e ∈ t_X3_bearingOrder, decode cX3_bearingOrder e.1 = .ok e.2 := by decide +kernel
def t_X3_left : List (Nat × Instr × Nat) := [(0, .aload_n 0, 1), (1, .iload_n 1, 1), (2, .invokevirtual 70, 3), (5, .aload_n 0, 1), (6, .iload_n 2, 1), (7, .invokevirtual 70, 3), (10, .aload_n 0, 1), (11, .iload_n 3, 1), (12, .invokevirtual 70, 3), (15, .iload_n 2, 1), (16, .iload_n 1, 1), (17, .if_icmp .eq 8, 3), (20, .iload_n 3, 1), (21, .iload_n 1, 1), (22, .if_icmp .ne 6, 3), (25, .bipush (-9), 2), (27, .ireturn, 1), (28, .aload_n 0, 1), (29, .getfield 33, 3), (32, .iload_n 1, 1), (33, .iload_n 2, 1), (34, .iload_n 3, 1), (35, .invokevirtual 180, 3), (38, .i2l, 1), (39, .invokestatic 183, 3), (42, .ireturn, 1)]
set_option maxRecDepth 100000 in
theorem T_X3_left : ∀ e ∈ t_X3_left, decode cX3_left e.1 = .ok e.2 := by decide +kernel
def t_X3_roundCount : List (Nat × Instr × Nat) := [(0, .aload_n 0, 1), (1, .getfield 33, 3), (4, .getfield 186, 3), (7, .ireturn, 1)]
set_option maxRecDepth 100000 in
theorem T_X3_roundCount : ∀ e ∈ t_X3_roundCount, decode cX3_roundCount e.1 = .ok e.2 := by decide +kernel
def t_X3_roundText : List (Nat × Instr × Nat) := [(0, .aload_n 0, 1), (1, .getfield 33, 3), (4, .getfield 189, 3), (7, .aload_n 0, 1), (8, .getfield 33, 3), (11, .getfield 186, 3), (14, .invokestatic 192, 3), (17, .areturn, 1)]
set_option maxRecDepth 100000 in
theorem T_X3_roundText : ∀ e ∈ t_X3_roundText, decode cX3_roundText e.1 = .ok e.2 := by decide +kernel
def t_X3_isStar : List (Nat × Instr × Nat) := [(0, .aload_n 0, 1), (1, .getfield 33, 3), (4, .invokevirtual 196, 3), (7, .ireturn, 1)]
set_option maxRecDepth 100000 in
theorem T_X3_isStar : ∀ e ∈ t_X3_isStar, decode cX3_isStar e.1 = .ok e.2 := by decide +kernel
def t_X3_starArea : List (Nat × Instr × Nat) := [(0, .aload_n 0, 1), (1, .getfield 33, 3), (4, .invokevirtual 199, 3), (7, .ireturn, 1)]
set_option maxRecDepth 100000 in
theorem T_X3_starArea : ∀ e ∈ t_X3_starArea, decode cX3_starArea e.1 = .ok e.2 := by decide +kernel
def t_X3_hullCount : List (Nat × Instr × Nat) := [(0, .aload_n 0, 1), (1, .getfield 33, 3), (4, .getfield 202, 3), (7, .ireturn, 1)]
set_option maxRecDepth 100000 in
theorem T_X3_hullCount : ∀ e ∈ t_X3_hullCount, decode cX3_hullCount e.1 = .ok e.2 := by decide +kernel
def t_X3_hullText : List (Nat × Instr × Nat) := [(0, .aload_n 0, 1), (1, .getfield 33, 3), (4, .getfield 205, 3), (7, .aload_n 0, 1), (8, .getfield 33, 3), (11, .getfield 202, 3), (14, .invokestatic 192, 3), (17, .areturn, 1)]
set_option maxRecDepth 100000 in
theorem T_X3_hullText : ∀ e ∈ t_X3_hullText, decode cX3_hullText e.1 = .ok e.2 := by decide +kernel
def t_X3_hullArea : List (Nat × Instr × Nat) := [(0, .aload_n 0, 1), (1, .getfield 33, 3), (4, .invokevirtual 164, 3), (7, .ireturn, 1)]
set_option maxRecDepth 100000 in
theorem T_X3_hullArea : ∀ e ∈ t_X3_hullArea, decode cX3_hullArea e.1 = .ok e.2 := by decide +kernel
def t_X3_rounds : List (Nat × Instr × Nat) := [(0, .aload_n 0, 1), (1, .getfield 33, 3), (4, .invokevirtual 208, 3), (7, .ifCond .eq 8, 3), (10, .bipush (-9), 2), (12, .goto 10, 3), (15, .aload_n 0, 1), (16, .getfield 33, 3), (19, .invokevirtual 211, 3), (22, .ireturn, 1)]
set_option maxRecDepth 100000 in
theorem T_X3_rounds : ∀ e ∈ t_X3_rounds, decode cX3_rounds e.1 = .ok e.2 := by decide +kernel
def t_X3_textOf : List (Nat × Instr × Nat) := [(0, .new 214, 3), (3, .dup, 1), (4, .invokespecial 216, 3), (7, .astore_n 2, 1), (8, .iconst 0, 1), (9, .istore_n 3, 1), (10, .iload_n 3, 1), (11, .iload_n 1, 1), (12, .if_icmp .ge 28, 3), (15, .iload_n 3, 1), (16, .ifCond .le 10, 3), (19, .aload_n 2, 1), (20, .bipush 32, 2), (22, .invokevirtual 217, 3), (25, .pop, 1), (26, .aload_n 2, 1), (27, .aload_n 0, 1), (28, .iload_n 3, 1), (29, .iaload, 1), (30, .invokevirtual 221, 3), (33, .pop, 1), (34, .iinc 3 1, 3), (37, .goto (-27), 3), (40, .aload_n 2, 1), (41, .invokevirtual 224, 3), (44, .areturn, 1)]
set_option maxRecDepth 100000 in
theorem T_X3_textOf : ∀ e ∈ t_X3_textOf, decode cX3_textOf e.1 = .ok e.2 := by decide +kernel
def t_X3_house : List (Nat × Instr × Nat) := [(0, .iload_n 1, 1), (1, .iconst 0, 1), (2, .iconst 3, 1), (3, .invokestatic 41, 3), (6, .iload_n 1, 1), (7, .tableswitch 40 0 2 #[25, 30, 35], 25), (32, .aload_n 0, 1), (33, .getfield 85, 3), (36, .ireturn, 1), (37, .aload_n 0, 1), (38, .getfield 148, 3), (41, .ireturn, 1), (42, .aload_n 0, 1), (43, .getfield 100, 3), (46, .ireturn, 1), (47, .aload_n 0, 1), (48, .getfield 228, 3), (51, .ireturn, 1)]
set_option maxRecDepth 100000 in
theorem T_X3_house : ∀ e ∈ t_X3_house, decode cX3_house e.1 = .ok e.2 := by decide +kernel
def t_X3_knock : List (Nat × Instr × Nat) := [(0, .aload_n 0, 1), (1, .dup, 1), (2, .getfield 228, 3), (5, .iconst 1, 1), (6, .iadd, 1), (7, .putfield 228, 3), (10, .aload_n 0, 1), (11, .getfield 228, 3), (14, .ireturn, 1)]
set_option maxRecDepth 100000 in
theorem T_X3_knock : ∀ e ∈ t_X3_knock, decode cX3_knock e.1 = .ok e.2 := by decide +kernel
def t_X3_isSound : List (Nat × Instr × Nat) := [(0, .aload_n 0, 1), (1, .invokevirtual 231, 3), (4, .ifCond .eq 37, 3), (7, .aload_n 0, 1), (8, .getfield 33, 3), (11, .invokevirtual 234, 3), (14, .ifCond .eq 27, 3), (17, .aload_n 0, 1), (18, .getfield 33, 3), (21, .invokevirtual 237, 3), (24, .ifCond .eq 17, 3), (27, .aload_n 0, 1), (28, .getfield 33, 3), (31, .invokevirtual 240, 3), (34, .ifCond .eq 7, 3), (37, .iconst 1, 1), (38, .goto 4, 3), (41, .iconst 0, 1), (42, .ireturn, 1)]
set_option maxRecDepth 100000 in
theorem T_X3_isSound : ∀ e ∈ t_X3_isSound, decode cX3_isSound e.1 = .ok e.2 := by decide +kernel
def t_X3_areAnglesSound : List (Nat × Instr × Nat) := [(0, .iconst 0, 1), (1, .istore_n 1, 1), (2, .iload_n 1, 1), (3, .bipush 8, 2), (5, .if_icmp .ge 24, 3), (8, .aload_n 0, 1), (9, .getfield 18, 3), (12, .iload_n 1, 1), (13, .aload_n 0, 1), (14, .getfield 11, 3), (17, .iload_n 1, 1), (18, .aaload, 1), (19, .invokevirtual 103, 3), (22, .lastore, 1), (23, .iinc 1 1, 3), (26, .goto (-24), 3), (29, .iconst 0, 1), (30, .istore_n 1, 1), (31, .iload_n 1, 1), (32, .bipush 8, 2), (34, .if_icmp .ge 36, 3), (37, .iload_n 1, 1), (38, .iconst 1, 1), (39, .iadd, 1), (40, .istore_n 2, 1), (41, .iload_n 2, 1), (42, .bipush 8, 2), (44, .if_icmp .ge 20, 3), (47, .aload_n 0, 1), (48, .iload_n 1, 1), (49, .iload_n 2, 1), (50, .invokevirtual 243, 3), (53, .ifCond .ne 5, 3), (56, .iconst 0, 1), (57, .ireturn, 1), (58, .iinc 2 1, 3), (61, .goto (-20), 3), (64, .iinc 1 1, 3), (67, .goto (-36), 3), (70, .iconst 1, 1), (71, .ireturn, 1)]
set_option maxRecDepth 100000 in
theorem T_X3_areAnglesSound : ∀ e ∈ t_X3_areAnglesSound, decode cX3_areAnglesSound e.1 = .ok e.2 := by decide +kernel
def t_X3_isPairSound : List (Nat × Instr × Nat) := [(0, .aload_n 0, 1), (1, .getfield 11, 3), (4, .iload_n 1, 1), (5, .aaload, 1), (6, .astore_n 3, 1), (7, .aload_n 0, 1), (8, .getfield 11, 3), (11, .iload_n 2, 1), (12, .aaload, 1), (13, .astore 4, 2), (15, .aload_n 3, 1), (16, .aload_n 0, 1), (17, .getfield 18, 3), (20, .iload_n 1, 1), (21, .laload, 1), (22, .invokevirtual 107, 3), (25, .aload 4, 2), (27, .aload_n 0, 1), (28, .getfield 18, 3), (31, .iload_n 2, 1), (32, .laload, 1), (33, .invokevirtual 107, 3), (36, .invokestatic 247, 3), (39, .istore 5, 2), (41, .iload 5, 2), (43, .aload_n 3, 1), (44, .aload 4, 2), (46, .invokevirtual 88, 3), (49, .if_icmp .eq 5, 3), (52, .iconst 0, 1), (53, .ireturn, 1), (54, .aload_n 3, 1), (55, .invokevirtual 127, 3), (58, .ifCond .ne 35, 3), (61, .aload 4, 2), (63, .invokevirtual 127, 3), (66, .ifCond .ne 27, 3), (69, .aload_n 0, 1), (70, .getfield 18, 3), (73, .iload_n 1, 1), (74, .laload, 1), (75, .aload_n 0, 1), (76, .getfield 18, 3), (79, .iload_n 2, 1), (80, .laload, 1), (81, .invokestatic 250, 3), (84, .aload_n 3, 1), (85, .aload 4, 2), (87, .invokevirtual 130, 3), (90, .if_icmp .ne 7, 3), (93, .iconst 1, 1), (94, .goto 4, 3), (97, .iconst 0, 1), (98, .ireturn, 1)]
set_option maxRecDepth 100000 in
theorem T_X3_isPairSound : ∀ e ∈ t_X3_isPairSound, decode cX3_isPairSound e.1 = .ok e.2 := by decide +kernel
def t_X3_digest : List (Nat × Instr × Nat) := [(0, .ldc2_w 254, 3), (3, .lstore_n 1, 1), (4, .iconst 0, 1), (5, .istore_n 3, 1), (6, .iload_n 3, 1), (7, .bipush 8, 2), (9, .if_icmp .ge 16, 3), (12, .aload_n 0, 1), (13, .lload_n 1, 1), (14, .iload_n 3, 1), (15, .invokevirtual 256, 3), (18, .lstore_n 1, 1), (19, .iinc 3 1, 3), (22, .goto (-16), 3), (25, .iconst 0, 1), (26, .istore_n 3, 1), (27, .iload_n 3, 1), (28, .bipush 8, 2), (30, .if_icmp .ge 74, 3), (33, .iload_n 3, 1), (34, .iconst 1, 1), (35, .iadd, 1), (36, .istore 4, 2), (38, .iload 4, 2), (40, .bipush 8, 2), (42, .if_icmp .ge 56, 3), (45, .lload_n 1, 1), (46, .aload_n 0, 1), (47, .iload_n 3, 1), (48, .iload 4, 2), (50, .iconst 0, 1), (51, .invokevirtual 260, 3), (54, .i2l, 1), (55, .invokestatic 263, 3), (58, .lstore_n 1, 1), (59, .lload_n 1, 1), (60, .aload_n 0, 1), (61, .iload_n 3, 1), (62, .iload 4, 2), (64, .invokevirtual 267, 3), (67, .ifCond .eq 7, 3), (70, .lconst 1, 1), (71, .goto 4, 3), (74, .lconst 0, 1), (75, .invokestatic 263, 3), (78, .lstore_n 1, 1), (79, .lload_n 1, 1), (80, .aload_n 0, 1), (81, .iload_n 3, 1), (82, .iload 4, 2), (84, .invokevirtual 270, 3), (87, .i2l, 1), (88, .invokestatic 263, 3), (91, .lstore_n 1, 1), (92, .iinc 4 1, 3), (95, .goto (-57), 3), (98, .iinc 3 1, 3), (101, .goto (-74), 3), (104, .aload_n 0, 1), (105, .lload_n 1, 1), (106, .invokevirtual 273, 3), (109, .lstore_n 1, 1), (110, .iconst 0, 1), (111, .istore_n 3, 1), (112, .iload_n 3, 1), (113, .iconst 3, 1), (114, .if_icmp .gt 20, 3), (117, .lload_n 1, 1), (118, .aload_n 0, 1), (119, .iload_n 3, 1), (120, .invokevirtual 277, 3), (123, .i2l, 1), (124, .invokestatic 263, 3), (127, .lstore_n 1, 1), (128, .iinc 3 1, 3), (131, .goto (-19), 3), (134, .lload_n 1, 1), (135, .aload_n 0, 1), (136, .invokevirtual 280, 3), (139, .ifCond .eq 7, 3), (142, .lconst 1, 1), (143, .goto 4, 3), (146, .lconst 0, 1), (147, .invokestatic 263, 3), (150, .lreturn, 1)]
set_option maxRecDepth 100000 in
theorem T_X3_digest : ∀ e ∈ t_X3_digest, decode cX3_digest e.1 = .ok e.2 := by decide +kernel
def t_X3_withCell : List (Nat × Instr × Nat) := [(0, .lload_n 1, 1), (1, .aload_n 0, 1), (2, .iload_n 3, 1), (3, .invokevirtual 283, 3), (6, .i2l, 1), (7, .invokestatic 263, 3), (10, .lstore 4, 2), (12, .lload 4, 2), (14, .aload_n 0, 1), (15, .iload_n 3, 1), (16, .invokevirtual 285, 3), (19, .i2l, 1), (20, .invokestatic 263, 3), (23, .lstore 4, 2), (25, .lload 4, 2), (27, .aload_n 0, 1), (28, .iload_n 3, 1), (29, .invokevirtual 287, 3), (32, .i2l, 1), (33, .invokestatic 263, 3), (36, .lstore 4, 2), (38, .lload 4, 2), (40, .aload_n 0, 1), (41, .iload_n 3, 1), (42, .invokevirtual 289, 3), (45, .i2l, 1), (46, .invokestatic 263, 3), (49, .lstore 4, 2), (51, .lload 4, 2), (53, .aload_n 0, 1), (54, .iload_n 3, 1), (55, .invokevirtual 292, 3), (58, .i2l, 1), (59, .invokestatic 263, 3), (62, .lstore 4, 2), (64, .lload 4, 2), (66, .aload_n 0, 1), (67, .iload_n 3, 1), (68, .bipush 29, 2), (70, .invokevirtual 295, 3), (73, .i2l, 1), (74, .invokestatic 263, 3), (77, .lstore 4, 2), (79, .lload 4, 2), (81, .aload_n 0, 1), (82, .iload_n 3, 1), (83, .invokevirtual 298, 3), (86, .i2l, 1), (87, .invokestatic 263, 3), (90, .lstore 4, 2), (92, .lload 4, 2), (94, .aload_n 0, 1), (95, .iload_n 3, 1), (96, .iconst 0, 1), (97, .invokevirtual 301, 3), (100, .i2l, 1), (101, .invokestatic 263, 3), (104, .lreturn, 1)]
set_option maxRecDepth 100000 in
theorem T_X3_withCell : ∀ e ∈ t_X3_withCell, decode cX3_withCell e.1 = .ok e.2 := by decide +kernel
def t_X3_withField : List (Nat × Instr × Nat) := [(0, .lload_n 1, 1), (1, .aload_n 0, 1), (2, .getfield 33, 3), (5, .getfield 141, 3), (8, .i2l, 1), (9, .invokestatic 263, 3), (12, .lstore_n 3, 1), (13, .iconst 0, 1), (14, .istore 5, 2), (16, .iload 5, 2), (18, .aload_n 0, 1), (19, .getfield 33, 3), (22, .getfield 141, 3), (25, .if_icmp .ge 41, 3), (28, .lload_n 3, 1), (29, .aload_n 0, 1), (30, .getfield 33, 3), (33, .getfield 173, 3), (36, .iload 5, 2), (38, .iaload, 1), (39, .i2l, 1), (40, .invokestatic 263, 3), (43, .lstore_n 3, 1), (44, .lload_n 3, 1), (45, .aload_n 0, 1), (46, .getfield 33, 3), (49, .getfield 170, 3), (52, .iload 5, 2), (54, .iaload, 1), (55, .i2l, 1), (56, .invokestatic 263, 3), (59, .lstore_n 3, 1), (60, .iinc 5 1, 3), (63, .goto (-47), 3), (66, .lload_n 3, 1), (67, .aload_n 0, 1), (68, .iconst 0, 1), (69, .invokevirtual 305, 3), (72, .i2l, 1), (73, .invokestatic 263, 3), (76, .lstore_n 3, 1), (77, .lload_n 3, 1), (78, .aload_n 0, 1), (79, .iconst 1, 1), (80, .invokevirtual 305, 3), (83, .i2l, 1), (84, .invokestatic 263, 3), (87, .lstore_n 3, 1), (88, .lload_n 3, 1), (89, .aload_n 0, 1), (90, .getfield 33, 3), (93, .getfield 189, 3), (96, .aload_n 0, 1), (97, .getfield 33, 3), (100, .getfield 186, 3), (103, .invokestatic 309, 3), (106, .lstore_n 3, 1), (107, .lload_n 3, 1), (108, .aload_n 0, 1), (109, .invokevirtual 313, 3), (112, .ifCond .eq 7, 3), (115, .lconst 1, 1), (116, .goto 4, 3), (119, .lconst 0, 1), (120, .invokestatic 263, 3), (123, .lstore_n 3, 1), (124, .lload_n 3, 1), (125, .aload_n 0, 1), (126, .invokevirtual 316, 3), (129, .i2l, 1), (130, .invokestatic 263, 3), (133, .lstore_n 3, 1), (134, .lload_n 3, 1), (135, .aload_n 0, 1), (136, .getfield 33, 3), (139, .getfield 205, 3), (142, .aload_n 0, 1), (143, .getfield 33, 3), (146, .getfield 202, 3), (149, .invokestatic 309, 3), (152, .lstore_n 3, 1), (153, .lload_n 3, 1), (154, .aload_n 0, 1), (155, .invokevirtual 319, 3), (158, .i2l, 1), (159, .invokestatic 263, 3), (162, .lstore_n 3, 1), (163, .lload_n 3, 1), (164, .aload_n 0, 1), (165, .invokevirtual 322, 3), (168, .i2l, 1), (169, .invokestatic 263, 3), (172, .lreturn, 1)]
set_option maxRecDepth 100000 in
theorem T_X3_withField : ∀ e ∈ t_X3_withField, decode cX3_withField e.1 = .ok e.2 := by decide +kernel
def t_X3_withRow : List (Nat × Instr × Nat) := [(0, .lload_n 0, 1), (1, .iload_n 3, 1), (2, .i2l, 1), (3, .invokestatic 263, 3), (6, .lstore 4, 2), (8, .iconst 0, 1), (9, .istore 6, 2), (11, .iload 6, 2), (13, .iload_n 3, 1), (14, .if_icmp .ge 21, 3), (17, .lload 4, 2), (19, .aload_n 2, 1), (20, .iload 6, 2), (22, .iaload, 1), (23, .i2l, 1), (24, .invokestatic 263, 3), (27, .lstore 4, 2), (29, .iinc 6 1, 3), (32, .goto (-21), 3), (35, .lload 4, 2), (37, .lreturn, 1)]
set_option maxRecDepth 100000 in
theorem T_X3_withRow : ∀ e ∈ t_X3_withRow, decode cX3_withRow e.1 = .ok e.2 := by decide +kernel
def t_X3_with : List (Nat × Instr × Nat) := [(0, .lload_n 0, 1), (1, .ldc2_w 325, 3), (4, .lmul, 1), (5, .lload_n 2, 1), (6, .ladd, 1), (7, .lreturn, 1)]
set_option maxRecDepth 100000 in
theorem T_X3_with : ∀ e ∈ t_X3_with, decode cX3_with e.1 = .ok e.2 := by decide +kernel
def t_X3_checkCell : List (Nat × Instr × Nat) := [(0, .iload_n 0, 1), (1, .ifCond .lt 9, 3), (4, .iload_n 0, 1), (5, .bipush 8, 2), (7, .if_icmp .lt 14, 3), (10, .new 327, 3), (13, .dup, 1), (14, .ldc_w 329, 3), (17, .invokespecial 331, 3), (20, .athrow, 1), (21, .return_, 1)]
set_option maxRecDepth 100000 in
theorem T_X3_checkCell : ∀ e ∈ t_X3_checkCell, decode cX3_checkCell e.1 = .ok e.2 := by decide +kernel
def t_X3_checkPlace : List (Nat × Instr × Nat) := [(0, .iload_n 1, 1), (1, .ifCond .lt 14, 3), (4, .iload_n 1, 1), (5, .aload_n 0, 1), (6, .getfield 33, 3), (9, .getfield 141, 3), (12, .if_icmp .lt 14, 3), (15, .new 327, 3), (18, .dup, 1), (19, .ldc_w 334, 3), (22, .invokespecial 331, 3), (25, .athrow, 1), (26, .return_, 1)]
set_option maxRecDepth 100000 in
theorem T_X3_checkPlace : ∀ e ∈ t_X3_checkPlace, decode cX3_checkPlace e.1 = .ok e.2 := by decide +kernel
def t_X3_checkSpot : List (Nat × Instr × Nat) := [(0, .iload_n 0, 1), (1, .bipush (-64), 2), (3, .bipush 63, 2), (5, .invokestatic 41, 3), (8, .iload_n 1, 1), (9, .bipush (-64), 2), (11, .bipush 63, 2), (13, .invokestatic 41, 3), (16, .return_, 1)]
set_option maxRecDepth 100000 in
theorem T_X3_checkSpot : ∀ e ∈ t_X3_checkSpot, decode cX3_checkSpot e.1 = .ok e.2 := by decide +kernel
def t_X3_checkBetween : List (Nat × Instr × Nat) := [(0, .iload_n 0, 1), (1, .iload_n 1, 1), (2, .if_icmp .lt 8, 3), (5, .iload_n 0, 1), (6, .iload_n 2, 1), (7, .if_icmp .le 14, 3), (10, .new 336, 3), (13, .dup, 1), (14, .ldc_w 338, 3), (17, .invokespecial 340, 3), (20, .athrow, 1), (21, .return_, 1)]
set_option maxRecDepth 100000 in
theorem T_X3_checkBetween : ∀ e ∈ t_X3_checkBetween, decode cX3_checkBetween e.1 = .ok e.2 := by decide +kernel
def t_X3_isCoordinate : List (Nat × Instr × Nat) := [(0, .iload_n 0, 1), (1, .bipush (-127), 2), (3, .if_icmp .lt 13, 3), (6, .iload_n 0, 1), (7, .bipush 127, 2), (9, .if_icmp .gt 7, 3), (12, .iconst 1, 1), (13, .goto 4, 3), (16, .iconst 0, 1), (17, .ireturn, 1)]
set_option maxRecDepth 100000 in
theorem T_X3_isCoordinate : ∀ e ∈ t_X3_isCoordinate, decode cX3_isCoordinate e.1 = .ok e.2 := by decide +kernel
def t_X3_signOf : List (Nat × Instr × Nat) := [(0, .lload_n 0, 1), (1, .lconst 0, 1), (2, .lcmp, 1), (3, .ifCond .le 7, 3), (6, .iconst 1, 1), (7, .goto 14, 3), (10, .lload_n 0, 1), (11, .lconst 0, 1), (12, .lcmp, 1), (13, .ifCond .ge 7, 3), (16, .iconst (-1), 1), (17, .goto 4, 3), (20, .iconst 0, 1), (21, .ireturn, 1)]
set_option maxRecDepth 100000 in
theorem T_X3_signOf : ∀ e ∈ t_X3_signOf, decode cX3_signOf e.1 = .ok e.2 := by decide +kernel
def t_X5_init : List (Nat × Instr × Nat) := [(0, .aload_n 0, 1), (1, .invokespecial 3, 3), (4, .aload_n 0, 1), (5, .bipush 8, 2), (7, .newarray .int, 2), (9, .putfield 9, 3), (12, .aload_n 0, 1), (13, .bipush 8, 2), (15, .newarray .int, 2), (17, .putfield 13, 3), (20, .aload_n 0, 1), (21, .bipush 8, 2), (23, .newarray .int, 2), (25, .putfield 16, 3), (28, .aload_n 0, 1), (29, .bipush 8, 2), (31, .newarray .long, 2), (33, .putfield 19, 3), (36, .aload_n 0, 1), (37, .bipush 12, 2), (39, .newarray .int, 2), (41, .putfield 23, 3), (44, .aload_n 0, 1), (45, .bipush 12, 2), (47, .newarray .int, 2), (49, .putfield 26, 3), (52, .aload_n 0, 1), (53, .iconst 4, 1), (54, .newarray .int, 2), (56, .putfield 29, 3), (59, .iconst 0, 1), (60, .istore_n 1, 1), (61, .iload_n 1, 1), (62, .bipush 8, 2), (64, .if_icmp .ge 16, 3), (67, .aload_n 0, 1), (68, .getfield 9, 3), (71, .iload_n 1, 1), (72, .iconst 1, 1), (73, .iastore, 1), (74, .iinc 1 1, 3), (77, .goto (-16), 3), (80, .return_, 1)]
set_option maxRecDepth 100000 in
theorem T_X5_init : ∀ e ∈ t_X5_init, decode cX5_init e.1 = .ok e.2 := by decide +kernel
def t_X5_refuse : List (Nat × Instr × Nat) := [(0, .iload_n 1, 1), (1, .ifCond .eq 15, 3), (4, .aload_n 0, 1), (5, .getfield 32, 3), (8, .ifCond .ne 8, 3), (11, .aload_n 0, 1), (12, .iload_n 2, 1), (13, .putfield 32, 3), (16, .aload_n 0, 1), (17, .getfield 32, 3), (20, .ifCond .le 7, 3), (23, .iconst 1, 1), (24, .goto 4, 3), (27, .iconst 0, 1), (28, .ireturn, 1)]
set_option maxRecDepth 100000 in
theorem T_X5_refuse : ∀ e ∈ t_X5_refuse, decode cX5_refuse e.1 = .ok e.2 := by decide +kernel
def t_X5_start : List (Nat × Instr × Nat) := [(0, .aload_n 0, 1), (1, .iconst 0, 1), (2, .putfield 32, 3), (5, .aload_n 0, 1), (6, .iload_n 1, 1), (7, .iload_n 2, 1), (8, .invokevirtual 36, 3), (11, .ireturn, 1)]
set_option maxRecDepth 100000 in
theorem T_X5_start : ∀ e ∈ t_X5_start, decode cX5_start e.1 = .ok e.2 := by decide +kernel
def t_X5_isIn : List (Nat × Instr × Nat) := [(0, .iload_n 0, 1), (1, .iload_n 1, 1), (2, .if_icmp .lt 12, 3), (5, .iload_n 0, 1), (6, .iload_n 2, 1), (7, .if_icmp .gt 7, 3), (10, .iconst 1, 1), (11, .goto 4, 3), (14, .iconst 0, 1), (15, .ireturn, 1)]
set_option maxRecDepth 100000 in
theorem T_X5_isIn : ∀ e ∈ t_X5_isIn, decode cX5_isIn e.1 = .ok e.2 := by decide +kernel
def t_X5_isNoCell : List (Nat × Instr × Nat) := [(0, .iload_n 0, 1), (1, .iconst 0, 1), (2, .bipush 7, 2), (4, .invokestatic 40, 3), (7, .ifCond .ne 7, 3), (10, .iconst 1, 1), (11, .goto 4, 3), (14, .iconst 0, 1), (15, .ireturn, 1)]
set_option maxRecDepth 100000 in
theorem T_X5_isNoCell : ∀ e ∈ t_X5_isNoCell, decode cX5_isNoCell e.1 = .ok e.2 := by decide +kernel
def t_X5_isNoAt : List (Nat × Instr × Nat) := [(0, .iload_n 0, 1), (1, .bipush (-64), 2), (3, .bipush 63, 2), (5, .invokestatic 40, 3), (8, .ifCond .eq 14, 3), (11, .iload_n 1, 1), (12, .bipush (-64), 2), (14, .bipush 63, 2), (16, .invokestatic 40, 3), (19, .ifCond .ne 7, 3), (22, .iconst 1, 1), (23, .goto 4, 3), (26, .iconst 0, 1), (27, .ireturn, 1)]
set_option maxRecDepth 100000 in
theorem T_X5_isNoAt : ∀ e ∈ t_X5_isNoAt, decode cX5_isNoAt e.1 = .ok e.2 := by decide +kernel
def t_X5_isNoPlace : List (Nat × Instr × Nat) := [(0, .iload_n 1, 1), (1, .iconst 0, 1), (2, .aload_n 0, 1), (3, .getfield 44, 3), (6, .iconst 1, 1), (7, .isub, 1), (8, .invokestatic 40, 3), (11, .ifCond .ne 7, 3), (14, .iconst 1, 1), (15, .goto 4, 3), (18, .iconst 0, 1), (19, .ireturn, 1)]
set_option maxRecDepth 100000 in
theorem T_X5_isNoPlace : ∀ e ∈ t_X5_isNoPlace, decode cX5_isNoPlace e.1 = .ok e.2 := by decide +kernel
def t_X5_one : List (Nat × Instr × Nat) := [(0, .iload_n 0, 1), (1, .ifCond .eq 7, 3), (4, .iconst 1, 1), (5, .goto 4, 3), (8, .iconst 0, 1), (9, .ireturn, 1)]
set_option maxRecDepth 100000 in
theorem T_X5_one : ∀ e ∈ t_X5_one, decode cX5_one e.1 = .ok e.2 := by decide +kernel
def t_X5_cross : List (Nat × Instr × Nat) := [(0, .iload_n 0, 1), (1, .iload_n 3, 1), (2, .imul, 1), (3, .iload_n 1, 1), (4, .iload_n 2, 1), (5, .imul, 1), (6, .isub, 1), (7, .ireturn, 1)]
set_option maxRecDepth 100000 in
theorem T_X5_cross : ∀ e ∈ t_X5_cross, decode cX5_cross e.1 = .ok e.2 := by decide +kernel
def t_X5_dot : List (Nat × Instr × Nat) := [(0, .iload_n 0, 1), (1, .iload_n 2, 1), (2, .imul, 1), (3, .iload_n 1, 1), (4, .iload_n 3, 1), (5, .imul, 1), (6, .iadd, 1), (7, .ireturn, 1)]
set_option maxRecDepth 100000 in
theorem T_X5_dot : ∀ e ∈ t_X5_dot, decode cX5_dot e.1 = .ok e.2 := by decide +kernel
def t_X5_sign : List (Nat × Instr × Nat) := [(0, .iload_n 0, 1), (1, .ifCond .ne 7, 3), (4, .iload_n 1, 1), (5, .goto 15, 3), (8, .iload_n 0, 1), (9, .ifCond .ge 7, 3), (12, .iconst 1, 1), (13, .goto 4, 3), (16, .iconst 0, 1), (17, .invokestatic 47, 3), (20, .ireturn, 1)]
set_option maxRecDepth 100000 in
theorem T_X5_sign : ∀ e ∈ t_X5_sign, decode cX5_sign e.1 = .ok e.2 := by decide +kernel
def t_X5_orderOf : List (Nat × Instr × Nat) := [(0, .iload_n 2, 1), (1, .iload 5, 2), (3, .if_icmp .eq 8, 3), (6, .iload 5, 2), (8, .iload_n 2, 1), (9, .isub, 1), (10, .ireturn, 1), (11, .iload_n 0, 1), (12, .iload_n 1, 1), (13, .iload_n 3, 1), (14, .iload 4, 2), (16, .invokestatic 51, 3), (19, .istore 6, 2), (21, .iload 6, 2), (23, .ifCond .eq 14, 3), (26, .iload 6, 2), (28, .ifCond .le 7, 3), (31, .iconst (-1), 1), (32, .goto 4, 3), (35, .iconst 1, 1), (36, .ireturn, 1), (37, .iload_n 0, 1), (38, .iload_n 1, 1), (39, .iload_n 3, 1), (40, .iload 4, 2), (42, .invokestatic 55, 3), (45, .ifCond .le 5, 3), (48, .iconst 0, 1), (49, .ireturn, 1), (50, .iload_n 0, 1), (51, .ifCond .le 7, 3), (54, .iconst 1, 1), (55, .goto 4, 3), (58, .iconst 0, 1), (59, .iload_n 2, 1), (60, .ifCond .ne 7, 3), (63, .iconst 1, 1), (64, .goto 4, 3), (67, .iconst 0, 1), (68, .if_icmp .ne 7, 3), (71, .iconst (-1), 1), (72, .goto 4, 3), (75, .iconst 1, 1), (76, .ireturn, 1)]
set_option maxRecDepth 100000 in
theorem T_X5_orderOf : ∀ e ∈ t_X5_orderOf, decode cX5_orderOf e.1 = .ok e.2 := by decide +kernel
def t_X5_wayOrder : List (Nat × Instr × Nat) := [(0, .iload_n 0, 1), (1, .iload_n 1, 1), (2, .iload_n 1, 1), (3, .ifCond .ge 7, 3), (6, .iconst 1, 1), (7, .goto 4, 3), (10, .iconst 0, 1), (11, .invokestatic 47, 3), (14, .iload_n 2, 1), (15, .iload_n 3, 1), (16, .iload_n 3, 1), (17, .ifCond .ge 7, 3), (20, .iconst 1, 1), (21, .goto 4, 3), (24, .iconst 0, 1), (25, .invokestatic 47, 3), (28, .invokestatic 58, 3), (31, .ireturn, 1)]
set_option maxRecDepth 100000 in
theorem T_X5_wayOrder : ∀ e ∈ t_X5_wayOrder, decode cX5_wayOrder e.1 = .ok e.2 := by decide +kernel
def t_X5_part : List (Nat × Instr × Nat) := [(0, .lload_n 0, 1), (1, .lload 4, 2), (3, .ldiv, 1), (4, .lload_n 2, 1), (5, .lmul, 1), (6, .lload_n 0, 1), (7, .lload 4, 2), (9, .lrem, 1), (10, .lload_n 2, 1), (11, .lmul, 1), (12, .lload 4, 2), (14, .ldiv, 1), (15, .ladd, 1), (16, .lreturn, 1)]
set_option maxRecDepth 100000 in
theorem T_X5_part : ∀ e ∈ t_X5_part, decode cX5_part e.1 = .ok e.2 := by decide +kernel
def t_X5_arc : List (Nat × Instr × Nat) := [(0, .lload_n 2, 1), (1, .lload_n 2, 1), (2, .lmul, 1), (3, .lload_n 0, 1), (4, .lload_n 0, 1), (5, .lmul, 1), (6, .ladd, 1), (7, .lstore 4, 2), (9, .ldc2_w 62, 3), (12, .lload_n 2, 1), (13, .lload_n 0, 1), (14, .lmul, 1), (15, .lload 4, 2), (17, .invokestatic 64, 3), (20, .lstore 6, 2), (22, .lconst 0, 1), (23, .lstore 8, 2), (25, .iconst 1, 1), (26, .istore 10, 2), (28, .lload 6, 2), (30, .lconst 0, 1), (31, .lcmp, 1), (32, .ifCond .le 42, 3), (35, .lload 8, 2), (37, .lload 6, 2), (39, .ladd, 1), (40, .lstore 8, 2), (42, .lload 6, 2), (44, .iconst 2, 1), (45, .iload 10, 2), (47, .imul, 1), (48, .i2l, 1), (49, .lload_n 0, 1), (50, .lmul, 1), (51, .lload_n 0, 1), (52, .lmul, 1), (53, .iconst 2, 1), (54, .iload 10, 2), (56, .imul, 1), (57, .iconst 1, 1), (58, .iadd, 1), (59, .i2l, 1), (60, .lload 4, 2), (62, .lmul, 1), (63, .invokestatic 64, 3), (66, .lstore 6, 2), (68, .iinc 10 1, 3), (71, .goto (-43), 3), (74, .lload 8, 2), (76, .lreturn, 1)]
set_option maxRecDepth 100000 in
theorem T_X5_arc : ∀ e ∈ t_X5_arc, decode cX5_arc e.1 = .ok e.2 := by decide +kernel
def t_X5_slant : List (Nat × Instr × Nat) := [(0, .iload_n 0, 1), (1, .invokestatic 68, 3), (4, .i2l, 1), (5, .lstore_n 2, 1), (6, .iload_n 1, 1), (7, .i2l, 1), (8, .lload_n 2, 1), (9, .lcmp, 1), (10, .ifCond .gt 12, 3), (13, .iload_n 1, 1), (14, .i2l, 1), (15, .lload_n 2, 1), (16, .invokestatic 74, 3), (19, .goto 13, 3), (22, .ldc2_w 78, 3), (25, .lload_n 2, 1), (26, .iload_n 1, 1), (27, .i2l, 1), (28, .invokestatic 74, 3), (31, .lsub, 1), (32, .lstore 4, 2), (34, .iload_n 0, 1), (35, .ifCond .ge 12, 3), (38, .ldc2_w 80, 3), (41, .lload 4, 2), (43, .lsub, 1), (44, .goto 5, 3), (47, .lload 4, 2), (49, .lreturn, 1)]
set_option maxRecDepth 100000 in
theorem T_X5_slant : ∀ e ∈ t_X5_slant, decode cX5_slant e.1 = .ok e.2 := by decide +kernel
def t_X5_lookOf : List (Nat × Instr × Nat) := [(0, .iload_n 0, 1), (1, .ifCond .ne 15, 3), (4, .iload_n 1, 1), (5, .ifCond .ne 11, 3), (8, .iconst 1, 1), (9, .iconst 2, 1), (10, .iload_n 2, 1), (11, .imul, 1), (12, .isub, 1), (13, .goto 4, 3), (16, .iload_n 0, 1), (17, .ireturn, 1)]
set_option maxRecDepth 100000 in
theorem T_X5_lookOf : ∀ e ∈ t_X5_lookOf, decode cX5_lookOf e.1 = .ok e.2 := by decide +kernel
def t_X5_sizeOf : List (Nat × Instr × Nat) := [(0, .iload_n 1, 1), (1, .ifCond .eq 22, 3), (4, .iload_n 0, 1), (5, .ifCond .ne 9, 3), (8, .ldc2_w 82, 3), (11, .goto 11, 3), (14, .iload_n 0, 1), (15, .iload_n 1, 1), (16, .invokestatic 68, 3), (19, .invokestatic 84, 3), (22, .lreturn, 1), (23, .iload_n 0, 1), (24, .iload_n 1, 1), (25, .iload_n 2, 1), (26, .invokestatic 88, 3), (29, .ifCond .le 7, 3), (32, .lconst 0, 1), (33, .goto 6, 3), (36, .ldc2_w 92, 3), (39, .lreturn, 1)]
set_option maxRecDepth 100000 in
theorem T_X5_sizeOf : ∀ e ∈ t_X5_sizeOf, decode cX5_sizeOf e.1 = .ok e.2 := by decide +kernel
def t_X5_gradeOf : List (Nat × Instr × Nat) := [(0, .iload_n 2, 1), (1, .iconst 1, 1), (2, .if_icmp .ne 8, 3), (5, .lload_n 0, 1), (6, .lneg, 1), (7, .goto 4, 3), (10, .lload_n 0, 1), (11, .bipush 60, 2), (13, .iload_n 3, 1), (14, .isub, 1), (15, .lshr, 1), (16, .l2i, 1), (17, .ireturn, 1)]
set_option maxRecDepth 100000 in
theorem T_X5_gradeOf : ∀ e ∈ t_X5_gradeOf, decode cX5_gradeOf e.1 = .ok e.2 := by decide +kernel
def t_X5_look : List (Nat × Instr × Nat) := [(0, .aload_n 0, 1), (1, .getfield 9, 3), (4, .iload_n 1, 1), (5, .iaload, 1), (6, .aload_n 0, 1), (7, .getfield 13, 3), (10, .iload_n 1, 1), (11, .iaload, 1), (12, .aload_n 0, 1), (13, .getfield 16, 3), (16, .iload_n 1, 1), (17, .iaload, 1), (18, .iconst 1, 1), (19, .iand, 1), (20, .invokestatic 88, 3), (23, .ireturn, 1)]
set_option maxRecDepth 100000 in
theorem T_X5_look : ∀ e ∈ t_X5_look, decode cX5_look e.1 = .ok e.2 := by decide +kernel
def t_X5_upSignOf : List (Nat × Instr × Nat) := [(0, .aload_n 0, 1), (1, .getfield 16, 3), (4, .iload_n 1, 1), (5, .iaload, 1), (6, .iconst 1, 1), (7, .ishr, 1), (8, .ireturn, 1)]
set_option maxRecDepth 100000 in
theorem T_X5_upSignOf : ∀ e ∈ t_X5_upSignOf, decode cX5_upSignOf e.1 = .ok e.2 := by decide +kernel
def t_X5_isNull : List (Nat × Instr × Nat) := [(0, .aload_n 0, 1), (1, .getfield 9, 3), (4, .iload_n 1, 1), (5, .iaload, 1), (6, .ifCond .ne 16, 3), (9, .aload_n 0, 1), (10, .getfield 13, 3), (13, .iload_n 1, 1), (14, .iaload, 1), (15, .ifCond .ne 7, 3), (18, .iconst 1, 1), (19, .goto 4, 3), (22, .iconst 0, 1), (23, .ireturn, 1)]
set_option maxRecDepth 100000 in
theorem T_X5_isNull : ∀ e ∈ t_X5_isNull, decode cX5_isNull e.1 = .ok e.2 := by decide +kernel
def t_X5_isZero : List (Nat × Instr × Nat) := [(0, .aload_n 0, 1), (1, .getfield 13, 3), (4, .iload_n 1, 1), (5, .iaload, 1), (6, .ifCond .ne 15, 3), (9, .aload_n 0, 1), (10, .iload_n 1, 1), (11, .invokevirtual 94, 3), (14, .ifCond .le 7, 3), (17, .iconst 1, 1), (18, .goto 4, 3), (21, .iconst 0, 1), (22, .ireturn, 1)]
set_option maxRecDepth 100000 in
theorem T_X5_isZero : ∀ e ∈ t_X5_isZero, decode cX5_isZero e.1 = .ok e.2 := by decide +kernel
def t_X5_orderAt : List (Nat × Instr × Nat) := [(0, .aload_n 0, 1), (1, .iload_n 1, 1), (2, .invokevirtual 94, 3), (5, .aload_n 0, 1), (6, .getfield 13, 3), (9, .iload_n 1, 1), (10, .iaload, 1), (11, .aload_n 0, 1), (12, .iload_n 1, 1), (13, .invokevirtual 97, 3), (16, .aload_n 0, 1), (17, .iload_n 2, 1), (18, .invokevirtual 94, 3), (21, .aload_n 0, 1), (22, .getfield 13, 3), (25, .iload_n 2, 1), (26, .iaload, 1), (27, .aload_n 0, 1), (28, .iload_n 2, 1), (29, .invokevirtual 97, 3), (32, .invokestatic 58, 3), (35, .ireturn, 1)]
set_option maxRecDepth 100000 in
theorem T_X5_orderAt : ∀ e ∈ t_X5_orderAt, decode cX5_orderAt e.1 = .ok e.2 := by decide +kernel
def t_X5_isLike : List (Nat × Instr × Nat) := [(0, .aload_n 0, 1), (1, .iload_n 1, 1), (2, .invokevirtual 100, 3), (5, .ifCond .eq 11, 3), (8, .aload_n 0, 1), (9, .iload_n 2, 1), (10, .invokevirtual 100, 3), (13, .ifCond .ne 12, 3), (16, .aload_n 0, 1), (17, .iload_n 1, 1), (18, .iload_n 2, 1), (19, .invokevirtual 104, 3), (22, .ifCond .ne 7, 3), (25, .iconst 1, 1), (26, .goto 4, 3), (29, .iconst 0, 1), (30, .ireturn, 1)]
set_option maxRecDepth 100000 in
theorem T_X5_isLike : ∀ e ∈ t_X5_isLike, decode cX5_isLike e.1 = .ok e.2 := by decide +kernel
def t_X5_sideAt : List (Nat × Instr × Nat) := [(0, .aload_n 0, 1), (1, .iload_n 1, 1), (2, .invokevirtual 108, 3), (5, .ifCond .ne 11, 3), (8, .aload_n 0, 1), (9, .iload_n 2, 1), (10, .invokevirtual 108, 3), (13, .ifCond .eq 8, 3), (16, .bipush (-9), 2), (18, .goto 33, 3), (21, .aload_n 0, 1), (22, .getfield 9, 3), (25, .iload_n 1, 1), (26, .iaload, 1), (27, .aload_n 0, 1), (28, .getfield 13, 3), (31, .iload_n 1, 1), (32, .iaload, 1), (33, .aload_n 0, 1), (34, .getfield 9, 3), (37, .iload_n 2, 1), (38, .iaload, 1), (39, .aload_n 0, 1), (40, .getfield 13, 3), (43, .iload_n 2, 1), (44, .iaload, 1), (45, .invokestatic 51, 3), (48, .invokestatic 111, 3), (51, .ireturn, 1)]
set_option maxRecDepth 100000 in
theorem T_X5_sideAt : ∀ e ∈ t_X5_sideAt, decode cX5_sideAt e.1 = .ok e.2 := by decide +kernel
def t_X5_isNotAhead : List (Nat × Instr × Nat) := [(0, .aload_n 0, 1), (1, .iload_n 1, 1), (2, .invokevirtual 94, 3), (5, .aload_n 0, 1), (6, .getfield 13, 3), (9, .iload_n 1, 1), (10, .iaload, 1), (11, .aload_n 0, 1), (12, .iload_n 1, 1), (13, .invokevirtual 97, 3), (16, .iload_n 2, 1), (17, .iload_n 3, 1), (18, .iload_n 3, 1), (19, .ifCond .ge 7, 3), (22, .iconst 1, 1), (23, .goto 4, 3), (26, .iconst 0, 1), (27, .invokestatic 47, 3), (30, .invokestatic 58, 3), (33, .ifCond .lt 7, 3), (36, .iconst 1, 1), (37, .goto 4, 3), (40, .iconst 0, 1), (41, .invokestatic 47, 3), (44, .ireturn, 1)]
set_option maxRecDepth 100000 in
theorem T_X5_isNotAhead : ∀ e ∈ t_X5_isNotAhead, decode cX5_isNotAhead e.1 = .ok e.2 := by decide +kernel
def t_X5_eighthOf : List (Nat × Instr × Nat) := [(0, .aload_n 0, 1), (1, .iload_n 1, 1), (2, .iconst 1, 1), (3, .iconst 0, 1), (4, .invokevirtual 116, 3), (7, .aload_n 0, 1), (8, .iload_n 1, 1), (9, .iconst (-1), 1), (10, .iconst 0, 1), (11, .invokevirtual 116, 3), (14, .iadd, 1), (15, .istore_n 2, 1), (16, .iconst (-1), 1), (17, .istore_n 3, 1), (18, .iload_n 3, 1), (19, .iconst 1, 1), (20, .if_icmp .gt 27, 3), (23, .iload_n 2, 1), (24, .aload_n 0, 1), (25, .iload_n 1, 1), (26, .iload_n 3, 1), (27, .iconst (-1), 1), (28, .invokevirtual 116, 3), (31, .aload_n 0, 1), (32, .iload_n 1, 1), (33, .iload_n 3, 1), (34, .iconst 1, 1), (35, .invokevirtual 116, 3), (38, .iadd, 1), (39, .iadd, 1), (40, .istore_n 2, 1), (41, .iinc 3 1, 3), (44, .goto (-26), 3), (47, .iload_n 2, 1), (48, .ireturn, 1)]
set_option maxRecDepth 100000 in
theorem T_X5_eighthOf : ∀ e ∈ t_X5_eighthOf, decode cX5_eighthOf e.1 = .ok e.2 := by decide +kernel
def t_X5_upperOf : List (Nat × Instr × Nat) := [(0, .aload_n 0, 1), (1, .getfield 19, 3), (4, .iload_n 1, 1), (5, .laload, 1), (6, .lstore_n 2, 1), (7, .aload_n 0, 1), (8, .iload_n 1, 1), (9, .invokevirtual 97, 3), (12, .bipush 31, 2), (14, .ishl, 1), (15, .istore 4, 2), (17, .lload_n 2, 1), (18, .lconst 0, 1), (19, .lcmp, 1), (20, .ifCond .ne 6, 3), (23, .iload 4, 2), (25, .ireturn, 1), (26, .iconst 1, 1), (27, .istore 5, 2), (29, .lload_n 2, 1), (30, .bipush 60, 2), (32, .iload 5, 2), (34, .iadd, 1), (35, .lshr, 1), (36, .lconst 0, 1), (37, .lcmp, 1), (38, .ifCond .ne 9, 3), (41, .iinc 5 (-1), 3), (44, .goto (-15), 3), (47, .iload 4, 2), (49, .iload 5, 2), (51, .sipush 1023, 3), (54, .iadd, 1), (55, .bipush 20, 2), (57, .ishl, 1), (58, .ior, 1), (59, .lload_n 2, 1), (60, .bipush 40, 2), (62, .iload 5, 2), (64, .iadd, 1), (65, .lshr, 1), (66, .l2i, 1), (67, .ldc 119, 2), (69, .isub, 1), (70, .ior, 1), (71, .ireturn, 1)]
set_option maxRecDepth 100000 in
theorem T_X5_upperOf : ∀ e ∈ t_X5_upperOf, decode cX5_upperOf e.1 = .ok e.2 := by decide +kernel
def t_X5_lowerOf : List (Nat × Instr × Nat) := [(0, .aload_n 0, 1), (1, .getfield 9, 3), (4, .iload_n 1, 1), (5, .iaload, 1), (6, .ifCond .eq 58, 3), (9, .aload_n 0, 1), (10, .getfield 13, 3), (13, .iload_n 1, 1), (14, .iaload, 1), (15, .ifCond .eq 49, 3), (18, .aload_n 0, 1), (19, .getfield 9, 3), (22, .iload_n 1, 1), (23, .iaload, 1), (24, .invokestatic 68, 3), (27, .aload_n 0, 1), (28, .getfield 13, 3), (31, .iload_n 1, 1), (32, .iaload, 1), (33, .invokestatic 68, 3), (36, .if_icmp .eq 8, 3), (39, .bipush (-9), 2), (41, .goto 22, 3), (44, .aload_n 0, 1), (45, .getfield 9, 3), (48, .iload_n 1, 1), (49, .iaload, 1), (50, .ifCond .ge 9, 3), (53, .ldc2_w 120, 3), (56, .goto 6, 3), (59, .ldc2_w 122, 3), (62, .l2i, 1), (63, .ireturn, 1), (64, .aload_n 0, 1), (65, .iload_n 1, 1), (66, .invokevirtual 100, 3), (69, .ifCond .eq 7, 3), (72, .iconst 0, 1), (73, .goto 5, 3), (76, .ldc 124, 2), (78, .ireturn, 1)]
set_option maxRecDepth 100000 in
theorem T_X5_lowerOf : ∀ e ∈ t_X5_lowerOf, decode cX5_lowerOf e.1 = .ok e.2 := by decide +kernel
def t_X5_failed : List (Nat × Instr × Nat) := [(0, .aload_n 0, 1), (1, .getfield 29, 3), (4, .iconst 2, 1), (5, .dup2, 1), (6, .iaload, 1), (7, .iconst 1, 1), (8, .iadd, 1), (9, .iastore, 1), (10, .bipush (-9), 2), (12, .ireturn, 1)]
set_option maxRecDepth 100000 in
theorem T_X5_failed : ∀ e ∈ t_X5_failed, decode cX5_failed e.1 = .ok e.2 := by decide +kernel
def t_X5_move : List (Nat × Instr × Nat) := [(0, .iload_n 2, 1), (1, .iload 4, 2), (3, .invokestatic 125, 3), (6, .istore 6, 2), (8, .iload_n 3, 1), (9, .iload 5, 2), (11, .invokestatic 125, 3), (14, .istore 7, 2), (16, .iload_n 2, 1), (17, .iload_n 3, 1), (18, .iload 6, 2), (20, .invokestatic 88, 3), (23, .iload_n 3, 1), (24, .iload 7, 2), (26, .aload_n 0, 1), (27, .iload_n 1, 1), (28, .invokevirtual 94, 3), (31, .aload_n 0, 1), (32, .getfield 13, 3), (35, .iload_n 1, 1), (36, .iaload, 1), (37, .aload_n 0, 1), (38, .iload_n 1, 1), (39, .invokevirtual 97, 3), (42, .invokestatic 58, 3), (45, .istore 8, 2), (47, .aload_n 0, 1), (48, .getfield 9, 3), (51, .iload_n 1, 1), (52, .iload_n 2, 1), (53, .iastore, 1), (54, .aload_n 0, 1), (55, .getfield 13, 3), (58, .iload_n 1, 1), (59, .iload_n 3, 1), (60, .iastore, 1), (61, .aload_n 0, 1), (62, .getfield 16, 3), (65, .iload_n 1, 1), (66, .iload 6, 2), (68, .iconst 2, 1), (69, .iload 7, 2), (71, .imul, 1), (72, .iadd, 1), (73, .iastore, 1), (74, .aload_n 0, 1), (75, .getfield 19, 3), (78, .iload_n 1, 1), (79, .iload_n 2, 1), (80, .iload_n 3, 1), (81, .iload 6, 2), (83, .invokestatic 128, 3), (86, .lastore, 1), (87, .aload_n 0, 1), (88, .getfield 29, 3), (91, .iconst 0, 1), (92, .dup2, 1), (93, .iaload, 1), (94, .iconst 1, 1), (95, .iadd, 1), (96, .iastore, 1), (97, .iload 8, 2), (99, .ireturn, 1)]
set_option maxRecDepth 100000 in
theorem T_X5_move : ∀ e ∈ t_X5_move, decode cX5_move e.1 = .ok e.2 := by decide +kernel
def t_X5_put : List (Nat × Instr × Nat) := [(0, .aload_n 0, 1), (1, .iload_n 1, 1), (2, .invokestatic 132, 3), (5, .iconst 1, 1), (6, .invokevirtual 135, 3), (9, .ifCond .ne 48, 3), (12, .aload_n 0, 1), (13, .iload_n 2, 1), (14, .bipush (-127), 2), (16, .bipush 127, 2), (18, .invokestatic 40, 3), (21, .ifCond .eq 24, 3), (24, .iload_n 3, 1), (25, .bipush (-127), 2), (27, .bipush 127, 2), (29, .invokestatic 40, 3), (32, .ifCond .eq 13, 3), (35, .iload 4, 2), (37, .iconst 0, 1), (38, .iconst 3, 1), (39, .invokestatic 40, 3), (42, .ifCond .ne 7, 3), (45, .iconst 1, 1), (46, .goto 4, 3), (49, .iconst 0, 1), (50, .iconst 2, 1), (51, .invokevirtual 36, 3), (54, .ifCond .eq 5, 3), (57, .iconst 0, 1), (58, .ireturn, 1), (59, .aload_n 0, 1), (60, .iload_n 1, 1), (61, .iload_n 2, 1), (62, .iload_n 3, 1), (63, .iload 4, 2), (65, .iconst 2, 1), (66, .irem, 1), (67, .iload 4, 2), (69, .iconst 2, 1), (70, .idiv, 1), (71, .invokevirtual 138, 3), (74, .ireturn, 1)]
set_option maxRecDepth 100000 in
theorem T_X5_put : ∀ e ∈ t_X5_put, decode cX5_put e.1 = .ok e.2 := by decide +kernel
def t_X5_make : List (Nat × Instr × Nat) := [(0, .aload_n 0, 1), (1, .iload_n 1, 1), (2, .invokestatic 132, 3), (5, .iconst 1, 1), (6, .invokevirtual 135, 3), (9, .ifCond .ne 25, 3), (12, .aload_n 0, 1), (13, .iload_n 2, 1), (14, .iconst 0, 1), (15, .iconst 5, 1), (16, .invokestatic 40, 3), (19, .ifCond .ne 7, 3), (22, .iconst 1, 1), (23, .goto 4, 3), (26, .iconst 0, 1), (27, .iconst 2, 1), (28, .invokevirtual 36, 3), (31, .ifCond .eq 5, 3), (34, .iconst 0, 1), (35, .ireturn, 1), (36, .aload_n 0, 1), (37, .getfield 9, 3), (40, .iload_n 1, 1), (41, .iaload, 1), (42, .istore_n 3, 1), (43, .aload_n 0, 1), (44, .getfield 13, 3), (47, .iload_n 1, 1), (48, .iaload, 1), (49, .istore 4, 2), (51, .aload_n 0, 1), (52, .getfield 16, 3), (55, .iload_n 1, 1), (56, .iaload, 1), (57, .iconst 1, 1), (58, .iand, 1), (59, .istore 5, 2), (61, .aload_n 0, 1), (62, .iload_n 1, 1), (63, .invokevirtual 97, 3), (66, .istore 6, 2), (68, .iload_n 2, 1), (69, .tableswitch 112 0 4 #[35, 51, 67, 83, 99], 35), (104, .aload_n 0, 1), (105, .iload_n 1, 1), (106, .iload_n 3, 1), (107, .iload 4, 2), (109, .ineg, 1), (110, .iload 5, 2), (112, .iconst 1, 1), (113, .iload 6, 2), (115, .isub, 1), (116, .invokevirtual 138, 3), (119, .ireturn, 1), (120, .aload_n 0, 1), (121, .iload_n 1, 1), (122, .iload_n 3, 1), (123, .ineg, 1), (124, .iload 4, 2), (126, .iconst 1, 1), (127, .iload 5, 2), (129, .isub, 1), (130, .iload 6, 2), (132, .invokevirtual 138, 3), (135, .ireturn, 1), (136, .aload_n 0, 1), (137, .iload_n 1, 1), (138, .iload 4, 2), (140, .ineg, 1), (141, .iload_n 3, 1), (142, .iconst 1, 1), (143, .iload 6, 2), (145, .isub, 1), (146, .iload 5, 2), (148, .invokevirtual 138, 3), (151, .ireturn, 1), (152, .aload_n 0, 1), (153, .iload_n 1, 1), (154, .iload 4, 2), (156, .iload_n 3, 1), (157, .ineg, 1), (158, .iload 6, 2), (160, .iconst 1, 1), (161, .iload 5, 2), (163, .isub, 1), (164, .invokevirtual 138, 3), (167, .ireturn, 1), (168, .aload_n 0, 1), (169, .iload_n 1, 1), (170, .iload 4, 2), (172, .iload_n 3, 1), (173, .iload 6, 2), (175, .iload 5, 2), (177, .invokevirtual 138, 3), (180, .ireturn, 1), (181, .aload_n 0, 1), (182, .iload_n 1, 1), (183, .iload_n 3, 1), (184, .ineg, 1), (185, .iload 4, 2), (187, .ineg, 1), (188, .iconst 1, 1), (189, .iload 5, 2), (191, .isub, 1), (192, .iconst 1, 1), (193, .iload 6, 2), (195, .isub, 1), (196, .invokevirtual 138, 3), (199, .ireturn, 1)]
set_option maxRecDepth 100000 in
theorem T_X5_make : ∀ e ∈ t_X5_make, decode cX5_make e.1 = .ok e.2 := by decide +kernel
def t_X5_moveTo : List (Nat × Instr × Nat) := [(0, .iload_n 2, 1), (1, .bipush (-127), 2), (3, .bipush 127, 2), (5, .invokestatic 40, 3), (8, .ifCond .eq 28, 3), (11, .iload_n 3, 1), (12, .bipush (-127), 2), (14, .bipush 127, 2), (16, .invokestatic 40, 3), (19, .ifCond .eq 17, 3), (22, .aload_n 0, 1), (23, .iload_n 1, 1), (24, .iload_n 2, 1), (25, .iload_n 3, 1), (26, .iload 4, 2), (28, .iload 5, 2), (30, .invokevirtual 138, 3), (33, .goto 7, 3), (36, .aload_n 0, 1), (37, .invokevirtual 142, 3), (40, .ireturn, 1)]
set_option maxRecDepth 100000 in
theorem T_X5_moveTo : ∀ e ∈ t_X5_moveTo, decode cX5_moveTo e.1 = .ok e.2 := by decide +kernel
def t_X5_stretch : List (Nat × Instr × Nat) := [(0, .aload_n 0, 1), (1, .iload_n 1, 1), (2, .invokestatic 132, 3), (5, .iconst 1, 1), (6, .invokevirtual 135, 3), (9, .ifCond .ne 26, 3), (12, .aload_n 0, 1), (13, .iload_n 2, 1), (14, .iconst 1, 1), (15, .bipush 127, 2), (17, .invokestatic 40, 3), (20, .ifCond .ne 7, 3), (23, .iconst 1, 1), (24, .goto 4, 3), (27, .iconst 0, 1), (28, .iconst 2, 1), (29, .invokevirtual 36, 3), (32, .ifCond .eq 7, 3), (35, .iconst 0, 1), (36, .goto 37, 3), (39, .aload_n 0, 1), (40, .iload_n 1, 1), (41, .aload_n 0, 1), (42, .getfield 9, 3), (45, .iload_n 1, 1), (46, .iaload, 1), (47, .iload_n 2, 1), (48, .imul, 1), (49, .aload_n 0, 1), (50, .getfield 13, 3), (53, .iload_n 1, 1), (54, .iaload, 1), (55, .iload_n 2, 1), (56, .imul, 1), (57, .aload_n 0, 1), (58, .getfield 16, 3), (61, .iload_n 1, 1), (62, .iaload, 1), (63, .iconst 1, 1), (64, .iand, 1), (65, .aload_n 0, 1), (66, .iload_n 1, 1), (67, .invokevirtual 97, 3), (70, .invokevirtual 146, 3), (73, .ireturn, 1)]
set_option maxRecDepth 100000 in
theorem T_X5_stretch : ∀ e ∈ t_X5_stretch, decode cX5_stretch e.1 = .ok e.2 := by decide +kernel
def t_X5_addSteps : List (Nat × Instr × Nat) := [(0, .aload_n 0, 1), (1, .iload_n 1, 1), (2, .invokestatic 132, 3), (5, .ifCond .ne 17, 3), (8, .iload_n 2, 1), (9, .invokestatic 132, 3), (12, .ifCond .ne 10, 3), (15, .iload_n 3, 1), (16, .invokestatic 132, 3), (19, .ifCond .eq 7, 3), (22, .iconst 1, 1), (23, .goto 4, 3), (26, .iconst 0, 1), (27, .iconst 1, 1), (28, .invokevirtual 135, 3), (31, .ifCond .eq 5, 3), (34, .iconst 0, 1), (35, .ireturn, 1), (36, .aload_n 0, 1), (37, .getfield 16, 3), (40, .iload_n 1, 1), (41, .iaload, 1), (42, .aload_n 0, 1), (43, .getfield 16, 3), (46, .iload_n 2, 1), (47, .iaload, 1), (48, .iand, 1), (49, .istore 4, 2), (51, .aload_n 0, 1), (52, .iload_n 3, 1), (53, .aload_n 0, 1), (54, .getfield 9, 3), (57, .iload_n 1, 1), (58, .iaload, 1), (59, .aload_n 0, 1), (60, .getfield 9, 3), (63, .iload_n 2, 1), (64, .iaload, 1), (65, .iadd, 1), (66, .aload_n 0, 1), (67, .getfield 13, 3), (70, .iload_n 1, 1), (71, .iaload, 1), (72, .aload_n 0, 1), (73, .getfield 13, 3), (76, .iload_n 2, 1), (77, .iaload, 1), (78, .iadd, 1), (79, .iload 4, 2), (81, .iconst 1, 1), (82, .iand, 1), (83, .iload 4, 2), (85, .iconst 1, 1), (86, .ishr, 1), (87, .invokevirtual 146, 3), (90, .ireturn, 1)]
set_option maxRecDepth 100000 in
theorem T_X5_addSteps : ∀ e ∈ t_X5_addSteps, decode cX5_addSteps e.1 = .ok e.2 := by decide +kernel
def t_X5_takeStep : List (Nat × Instr × Nat) := [(0, .aload_n 0, 1), (1, .iload_n 1, 1), (2, .invokestatic 132, 3), (5, .ifCond .ne 19, 3), (8, .aload_n 0, 1), (9, .iload_n 2, 1), (10, .invokevirtual 149, 3), (13, .ifCond .ne 11, 3), (16, .aload_n 0, 1), (17, .iload_n 3, 1), (18, .invokevirtual 149, 3), (21, .ifCond .eq 7, 3), (24, .iconst 1, 1), (25, .goto 4, 3), (28, .iconst 0, 1), (29, .iconst 1, 1), (30, .invokevirtual 135, 3), (33, .ifCond .eq 7, 3), (36, .iconst 0, 1), (37, .goto 36, 3), (40, .aload_n 0, 1), (41, .iload_n 1, 1), (42, .aload_n 0, 1), (43, .getfield 23, 3), (46, .iload_n 3, 1), (47, .iaload, 1), (48, .aload_n 0, 1), (49, .getfield 23, 3), (52, .iload_n 2, 1), (53, .iaload, 1), (54, .isub, 1), (55, .aload_n 0, 1), (56, .getfield 26, 3), (59, .iload_n 3, 1), (60, .iaload, 1), (61, .aload_n 0, 1), (62, .getfield 26, 3), (65, .iload_n 2, 1), (66, .iaload, 1), (67, .isub, 1), (68, .iconst 0, 1), (69, .iconst 0, 1), (70, .invokevirtual 138, 3), (73, .ireturn, 1)]
set_option maxRecDepth 100000 in
theorem T_X5_takeStep : ∀ e ∈ t_X5_takeStep, decode cX5_takeStep e.1 = .ok e.2 := by decide +kernel
def t_X5_sortSteps : List (Nat × Instr × Nat) := [(0, .aload_n 0, 1), (1, .iconst 0, 1), (2, .putfield 32, 3), (5, .bipush 8, 2), (7, .newarray .int, 2), (9, .astore_n 2, 1), (10, .bipush 8, 2), (12, .newarray .int, 2), (14, .astore_n 3, 1), (15, .bipush 8, 2), (17, .newarray .int, 2), (19, .astore 4, 2), (21, .bipush 8, 2), (23, .newarray .long, 2), (25, .astore 5, 2), (27, .bipush 8, 2), (29, .newarray .int, 2), (31, .astore 6, 2), (33, .iconst 0, 1), (34, .istore 7, 2), (36, .iload 7, 2), (38, .bipush 8, 2), (40, .if_icmp .ge 123, 3), (43, .aload_n 2, 1), (44, .iload 7, 2), (46, .aload_n 0, 1), (47, .getfield 9, 3), (50, .iload 7, 2), (52, .iaload, 1), (53, .iastore, 1), (54, .aload_n 3, 1), (55, .iload 7, 2), (57, .aload_n 0, 1), (58, .getfield 13, 3), (61, .iload 7, 2), (63, .iaload, 1), (64, .iastore, 1), (65, .aload 4, 2), (67, .iload 7, 2), (69, .aload_n 0, 1), (70, .getfield 16, 3), (73, .iload 7, 2), (75, .iaload, 1), (76, .iastore, 1), (77, .aload 5, 2), (79, .iload 7, 2), (81, .aload_n 0, 1), (82, .getfield 19, 3), (85, .iload 7, 2), (87, .laload, 1), (88, .lastore, 1), (89, .iconst 0, 1), (90, .istore 8, 2), (92, .iload 8, 2), (94, .bipush 8, 2), (96, .if_icmp .ge 61, 3), (99, .aload_n 0, 1), (100, .iload 8, 2), (102, .iload 7, 2), (104, .invokevirtual 104, 3), (107, .istore 9, 2), (109, .aload 6, 2), (111, .iload 7, 2), (113, .dup2, 1), (114, .iaload, 1), (115, .iload 9, 2), (117, .ifCond .ne 10, 3), (120, .iload 8, 2), (122, .iload 7, 2), (124, .if_icmp .lt 17, 3), (127, .iload 9, 2), (129, .iload_n 1, 1), (130, .ifCond .eq 7, 3), (133, .iconst 1, 1), (134, .goto 4, 3), (137, .iconst (-1), 1), (138, .if_icmp .ne 7, 3), (141, .iconst 1, 1), (142, .goto 4, 3), (145, .iconst 0, 1), (146, .invokestatic 47, 3), (149, .iadd, 1), (150, .iastore, 1), (151, .iinc 8 1, 3), (154, .goto (-62), 3), (157, .iinc 7 1, 3), (160, .goto (-124), 3), (163, .iconst 0, 1), (164, .istore 7, 2), (166, .iconst 0, 1), (167, .istore 8, 2), (169, .iload 8, 2), (171, .bipush 8, 2), (173, .if_icmp .ge 110, 3), (176, .aload 6, 2), (178, .iload 8, 2), (180, .iaload, 1), (181, .istore 9, 2), (183, .iload 7, 2), (185, .aload_n 2, 1), (186, .iload 8, 2), (188, .iaload, 1), (189, .aload_n 2, 1), (190, .iload 9, 2), (192, .iaload, 1), (193, .if_icmp .ne 27, 3), (196, .aload_n 3, 1), (197, .iload 8, 2), (199, .iaload, 1), (200, .aload_n 3, 1), (201, .iload 9, 2), (203, .iaload, 1), (204, .if_icmp .ne 16, 3), (207, .aload 4, 2), (209, .iload 8, 2), (211, .iaload, 1), (212, .aload 4, 2), (214, .iload 9, 2), (216, .iaload, 1), (217, .if_icmp .eq 7, 3), (220, .iconst 1, 1), (221, .goto 4, 3), (224, .iconst 0, 1), (225, .invokestatic 47, 3), (228, .iadd, 1), (229, .istore 7, 2), (231, .aload_n 0, 1), (232, .getfield 9, 3), (235, .iload 9, 2), (237, .aload_n 2, 1), (238, .iload 8, 2), (240, .iaload, 1), (241, .iastore, 1), (242, .aload_n 0, 1), (243, .getfield 13, 3), (246, .iload 9, 2), (248, .aload_n 3, 1), (249, .iload 8, 2), (251, .iaload, 1), (252, .iastore, 1), (253, .aload_n 0, 1), (254, .getfield 16, 3), (257, .iload 9, 2), (259, .aload 4, 2), (261, .iload 8, 2), (263, .iaload, 1), (264, .iastore, 1), (265, .aload_n 0, 1), (266, .getfield 19, 3), (269, .iload 9, 2), (271, .aload 5, 2), (273, .iload 8, 2), (275, .laload, 1), (276, .lastore, 1), (277, .iinc 8 1, 3), (280, .goto (-111), 3), (283, .aload_n 0, 1), (284, .getfield 29, 3), (287, .iconst 0, 1), (288, .dup2, 1), (289, .iaload, 1), (290, .iconst 1, 1), (291, .iadd, 1), (292, .iastore, 1), (293, .iload 7, 2), (295, .ireturn, 1)]
set_option maxRecDepth 100000 in
theorem T_X5_sortSteps : ∀ e ∈ t_X5_sortSteps, decode cX5_sortSteps e.1 = .ok e.2 := by decide +kernel
def t_X5_across : List (Nat × Instr × Nat) := [(0, .aload_n 0, 1), (1, .iload_n 1, 1), (2, .invokestatic 132, 3), (5, .iconst 1, 1), (6, .invokevirtual 135, 3), (9, .ifCond .eq 7, 3), (12, .iconst 0, 1), (13, .goto 9, 3), (16, .aload_n 0, 1), (17, .getfield 9, 3), (20, .iload_n 1, 1), (21, .iaload, 1), (22, .ireturn, 1)]
set_option maxRecDepth 100000 in
theorem T_X5_across : ∀ e ∈ t_X5_across, decode cX5_across e.1 = .ok e.2 := by decide +kernel
def t_X5_up : List (Nat × Instr × Nat) := [(0, .aload_n 0, 1), (1, .iload_n 1, 1), (2, .invokestatic 132, 3), (5, .iconst 1, 1), (6, .invokevirtual 135, 3), (9, .ifCond .eq 7, 3), (12, .iconst 0, 1), (13, .goto 9, 3), (16, .aload_n 0, 1), (17, .getfield 13, 3), (20, .iload_n 1, 1), (21, .iaload, 1), (22, .ireturn, 1)]
set_option maxRecDepth 100000 in
theorem T_X5_up : ∀ e ∈ t_X5_up, decode cX5_up e.1 = .ok e.2 := by decide +kernel
def t_X5_signs : List (Nat × Instr × Nat) := [(0, .aload_n 0, 1), (1, .iload_n 1, 1), (2, .invokestatic 132, 3), (5, .iconst 1, 1), (6, .invokevirtual 135, 3), (9, .ifCond .eq 7, 3), (12, .iconst 0, 1), (13, .goto 9, 3), (16, .aload_n 0, 1), (17, .getfield 16, 3), (20, .iload_n 1, 1), (21, .iaload, 1), (22, .ireturn, 1)]
set_option maxRecDepth 100000 in
theorem T_X5_signs : ∀ e ∈ t_X5_signs, decode cX5_signs e.1 = .ok e.2 := by decide +kernel
def t_X5_upper : List (Nat × Instr × Nat) := [(0, .aload_n 0, 1), (1, .iload_n 1, 1), (2, .invokestatic 132, 3), (5, .iconst 1, 1), (6, .invokevirtual 135, 3), (9, .ifCond .eq 7, 3), (12, .iconst 0, 1), (13, .goto 8, 3), (16, .aload_n 0, 1), (17, .iload_n 1, 1), (18, .invokevirtual 152, 3), (21, .ireturn, 1)]
set_option maxRecDepth 100000 in
theorem T_X5_upper : ∀ e ∈ t_X5_upper, decode cX5_upper e.1 = .ok e.2 := by decide +kernel
def t_X5_lower : List (Nat × Instr × Nat) := [(0, .aload_n 0, 1), (1, .iload_n 1, 1), (2, .invokestatic 132, 3), (5, .iconst 1, 1), (6, .invokevirtual 135, 3), (9, .ifCond .eq 7, 3), (12, .iconst 0, 1), (13, .goto 8, 3), (16, .aload_n 0, 1), (17, .iload_n 1, 1), (18, .invokevirtual 155, 3), (21, .ireturn, 1)]
set_option maxRecDepth 100000 in
theorem T_X5_lower : ∀ e ∈ t_X5_lower, decode cX5_lower e.1 = .ok e.2 := by decide +kernel
def t_X5_grade : List (Nat × Instr × Nat) := [(0, .aload_n 0, 1), (1, .iload_n 1, 1), (2, .invokestatic 132, 3), (5, .iconst 1, 1), (6, .invokevirtual 135, 3), (9, .ifCond .ne 26, 3), (12, .aload_n 0, 1), (13, .iload_n 2, 1), (14, .iconst 0, 1), (15, .bipush 29, 2), (17, .invokestatic 40, 3), (20, .ifCond .ne 7, 3), (23, .iconst 1, 1), (24, .goto 4, 3), (27, .iconst 0, 1), (28, .iconst 2, 1), (29, .invokevirtual 36, 3), (32, .ifCond .eq 7, 3), (35, .iconst 0, 1), (36, .goto 18, 3), (39, .aload_n 0, 1), (40, .getfield 19, 3), (43, .iload_n 1, 1), (44, .laload, 1), (45, .aload_n 0, 1), (46, .iload_n 1, 1), (47, .invokevirtual 97, 3), (50, .iload_n 2, 1), (51, .invokestatic 158, 3), (54, .ireturn, 1)]
set_option maxRecDepth 100000 in
theorem T_X5_grade : ∀ e ∈ t_X5_grade, decode cX5_grade e.1 = .ok e.2 := by decide +kernel
def t_X5_startTwo : List (Nat × Instr × Nat) := [(0, .aload_n 0, 1), (1, .iload_n 1, 1), (2, .invokestatic 132, 3), (5, .ifCond .ne 10, 3), (8, .iload_n 2, 1), (9, .invokestatic 132, 3), (12, .ifCond .eq 7, 3), (15, .iconst 1, 1), (16, .goto 4, 3), (19, .iconst 0, 1), (20, .iconst 1, 1), (21, .invokevirtual 135, 3), (24, .ireturn, 1)]
set_option maxRecDepth 100000 in
theorem T_X5_startTwo : ∀ e ∈ t_X5_startTwo, decode cX5_startTwo e.1 = .ok e.2 := by decide +kernel
def t_X5_order : List (Nat × Instr × Nat) := [(0, .aload_n 0, 1), (1, .iload_n 1, 1), (2, .iload_n 2, 1), (3, .invokevirtual 162, 3), (6, .ifCond .ne 25, 3), (9, .aload_n 0, 1), (10, .iload_n 3, 1), (11, .iconst 0, 1), (12, .iconst 2, 1), (13, .invokestatic 40, 3), (16, .ifCond .ne 7, 3), (19, .iconst 1, 1), (20, .goto 4, 3), (23, .iconst 0, 1), (24, .iconst 2, 1), (25, .invokevirtual 36, 3), (28, .ifCond .eq 7, 3), (31, .iconst 0, 1), (32, .goto 9, 3), (35, .aload_n 0, 1), (36, .iload_n 1, 1), (37, .iload_n 2, 1), (38, .invokevirtual 104, 3), (41, .ireturn, 1)]
set_option maxRecDepth 100000 in
theorem T_X5_order : ∀ e ∈ t_X5_order, decode cX5_order e.1 = .ok e.2 := by decide +kernel
def t_X5_like : List (Nat × Instr × Nat) := [(0, .aload_n 0, 1), (1, .iload_n 1, 1), (2, .iload_n 2, 1), (3, .invokevirtual 162, 3), (6, .ifCond .ne 16, 3), (9, .aload_n 0, 1), (10, .iload_n 1, 1), (11, .iload_n 2, 1), (12, .invokevirtual 166, 3), (15, .ifCond .eq 7, 3), (18, .iconst 1, 1), (19, .goto 4, 3), (22, .iconst 0, 1), (23, .ireturn, 1)]
set_option maxRecDepth 100000 in
theorem T_X5_like : ∀ e ∈ t_X5_like, decode cX5_like e.1 = .ok e.2 := by decide +kernel
def t_X5_same : List (Nat × Instr × Nat) := [(0, .aload_n 0, 1), (1, .iload_n 1, 1), (2, .iload_n 2, 1), (3, .invokevirtual 162, 3), (6, .ifCond .ne 38, 3), (9, .aload_n 0, 1), (10, .iload_n 3, 1), (11, .iconst 0, 1), (12, .iconst 1, 1), (13, .invokestatic 40, 3), (16, .ifCond .ne 7, 3), (19, .iconst 1, 1), (20, .goto 4, 3), (23, .iconst 0, 1), (24, .iconst 2, 1), (25, .invokevirtual 36, 3), (28, .ifCond .ne 16, 3), (31, .aload_n 0, 1), (32, .iload_n 1, 1), (33, .iload_n 2, 1), (34, .invokevirtual 104, 3), (37, .ifCond .ne 7, 3), (40, .iconst 1, 1), (41, .goto 4, 3), (44, .iconst 0, 1), (45, .ireturn, 1)]
set_option maxRecDepth 100000 in
theorem T_X5_same : ∀ e ∈ t_X5_same, decode cX5_same e.1 = .ok e.2 := by decide +kernel
def t_X5_side : List (Nat × Instr × Nat) := [(0, .aload_n 0, 1), (1, .iload_n 1, 1), (2, .iload_n 2, 1), (3, .invokevirtual 162, 3), (6, .ifCond .eq 7, 3), (9, .iconst 0, 1), (10, .goto 9, 3), (13, .aload_n 0, 1), (14, .iload_n 1, 1), (15, .iload_n 2, 1), (16, .invokevirtual 169, 3), (19, .ireturn, 1)]
set_option maxRecDepth 100000 in
theorem T_X5_side : ∀ e ∈ t_X5_side, decode cX5_side e.1 = .ok e.2 := by decide +kernel
def t_X5_eighth : List (Nat × Instr × Nat) := [(0, .aload_n 0, 1), (1, .iload_n 1, 1), (2, .invokestatic 132, 3), (5, .iconst 1, 1), (6, .invokevirtual 135, 3), (9, .ifCond .eq 7, 3), (12, .iconst 0, 1), (13, .goto 8, 3), (16, .aload_n 0, 1), (17, .iload_n 1, 1), (18, .invokevirtual 172, 3), (21, .ireturn, 1)]
set_option maxRecDepth 100000 in
theorem T_X5_eighth : ∀ e ∈ t_X5_eighth, decode cX5_eighth e.1 = .ok e.2 := by decide +kernel
def t_X5_rule : List (Nat × Instr × Nat) := [(0, .aload_n 0, 1), (1, .iload_n 1, 1), (2, .invokestatic 132, 3), (5, .iconst 1, 1), (6, .invokevirtual 135, 3), (9, .ifCond .ne 26, 3), (12, .aload_n 0, 1), (13, .iload_n 2, 1), (14, .iconst 0, 1), (15, .bipush 7, 2), (17, .invokestatic 40, 3), (20, .ifCond .ne 7, 3), (23, .iconst 1, 1), (24, .goto 4, 3), (27, .iconst 0, 1), (28, .iconst 2, 1), (29, .invokevirtual 36, 3), (32, .ifCond .eq 5, 3), (35, .iconst 0, 1), (36, .ireturn, 1), (37, .aload_n 0, 1), (38, .iload_n 1, 1), (39, .invokevirtual 108, 3), (42, .ifCond .eq 17, 3), (45, .iload_n 2, 1), (46, .iconst 2, 1), (47, .iconst 5, 1), (48, .invokestatic 40, 3), (51, .ifCond .eq 8, 3), (54, .bipush (-9), 2), (56, .goto 4, 3), (59, .iconst 1, 1), (60, .ireturn, 1)]
set_option maxRecDepth 100000 in
theorem T_X5_rule : ∀ e ∈ t_X5_rule, decode cX5_rule e.1 = .ok e.2 := by decide +kernel
def t_X5_found : List (Nat × Instr × Nat) := [(0, .iload_n 2, 1), (1, .ifCond .eq 8, 3), (4, .bipush 7, 2), (6, .goto 4, 3), (9, .iconst 0, 1), (10, .istore_n 3, 1), (11, .aload_n 0, 1), (12, .iload_n 3, 1), (13, .iload_n 1, 1), (14, .invokevirtual 104, 3), (17, .ifCond .eq 18, 3), (20, .iload_n 3, 1), (21, .iload_n 2, 1), (22, .ifCond .eq 7, 3), (25, .iconst (-1), 1), (26, .goto 4, 3), (29, .iconst 1, 1), (30, .iadd, 1), (31, .istore_n 3, 1), (32, .goto (-21), 3), (35, .iload_n 3, 1), (36, .ireturn, 1)]
set_option maxRecDepth 100000 in
theorem T_X5_found : ∀ e ∈ t_X5_found, decode cX5_found e.1 = .ok e.2 := by decide +kernel
def t_X5_find : List (Nat × Instr × Nat) := [(0, .aload_n 0, 1), (1, .iload_n 1, 1), (2, .invokestatic 132, 3), (5, .iconst 1, 1), (6, .invokevirtual 135, 3), (9, .ifCond .eq 7, 3), (12, .iconst 0, 1), (13, .goto 9, 3), (16, .aload_n 0, 1), (17, .iload_n 1, 1), (18, .iload_n 2, 1), (19, .invokevirtual 175, 3), (22, .ireturn, 1)]
set_option maxRecDepth 100000 in
theorem T_X5_find : ∀ e ∈ t_X5_find, decode cX5_find e.1 = .ok e.2 := by decide +kernel
def t_X5_at : List (Nat × Instr × Nat) := [(0, .iconst 0, 1), (1, .istore_n 3, 1), (2, .iload_n 3, 1), (3, .aload_n 0, 1), (4, .getfield 44, 3), (7, .if_icmp .ge 31, 3), (10, .aload_n 0, 1), (11, .getfield 23, 3), (14, .iload_n 3, 1), (15, .iaload, 1), (16, .iload_n 1, 1), (17, .if_icmp .ne 15, 3), (20, .aload_n 0, 1), (21, .getfield 26, 3), (24, .iload_n 3, 1), (25, .iaload, 1), (26, .iload_n 2, 1), (27, .if_icmp .ne 5, 3), (30, .iload_n 3, 1), (31, .ireturn, 1), (32, .iinc 3 1, 3), (35, .goto (-33), 3), (38, .bipush (-9), 2), (40, .ireturn, 1)]
set_option maxRecDepth 100000 in
theorem T_X5_at : ∀ e ∈ t_X5_at, decode cX5_at e.1 = .ok e.2 := by decide +kernel
def t_X5_addPlace : List (Nat × Instr × Nat) := [(0, .aload_n 0, 1), (1, .iload_n 1, 1), (2, .iload_n 2, 1), (3, .invokestatic 179, 3), (6, .iconst 1, 1), (7, .invokevirtual 135, 3), (10, .ifCond .eq 5, 3), (13, .iconst 0, 1), (14, .ireturn, 1), (15, .aload_n 0, 1), (16, .getfield 44, 3), (19, .bipush 12, 2), (21, .if_icmp .eq 14, 3), (24, .aload_n 0, 1), (25, .iload_n 1, 1), (26, .iload_n 2, 1), (27, .invokevirtual 182, 3), (30, .bipush (-9), 2), (32, .if_icmp .eq 8, 3), (35, .aload_n 0, 1), (36, .invokevirtual 142, 3), (39, .ireturn, 1), (40, .aload_n 0, 1), (41, .getfield 23, 3), (44, .aload_n 0, 1), (45, .getfield 44, 3), (48, .iload_n 1, 1), (49, .iastore, 1), (50, .aload_n 0, 1), (51, .getfield 26, 3), (54, .aload_n 0, 1), (55, .getfield 44, 3), (58, .iload_n 2, 1), (59, .iastore, 1), (60, .aload_n 0, 1), (61, .dup, 1), (62, .getfield 44, 3), (65, .iconst 1, 1), (66, .iadd, 1), (67, .putfield 44, 3), (70, .aload_n 0, 1), (71, .getfield 29, 3), (74, .iconst 1, 1), (75, .dup2, 1), (76, .iaload, 1), (77, .iconst 1, 1), (78, .iadd, 1), (79, .iastore, 1), (80, .aload_n 0, 1), (81, .getfield 44, 3), (84, .iconst 1, 1), (85, .isub, 1), (86, .ireturn, 1)]
set_option maxRecDepth 100000 in
theorem T_X5_addPlace : ∀ e ∈ t_X5_addPlace, decode cX5_addPlace e.1 = .ok e.2 := by decide +kernel
def t_X5_removePlace : List (Nat × Instr × Nat) := [(0, .aload_n 0, 1), (1, .aload_n 0, 1), (2, .iload_n 1, 1), (3, .invokevirtual 149, 3), (6, .iconst 1, 1), (7, .invokevirtual 135, 3), (10, .ifCond .eq 5, 3), (13, .iconst 0, 1), (14, .ireturn, 1), (15, .aload_n 0, 1), (16, .dup, 1), (17, .getfield 44, 3), (20, .iconst 1, 1), (21, .isub, 1), (22, .putfield 44, 3), (25, .iload_n 1, 1), (26, .istore_n 2, 1), (27, .iload_n 2, 1), (28, .aload_n 0, 1), (29, .getfield 44, 3), (32, .if_icmp .ge 37, 3), (35, .aload_n 0, 1), (36, .getfield 23, 3), (39, .iload_n 2, 1), (40, .aload_n 0, 1), (41, .getfield 23, 3), (44, .iload_n 2, 1), (45, .iconst 1, 1), (46, .iadd, 1), (47, .iaload, 1), (48, .iastore, 1), (49, .aload_n 0, 1), (50, .getfield 26, 3), (53, .iload_n 2, 1), (54, .aload_n 0, 1), (55, .getfield 26, 3), (58, .iload_n 2, 1), (59, .iconst 1, 1), (60, .iadd, 1), (61, .iaload, 1), (62, .iastore, 1), (63, .iinc 2 1, 3), (66, .goto (-39), 3), (69, .aload_n 0, 1), (70, .getfield 29, 3), (73, .iconst 1, 1), (74, .dup2, 1), (75, .iaload, 1), (76, .iconst 1, 1), (77, .iadd, 1), (78, .iastore, 1), (79, .aload_n 0, 1), (80, .getfield 44, 3), (83, .ireturn, 1)]
set_option maxRecDepth 100000 in
theorem T_X5_removePlace : ∀ e ∈ t_X5_removePlace, decode cX5_removePlace e.1 = .ok e.2 := by decide +kernel
def t_X5_movePlace : List (Nat × Instr × Nat) := [(0, .aload_n 0, 1), (1, .aload_n 0, 1), (2, .iload_n 1, 1), (3, .invokevirtual 149, 3), (6, .iconst 1, 1), (7, .invokevirtual 135, 3), (10, .ifCond .ne 16, 3), (13, .aload_n 0, 1), (14, .iload_n 2, 1), (15, .iload_n 3, 1), (16, .invokestatic 179, 3), (19, .iconst 2, 1), (20, .invokevirtual 36, 3), (23, .ifCond .eq 5, 3), (26, .iconst 0, 1), (27, .ireturn, 1), (28, .aload_n 0, 1), (29, .iload_n 2, 1), (30, .iload_n 3, 1), (31, .invokevirtual 182, 3), (34, .istore 4, 2), (36, .iload 4, 2), (38, .bipush (-9), 2), (40, .if_icmp .eq 14, 3), (43, .iload 4, 2), (45, .iload_n 1, 1), (46, .if_icmp .eq 8, 3), (49, .aload_n 0, 1), (50, .invokevirtual 142, 3), (53, .ireturn, 1), (54, .aload_n 0, 1), (55, .getfield 23, 3), (58, .iload_n 1, 1), (59, .iload_n 2, 1), (60, .iastore, 1), (61, .aload_n 0, 1), (62, .getfield 26, 3), (65, .iload_n 1, 1), (66, .iload_n 3, 1), (67, .iastore, 1), (68, .aload_n 0, 1), (69, .getfield 29, 3), (72, .iconst 1, 1), (73, .dup2, 1), (74, .iaload, 1), (75, .iconst 1, 1), (76, .iadd, 1), (77, .iastore, 1), (78, .iload 4, 2), (80, .bipush (-9), 2), (82, .if_icmp .ne 7, 3), (85, .iconst 1, 1), (86, .goto 4, 3), (89, .iconst 0, 1), (90, .invokestatic 47, 3), (93, .ireturn, 1)]
set_option maxRecDepth 100000 in
theorem T_X5_movePlace : ∀ e ∈ t_X5_movePlace, decode cX5_movePlace e.1 = .ok e.2 := by decide +kernel
def t_X5_centre : List (Nat × Instr × Nat) := [(0, .aload_n 0, 1), (1, .iload_n 1, 1), (2, .iload_n 2, 1), (3, .invokestatic 179, 3), (6, .iconst 1, 1), (7, .invokevirtual 135, 3), (10, .ifCond .eq 5, 3), (13, .iconst 0, 1), (14, .ireturn, 1), (15, .aload_n 0, 1), (16, .getfield 185, 3), (19, .iload_n 1, 1), (20, .if_icmp .ne 11, 3), (23, .aload_n 0, 1), (24, .getfield 188, 3), (27, .iload_n 2, 1), (28, .if_icmp .eq 7, 3), (31, .iconst 1, 1), (32, .goto 4, 3), (35, .iconst 0, 1), (36, .invokestatic 47, 3), (39, .istore_n 3, 1), (40, .aload_n 0, 1), (41, .iload_n 1, 1), (42, .putfield 185, 3), (45, .aload_n 0, 1), (46, .iload_n 2, 1), (47, .putfield 188, 3), (50, .aload_n 0, 1), (51, .getfield 29, 3), (54, .iconst 1, 1), (55, .dup2, 1), (56, .iaload, 1), (57, .iconst 1, 1), (58, .iadd, 1), (59, .iastore, 1), (60, .iload_n 3, 1), (61, .ireturn, 1)]
set_option maxRecDepth 100000 in
theorem T_X5_centre : ∀ e ∈ t_X5_centre, decode cX5_centre e.1 = .ok e.2 := by decide +kernel
def t_X5_turnPlaces : List (Nat × Instr × Nat) := [(0, .aload_n 0, 1), (1, .iconst 0, 1), (2, .putfield 32, 3), (5, .iconst 0, 1), (6, .istore_n 1, 1), (7, .iload_n 1, 1), (8, .aload_n 0, 1), (9, .getfield 44, 3), (12, .if_icmp .ge 37, 3), (15, .aload_n 0, 1), (16, .getfield 23, 3), (19, .iload_n 1, 1), (20, .iaload, 1), (21, .istore_n 2, 1), (22, .aload_n 0, 1), (23, .getfield 23, 3), (26, .iload_n 1, 1), (27, .iconst (-1), 1), (28, .aload_n 0, 1), (29, .getfield 26, 3), (32, .iload_n 1, 1), (33, .iaload, 1), (34, .isub, 1), (35, .iastore, 1), (36, .aload_n 0, 1), (37, .getfield 26, 3), (40, .iload_n 1, 1), (41, .iload_n 2, 1), (42, .iastore, 1), (43, .iinc 1 1, 3), (46, .goto (-39), 3), (49, .aload_n 0, 1), (50, .getfield 185, 3), (53, .istore_n 1, 1), (54, .aload_n 0, 1), (55, .iconst (-1), 1), (56, .aload_n 0, 1), (57, .getfield 188, 3), (60, .isub, 1), (61, .putfield 185, 3), (64, .aload_n 0, 1), (65, .iload_n 1, 1), (66, .putfield 188, 3), (69, .aload_n 0, 1), (70, .getfield 29, 3), (73, .iconst 1, 1), (74, .dup2, 1), (75, .iaload, 1), (76, .iconst 1, 1), (77, .iadd, 1), (78, .iastore, 1), (79, .aload_n 0, 1), (80, .aload_n 0, 1), (81, .invokevirtual 191, 3), (84, .invokevirtual 195, 3), (87, .ireturn, 1)]
set_option maxRecDepth 100000 in
theorem T_X5_turnPlaces : ∀ e ∈ t_X5_turnPlaces, decode cX5_turnPlaces e.1 = .ok e.2 := by decide +kernel
def t_X5_mirrorPlaces : List (Nat × Instr × Nat) := [(0, .aload_n 0, 1), (1, .iconst 0, 1), (2, .putfield 32, 3), (5, .iconst 0, 1), (6, .istore_n 1, 1), (7, .iload_n 1, 1), (8, .aload_n 0, 1), (9, .getfield 44, 3), (12, .if_icmp .ge 23, 3), (15, .aload_n 0, 1), (16, .getfield 23, 3), (19, .iload_n 1, 1), (20, .iconst (-1), 1), (21, .aload_n 0, 1), (22, .getfield 23, 3), (25, .iload_n 1, 1), (26, .iaload, 1), (27, .isub, 1), (28, .iastore, 1), (29, .iinc 1 1, 3), (32, .goto (-25), 3), (35, .aload_n 0, 1), (36, .iconst (-1), 1), (37, .aload_n 0, 1), (38, .getfield 185, 3), (41, .isub, 1), (42, .putfield 185, 3), (45, .aload_n 0, 1), (46, .getfield 29, 3), (49, .iconst 1, 1), (50, .dup2, 1), (51, .iaload, 1), (52, .iconst 1, 1), (53, .iadd, 1), (54, .iastore, 1), (55, .aload_n 0, 1), (56, .aload_n 0, 1), (57, .invokevirtual 191, 3), (60, .invokevirtual 195, 3), (63, .ireturn, 1)]
set_option maxRecDepth 100000 in
theorem T_X5_mirrorPlaces : ∀ e ∈ t_X5_mirrorPlaces, decode cX5_mirrorPlaces e.1 = .ok e.2 := by decide +kernel
def t_X5_places : List (Nat × Instr × Nat) := [(0, .aload_n 0, 1), (1, .iconst 0, 1), (2, .putfield 32, 3), (5, .aload_n 0, 1), (6, .getfield 44, 3), (9, .ireturn, 1)]
set_option maxRecDepth 100000 in
theorem T_X5_places : ∀ e ∈ t_X5_places, decode cX5_places e.1 = .ok e.2 := by decide +kernel
def t_X5_place : List (Nat × Instr × Nat) := [(0, .aload_n 0, 1), (1, .aload_n 0, 1), (2, .iload_n 1, 1), (3, .invokevirtual 149, 3), (6, .iconst 1, 1), (7, .invokevirtual 135, 3), (10, .ifCond .eq 7, 3), (13, .iconst 0, 1), (14, .goto 22, 3), (17, .iload_n 2, 1), (18, .ifCond .eq 12, 3), (21, .aload_n 0, 1), (22, .getfield 26, 3), (25, .iload_n 1, 1), (26, .iaload, 1), (27, .goto 9, 3), (30, .aload_n 0, 1), (31, .getfield 23, 3), (34, .iload_n 1, 1), (35, .iaload, 1), (36, .ireturn, 1)]
set_option maxRecDepth 100000 in
theorem T_X5_place : ∀ e ∈ t_X5_place, decode cX5_place e.1 = .ok e.2 := by decide +kernel
def t_X5_centreAt : List (Nat × Instr × Nat) := [(0, .aload_n 0, 1), (1, .iconst 0, 1), (2, .putfield 32, 3), (5, .iload_n 1, 1), (6, .ifCond .eq 10, 3), (9, .aload_n 0, 1), (10, .getfield 188, 3), (13, .goto 7, 3), (16, .aload_n 0, 1), (17, .getfield 185, 3), (20, .ireturn, 1)]
set_option maxRecDepth 100000 in
theorem T_X5_centreAt : ∀ e ∈ t_X5_centreAt, decode cX5_centreAt e.1 = .ok e.2 := by decide +kernel
def t_X5_bearing : List (Nat × Instr × Nat) := [(0, .aload_n 0, 1), (1, .aload_n 0, 1), (2, .iload_n 1, 1), (3, .invokevirtual 149, 3), (6, .ifCond .ne 11, 3), (9, .aload_n 0, 1), (10, .iload_n 2, 1), (11, .invokevirtual 149, 3), (14, .ifCond .eq 7, 3), (17, .iconst 1, 1), (18, .goto 4, 3), (21, .iconst 0, 1), (22, .iconst 1, 1), (23, .invokevirtual 135, 3), (26, .ifCond .ne 26, 3), (29, .aload_n 0, 1), (30, .iload_n 3, 1), (31, .iconst 0, 1), (32, .bipush 29, 2), (34, .invokestatic 40, 3), (37, .ifCond .ne 7, 3), (40, .iconst 1, 1), (41, .goto 4, 3), (44, .iconst 0, 1), (45, .iconst 2, 1), (46, .invokevirtual 36, 3), (49, .ifCond .eq 5, 3), (52, .iconst 0, 1), (53, .ireturn, 1), (54, .aload_n 0, 1), (55, .getfield 26, 3), (58, .iload_n 2, 1), (59, .iaload, 1), (60, .aload_n 0, 1), (61, .getfield 26, 3), (64, .iload_n 1, 1), (65, .iaload, 1), (66, .isub, 1), (67, .istore 4, 2), (69, .iload_n 1, 1), (70, .iload_n 2, 1), (71, .if_icmp .ne 8, 3), (74, .bipush (-9), 2), (76, .goto 39, 3), (79, .aload_n 0, 1), (80, .getfield 23, 3), (83, .iload_n 2, 1), (84, .iaload, 1), (85, .aload_n 0, 1), (86, .getfield 23, 3), (89, .iload_n 1, 1), (90, .iaload, 1), (91, .isub, 1), (92, .iload 4, 2), (94, .iconst 0, 1), (95, .invokestatic 128, 3), (98, .iload 4, 2), (100, .ifCond .ge 7, 3), (103, .iconst 1, 1), (104, .goto 4, 3), (107, .iconst 0, 1), (108, .invokestatic 47, 3), (111, .iload_n 3, 1), (112, .invokestatic 158, 3), (115, .ireturn, 1)]
set_option maxRecDepth 100000 in
theorem T_X5_bearing : ∀ e ∈ t_X5_bearing, decode cX5_bearing e.1 = .ok e.2 := by decide +kernel
def t_X5_bearingOrder : List (Nat × Instr × Nat) := [(0, .aload_n 0, 1), (1, .aload_n 0, 1), (2, .iload_n 1, 1), (3, .invokevirtual 149, 3), (6, .ifCond .ne 19, 3), (9, .aload_n 0, 1), (10, .iload_n 2, 1), (11, .invokevirtual 149, 3), (14, .ifCond .ne 11, 3), (17, .aload_n 0, 1), (18, .iload_n 3, 1), (19, .invokevirtual 149, 3), (22, .ifCond .eq 7, 3), (25, .iconst 1, 1), (26, .goto 4, 3), (29, .iconst 0, 1), (30, .iconst 1, 1), (31, .invokevirtual 135, 3), (34, .ifCond .eq 5, 3), (37, .iconst 0, 1), (38, .ireturn, 1), (39, .iload_n 2, 1), (40, .iload_n 1, 1), (41, .if_icmp .eq 8, 3), (44, .iload_n 3, 1), (45, .iload_n 1, 1), (46, .if_icmp .ne 8, 3), (49, .bipush (-9), 2), (51, .goto 58, 3), (54, .aload_n 0, 1), (55, .getfield 23, 3), (58, .iload_n 2, 1), (59, .iaload, 1), (60, .aload_n 0, 1), (61, .getfield 23, 3), (64, .iload_n 1, 1), (65, .iaload, 1), (66, .isub, 1), (67, .aload_n 0, 1), (68, .getfield 26, 3), (71, .iload_n 2, 1), (72, .iaload, 1), (73, .aload_n 0, 1), (74, .getfield 26, 3), (77, .iload_n 1, 1), (78, .iaload, 1), (79, .isub, 1), (80, .aload_n 0, 1), (81, .getfield 23, 3), (84, .iload_n 3, 1), (85, .iaload, 1), (86, .aload_n 0, 1), (87, .getfield 23, 3), (90, .iload_n 1, 1), (91, .iaload, 1), (92, .isub, 1), (93, .aload_n 0, 1), (94, .getfield 26, 3), (97, .iload_n 3, 1), (98, .iaload, 1), (99, .aload_n 0, 1), (100, .getfield 26, 3), (103, .iload_n 1, 1), (104, .iaload, 1), (105, .isub, 1), (106, .invokestatic 199, 3), (109, .ireturn, 1)]
set_option maxRecDepth 100000 in
theorem T_X5_bearingOrder : ∀ e ∈ t_X5_bearingOrder, decode cX5_bearingOrder e.1 = .ok e.2 := by decide +kernel
def t_X5_left : List (Nat × Instr × Nat) := [(0, .aload_n 0, 1), (1, .aload_n 0, 1), (2, .iload_n 1, 1), (3, .invokevirtual 149, 3), (6, .ifCond .ne 19, 3), (9, .aload_n 0, 1), (10, .iload_n 2, 1), (11, .invokevirtual 149, 3), (14, .ifCond .ne 11, 3), (17, .aload_n 0, 1), (18, .iload_n 3, 1), (19, .invokevirtual 149, 3), (22, .ifCond .eq 7, 3), (25, .iconst 1, 1), (26, .goto 4, 3), (29, .iconst 0, 1), (30, .iconst 1, 1), (31, .invokevirtual 135, 3), (34, .ifCond .eq 5, 3), (37, .iconst 0, 1), (38, .ireturn, 1), (39, .iload_n 2, 1), (40, .iload_n 1, 1), (41, .if_icmp .eq 8, 3), (44, .iload_n 3, 1), (45, .iload_n 1, 1), (46, .if_icmp .ne 8, 3), (49, .bipush (-9), 2), (51, .goto 13, 3), (54, .aload_n 0, 1), (55, .iload_n 1, 1), (56, .iload_n 2, 1), (57, .iload_n 3, 1), (58, .invokevirtual 202, 3), (61, .invokestatic 111, 3), (64, .ireturn, 1)]
set_option maxRecDepth 100000 in
theorem T_X5_left : ∀ e ∈ t_X5_left, decode cX5_left e.1 = .ok e.2 := by decide +kernel
def t_X5_isOut : List (Nat × Instr × Nat) := [(0, .aload_n 0, 1), (1, .getfield 23, 3), (4, .iload_n 1, 1), (5, .iaload, 1), (6, .aload_n 0, 1), (7, .getfield 185, 3), (10, .if_icmp .ne 16, 3), (13, .aload_n 0, 1), (14, .getfield 26, 3), (17, .iload_n 1, 1), (18, .iaload, 1), (19, .aload_n 0, 1), (20, .getfield 188, 3), (23, .if_icmp .eq 7, 3), (26, .iconst 1, 1), (27, .goto 4, 3), (30, .iconst 0, 1), (31, .ireturn, 1)]
set_option maxRecDepth 100000 in
theorem T_X5_isOut : ∀ e ∈ t_X5_isOut, decode cX5_isOut e.1 = .ok e.2 := by decide +kernel
def t_X5_outs : List (Nat × Instr × Nat) := [(0, .iconst 0, 1), (1, .istore_n 1, 1), (2, .iconst 0, 1), (3, .istore_n 2, 1), (4, .iload_n 2, 1), (5, .aload_n 0, 1), (6, .getfield 44, 3), (9, .if_icmp .ge 20, 3), (12, .iload_n 1, 1), (13, .aload_n 0, 1), (14, .iload_n 2, 1), (15, .invokevirtual 205, 3), (18, .invokestatic 47, 3), (21, .iadd, 1), (22, .istore_n 1, 1), (23, .iinc 2 1, 3), (26, .goto (-22), 3), (29, .iload_n 1, 1), (30, .ireturn, 1)]
set_option maxRecDepth 100000 in
theorem T_X5_outs : ∀ e ∈ t_X5_outs, decode cX5_outs e.1 = .ok e.2 := by decide +kernel
def t_X5_outOrder : List (Nat × Instr × Nat) := [(0, .aload_n 0, 1), (1, .getfield 23, 3), (4, .iload_n 1, 1), (5, .iaload, 1), (6, .aload_n 0, 1), (7, .getfield 185, 3), (10, .isub, 1), (11, .aload_n 0, 1), (12, .getfield 26, 3), (15, .iload_n 1, 1), (16, .iaload, 1), (17, .aload_n 0, 1), (18, .getfield 188, 3), (21, .isub, 1), (22, .aload_n 0, 1), (23, .getfield 23, 3), (26, .iload_n 2, 1), (27, .iaload, 1), (28, .aload_n 0, 1), (29, .getfield 185, 3), (32, .isub, 1), (33, .aload_n 0, 1), (34, .getfield 26, 3), (37, .iload_n 2, 1), (38, .iaload, 1), (39, .aload_n 0, 1), (40, .getfield 188, 3), (43, .isub, 1), (44, .invokestatic 199, 3), (47, .ireturn, 1)]
set_option maxRecDepth 100000 in
theorem T_X5_outOrder : ∀ e ∈ t_X5_outOrder, decode cX5_outOrder e.1 = .ok e.2 := by decide +kernel
def t_X5_outCross : List (Nat × Instr × Nat) := [(0, .aload_n 0, 1), (1, .getfield 23, 3), (4, .iload_n 1, 1), (5, .iaload, 1), (6, .aload_n 0, 1), (7, .getfield 185, 3), (10, .isub, 1), (11, .aload_n 0, 1), (12, .getfield 26, 3), (15, .iload_n 1, 1), (16, .iaload, 1), (17, .aload_n 0, 1), (18, .getfield 188, 3), (21, .isub, 1), (22, .aload_n 0, 1), (23, .getfield 23, 3), (26, .iload_n 2, 1), (27, .iaload, 1), (28, .aload_n 0, 1), (29, .getfield 185, 3), (32, .isub, 1), (33, .aload_n 0, 1), (34, .getfield 26, 3), (37, .iload_n 2, 1), (38, .iaload, 1), (39, .aload_n 0, 1), (40, .getfield 188, 3), (43, .isub, 1), (44, .invokestatic 51, 3), (47, .ireturn, 1)]
set_option maxRecDepth 100000 in
theorem T_X5_outCross : ∀ e ∈ t_X5_outCross, decode cX5_outCross e.1 = .ok e.2 := by decide +kernel
def t_X5_far : List (Nat × Instr × Nat) := [(0, .aload_n 0, 1), (1, .getfield 23, 3), (4, .iload_n 1, 1), (5, .iaload, 1), (6, .aload_n 0, 1), (7, .getfield 185, 3), (10, .isub, 1), (11, .aload_n 0, 1), (12, .getfield 23, 3), (15, .iload_n 1, 1), (16, .iaload, 1), (17, .aload_n 0, 1), (18, .getfield 185, 3), (21, .isub, 1), (22, .imul, 1), (23, .aload_n 0, 1), (24, .getfield 26, 3), (27, .iload_n 1, 1), (28, .iaload, 1), (29, .aload_n 0, 1), (30, .getfield 188, 3), (33, .isub, 1), (34, .aload_n 0, 1), (35, .getfield 26, 3), (38, .iload_n 1, 1), (39, .iaload, 1), (40, .aload_n 0, 1), (41, .getfield 188, 3), (44, .isub, 1), (45, .imul, 1), (46, .iadd, 1), (47, .ireturn, 1)]
set_option maxRecDepth 100000 in
theorem T_X5_far : ∀ e ∈ t_X5_far, decode cX5_far e.1 = .ok e.2 := by decide +kernel
def t_X5_round : List (Nat × Instr × Nat) := [(0, .aload_n 0, 1), (1, .invokevirtual 208, 3), (4, .newarray .int, 2), (6, .astore_n 1, 1), (7, .iconst 0, 1), (8, .istore_n 2, 1), (9, .iload_n 2, 1), (10, .aload_n 0, 1), (11, .getfield 44, 3), (14, .if_icmp .ge 106, 3), (17, .aload_n 0, 1), (18, .iload_n 2, 1), (19, .invokevirtual 205, 3), (22, .ifCond .ne 6, 3), (25, .goto 89, 3), (28, .iconst 0, 1), (29, .istore_n 3, 1), (30, .iconst 0, 1), (31, .istore 4, 2), (33, .iload 4, 2), (35, .aload_n 0, 1), (36, .getfield 44, 3), (39, .if_icmp .ge 71, 3), (42, .iload 4, 2), (44, .iload_n 2, 1), (45, .if_icmp .eq 59, 3), (48, .aload_n 0, 1), (49, .iload 4, 2), (51, .invokevirtual 205, 3), (54, .ifCond .ne 6, 3), (57, .goto 47, 3), (60, .aload_n 0, 1), (61, .iload 4, 2), (63, .iload_n 2, 1), (64, .invokevirtual 211, 3), (67, .istore 5, 2), (69, .iload_n 3, 1), (70, .iload 5, 2), (72, .ifCond .lt 22, 3), (75, .iload 5, 2), (77, .ifCond .ne 21, 3), (80, .aload_n 0, 1), (81, .iload 4, 2), (83, .invokevirtual 214, 3), (86, .aload_n 0, 1), (87, .iload_n 2, 1), (88, .invokevirtual 214, 3), (91, .if_icmp .ge 7, 3), (94, .iconst 1, 1), (95, .goto 4, 3), (98, .iconst 0, 1), (99, .invokestatic 47, 3), (102, .iadd, 1), (103, .istore_n 3, 1), (104, .iinc 4 1, 3), (107, .goto (-74), 3), (110, .aload_n 1, 1), (111, .iload_n 3, 1), (112, .iload_n 2, 1), (113, .iastore, 1), (114, .iinc 2 1, 3), (117, .goto (-108), 3), (120, .aload_n 1, 1), (121, .areturn, 1)]
set_option maxRecDepth 100000 in
theorem T_X5_round : ∀ e ∈ t_X5_round, decode cX5_round e.1 = .ok e.2 := by decide +kernel
def t_X5_text : List (Nat × Instr × Nat) := [(0, .new 217, 3), (3, .dup, 1), (4, .invokespecial 219, 3), (7, .astore_n 1, 1), (8, .iconst 0, 1), (9, .istore_n 2, 1), (10, .iload_n 2, 1), (11, .aload_n 0, 1), (12, .arraylength, 1), (13, .if_icmp .ge 31, 3), (16, .aload_n 1, 1), (17, .iload_n 2, 1), (18, .ifCond .ne 8, 3), (21, .ldc 220, 2), (23, .goto 5, 3), (26, .ldc 222, 2), (28, .invokevirtual 224, 3), (31, .aload_n 0, 1), (32, .iload_n 2, 1), (33, .iaload, 1), (34, .invokevirtual 228, 3), (37, .pop, 1), (38, .iinc 2 1, 3), (41, .goto (-31), 3), (44, .aload_n 1, 1), (45, .invokevirtual 231, 3), (48, .areturn, 1)]
set_option maxRecDepth 100000 in
theorem T_X5_text : ∀ e ∈ t_X5_text, decode cX5_text e.1 = .ok e.2 := by decide +kernel
def t_X5_roundCount : List (Nat × Instr × Nat) := [(0, .aload_n 0, 1), (1, .iconst 0, 1), (2, .putfield 32, 3), (5, .aload_n 0, 1), (6, .invokevirtual 208, 3), (9, .ireturn, 1)]
set_option maxRecDepth 100000 in
theorem T_X5_roundCount : ∀ e ∈ t_X5_roundCount, decode cX5_roundCount e.1 = .ok e.2 := by decide +kernel
def t_X5_roundText : List (Nat × Instr × Nat) := [(0, .aload_n 0, 1), (1, .iconst 0, 1), (2, .putfield 32, 3), (5, .aload_n 0, 1), (6, .invokevirtual 235, 3), (9, .invokestatic 238, 3), (12, .areturn, 1)]
set_option maxRecDepth 100000 in
theorem T_X5_roundText : ∀ e ∈ t_X5_roundText, decode cX5_roundText e.1 = .ok e.2 := by decide +kernel
def t_X5_isStarred : List (Nat × Instr × Nat) := [(0, .iconst 0, 1), (1, .istore_n 2, 1), (2, .iconst 0, 1), (3, .istore_n 3, 1), (4, .iload_n 3, 1), (5, .aload_n 1, 1), (6, .arraylength, 1), (7, .if_icmp .ge 50, 3), (10, .aload_n 1, 1), (11, .iload_n 3, 1), (12, .iconst 1, 1), (13, .iadd, 1), (14, .aload_n 1, 1), (15, .arraylength, 1), (16, .irem, 1), (17, .iaload, 1), (18, .istore 4, 2), (20, .aload_n 0, 1), (21, .aload_n 1, 1), (22, .iload_n 3, 1), (23, .iaload, 1), (24, .iload 4, 2), (26, .invokevirtual 211, 3), (29, .ifCond .ne 6, 3), (32, .goto 19, 3), (35, .iconst 1, 1), (36, .istore_n 2, 1), (37, .aload_n 0, 1), (38, .aload_n 1, 1), (39, .iload_n 3, 1), (40, .iaload, 1), (41, .iload 4, 2), (43, .invokevirtual 242, 3), (46, .ifCond .gt 5, 3), (49, .iconst 0, 1), (50, .ireturn, 1), (51, .iinc 3 1, 3), (54, .goto (-50), 3), (57, .iload_n 2, 1), (58, .ireturn, 1)]
set_option maxRecDepth 100000 in
theorem T_X5_isStarred : ∀ e ∈ t_X5_isStarred, decode cX5_isStarred e.1 = .ok e.2 := by decide +kernel
def t_X5_isStar : List (Nat × Instr × Nat) := [(0, .aload_n 0, 1), (1, .iconst 0, 1), (2, .putfield 32, 3), (5, .aload_n 0, 1), (6, .aload_n 0, 1), (7, .invokevirtual 235, 3), (10, .invokevirtual 245, 3), (13, .ireturn, 1)]
set_option maxRecDepth 100000 in
theorem T_X5_isStar : ∀ e ∈ t_X5_isStar, decode cX5_isStar e.1 = .ok e.2 := by decide +kernel
def t_X5_swept : List (Nat × Instr × Nat) := [(0, .iconst 0, 1), (1, .istore_n 2, 1), (2, .iconst 0, 1), (3, .istore_n 3, 1), (4, .iload_n 3, 1), (5, .aload_n 1, 1), (6, .arraylength, 1), (7, .if_icmp .ge 27, 3), (10, .iload_n 2, 1), (11, .aload_n 0, 1), (12, .aload_n 1, 1), (13, .iload_n 3, 1), (14, .iaload, 1), (15, .aload_n 1, 1), (16, .iload_n 3, 1), (17, .iconst 1, 1), (18, .iadd, 1), (19, .aload_n 1, 1), (20, .arraylength, 1), (21, .irem, 1), (22, .iaload, 1), (23, .invokevirtual 242, 3), (26, .iadd, 1), (27, .istore_n 2, 1), (28, .iinc 3 1, 3), (31, .goto (-27), 3), (34, .iload_n 2, 1), (35, .ireturn, 1)]
set_option maxRecDepth 100000 in
theorem T_X5_swept : ∀ e ∈ t_X5_swept, decode cX5_swept e.1 = .ok e.2 := by decide +kernel
def t_X5_starArea : List (Nat × Instr × Nat) := [(0, .aload_n 0, 1), (1, .iconst 0, 1), (2, .putfield 32, 3), (5, .aload_n 0, 1), (6, .aload_n 0, 1), (7, .invokevirtual 235, 3), (10, .invokevirtual 249, 3), (13, .ireturn, 1)]
set_option maxRecDepth 100000 in
theorem T_X5_starArea : ∀ e ∈ t_X5_starArea, decode cX5_starArea e.1 = .ok e.2 := by decide +kernel
def t_X5_turn : List (Nat × Instr × Nat) := [(0, .aload_n 0, 1), (1, .getfield 23, 3), (4, .iload_n 2, 1), (5, .iaload, 1), (6, .aload_n 0, 1), (7, .getfield 23, 3), (10, .iload_n 1, 1), (11, .iaload, 1), (12, .isub, 1), (13, .aload_n 0, 1), (14, .getfield 26, 3), (17, .iload_n 2, 1), (18, .iaload, 1), (19, .aload_n 0, 1), (20, .getfield 26, 3), (23, .iload_n 1, 1), (24, .iaload, 1), (25, .isub, 1), (26, .aload_n 0, 1), (27, .getfield 23, 3), (30, .iload_n 3, 1), (31, .iaload, 1), (32, .aload_n 0, 1), (33, .getfield 23, 3), (36, .iload_n 1, 1), (37, .iaload, 1), (38, .isub, 1), (39, .aload_n 0, 1), (40, .getfield 26, 3), (43, .iload_n 3, 1), (44, .iaload, 1), (45, .aload_n 0, 1), (46, .getfield 26, 3), (49, .iload_n 1, 1), (50, .iaload, 1), (51, .isub, 1), (52, .invokestatic 51, 3), (55, .ireturn, 1)]
set_option maxRecDepth 100000 in
theorem T_X5_turn : ∀ e ∈ t_X5_turn, decode cX5_turn e.1 = .ok e.2 := by decide +kernel
def t_X5_isRim : List (Nat × Instr × Nat) := [(0, .iconst 0, 1), (1, .istore_n 3, 1), (2, .iload_n 3, 1), (3, .aload_n 0, 1), (4, .getfield 44, 3), (7, .if_icmp .ge 96, 3), (10, .iload_n 3, 1), (11, .iload_n 1, 1), (12, .if_icmp .ne 6, 3), (15, .goto 82, 3), (18, .aload_n 0, 1), (19, .iload_n 1, 1), (20, .iload_n 2, 1), (21, .iload_n 3, 1), (22, .invokevirtual 202, 3), (25, .istore 4, 2), (27, .iload 4, 2), (29, .ifCond .lt 66, 3), (32, .iload 4, 2), (34, .ifCond .ne 63, 3), (37, .aload_n 0, 1), (38, .getfield 23, 3), (41, .iload_n 2, 1), (42, .iaload, 1), (43, .aload_n 0, 1), (44, .getfield 23, 3), (47, .iload_n 1, 1), (48, .iaload, 1), (49, .isub, 1), (50, .aload_n 0, 1), (51, .getfield 26, 3), (54, .iload_n 2, 1), (55, .iaload, 1), (56, .aload_n 0, 1), (57, .getfield 26, 3), (60, .iload_n 1, 1), (61, .iaload, 1), (62, .isub, 1), (63, .aload_n 0, 1), (64, .getfield 23, 3), (67, .iload_n 3, 1), (68, .iaload, 1), (69, .aload_n 0, 1), (70, .getfield 23, 3), (73, .iload_n 1, 1), (74, .iaload, 1), (75, .isub, 1), (76, .aload_n 0, 1), (77, .getfield 26, 3), (80, .iload_n 3, 1), (81, .iaload, 1), (82, .aload_n 0, 1), (83, .getfield 26, 3), (86, .iload_n 1, 1), (87, .iaload, 1), (88, .isub, 1), (89, .invokestatic 55, 3), (92, .ifCond .ge 5, 3), (95, .iconst 0, 1), (96, .ireturn, 1), (97, .iinc 3 1, 3), (100, .goto (-98), 3), (103, .iconst 1, 1), (104, .ireturn, 1)]
set_option maxRecDepth 100000 in
theorem T_X5_isRim : ∀ e ∈ t_X5_isRim, decode cX5_isRim e.1 = .ok e.2 := by decide +kernel
def t_X5_isCorner : List (Nat × Instr × Nat) := [(0, .iconst 0, 1), (1, .istore_n 2, 1), (2, .iload_n 2, 1), (3, .aload_n 0, 1), (4, .getfield 44, 3), (7, .if_icmp .ge 25, 3), (10, .iload_n 2, 1), (11, .iload_n 1, 1), (12, .if_icmp .eq 14, 3), (15, .aload_n 0, 1), (16, .iload_n 1, 1), (17, .iload_n 2, 1), (18, .invokevirtual 252, 3), (21, .ifCond .eq 5, 3), (24, .iconst 1, 1), (25, .ireturn, 1), (26, .iinc 2 1, 3), (29, .goto (-27), 3), (32, .aload_n 0, 1), (33, .getfield 44, 3), (36, .iconst 1, 1), (37, .if_icmp .ne 7, 3), (40, .iconst 1, 1), (41, .goto 4, 3), (44, .iconst 0, 1), (45, .ireturn, 1)]
set_option maxRecDepth 100000 in
theorem T_X5_isCorner : ∀ e ∈ t_X5_isCorner, decode cX5_isCorner e.1 = .ok e.2 := by decide +kernel
def t_X5_corners : List (Nat × Instr × Nat) := [(0, .iconst 0, 1), (1, .istore_n 1, 1), (2, .bipush (-9), 2), (4, .istore_n 2, 1), (5, .iconst 0, 1), (6, .istore_n 3, 1), (7, .iload_n 3, 1), (8, .aload_n 0, 1), (9, .getfield 44, 3), (12, .if_icmp .ge 79, 3), (15, .aload_n 0, 1), (16, .iload_n 3, 1), (17, .invokevirtual 255, 3), (20, .ifCond .ne 6, 3), (23, .goto 62, 3), (26, .iload_n 1, 1), (27, .iconst 1, 1), (28, .iload_n 3, 1), (29, .ishl, 1), (30, .ior, 1), (31, .istore_n 1, 1), (32, .iload_n 2, 1), (33, .bipush (-9), 2), (35, .if_icmp .eq 48, 3), (38, .aload_n 0, 1), (39, .getfield 26, 3), (42, .iload_n 3, 1), (43, .iaload, 1), (44, .aload_n 0, 1), (45, .getfield 26, 3), (48, .iload_n 2, 1), (49, .iaload, 1), (50, .if_icmp .lt 33, 3), (53, .aload_n 0, 1), (54, .getfield 26, 3), (57, .iload_n 3, 1), (58, .iaload, 1), (59, .aload_n 0, 1), (60, .getfield 26, 3), (63, .iload_n 2, 1), (64, .iaload, 1), (65, .if_icmp .ne 20, 3), (68, .aload_n 0, 1), (69, .getfield 23, 3), (72, .iload_n 3, 1), (73, .iaload, 1), (74, .aload_n 0, 1), (75, .getfield 23, 3), (78, .iload_n 2, 1), (79, .iaload, 1), (80, .if_icmp .ge 5, 3), (83, .iload_n 3, 1), (84, .istore_n 2, 1), (85, .iinc 3 1, 3), (88, .goto (-81), 3), (91, .iload_n 1, 1), (92, .invokestatic 258, 3), (95, .newarray .int, 2), (97, .astore_n 3, 1), (98, .iload_n 1, 1), (99, .ifCond .eq 7, 3), (102, .aload_n 3, 1), (103, .iconst 0, 1), (104, .iload_n 2, 1), (105, .iastore, 1), (106, .iconst 0, 1), (107, .istore 4, 2), (109, .iload 4, 2), (111, .aload_n 0, 1), (112, .getfield 44, 3), (115, .if_icmp .ge 95, 3), (118, .iload_n 1, 1), (119, .iload 4, 2), (121, .ishr, 1), (122, .iconst 1, 1), (123, .iand, 1), (124, .ifCond .eq 80, 3), (127, .iload 4, 2), (129, .iload_n 2, 1), (130, .if_icmp .ne 6, 3), (133, .goto 71, 3), (136, .iconst 1, 1), (137, .istore 5, 2), (139, .iconst 0, 1), (140, .istore 6, 2), (142, .iload 6, 2), (144, .aload_n 0, 1), (145, .getfield 44, 3), (148, .if_icmp .ge 50, 3), (151, .iload 5, 2), (153, .iload_n 1, 1), (154, .iload 6, 2), (156, .ishr, 1), (157, .iconst 1, 1), (158, .iand, 1), (159, .iconst 1, 1), (160, .if_icmp .ne 25, 3), (163, .iload 6, 2), (165, .iload_n 2, 1), (166, .if_icmp .eq 19, 3), (169, .aload_n 0, 1), (170, .iload_n 2, 1), (171, .iload 6, 2), (173, .iload 4, 2), (175, .invokevirtual 202, 3), (178, .ifCond .le 7, 3), (181, .iconst 1, 1), (182, .goto 4, 3), (185, .iconst 0, 1), (186, .invokestatic 47, 3), (189, .iadd, 1), (190, .istore 5, 2), (192, .iinc 6 1, 3), (195, .goto (-53), 3), (198, .aload_n 3, 1), (199, .iload 5, 2), (201, .iload 4, 2), (203, .iastore, 1), (204, .iinc 4 1, 3), (207, .goto (-98), 3), (210, .aload_n 3, 1), (211, .areturn, 1)]
set_option maxRecDepth 100000 in
theorem T_X5_corners : ∀ e ∈ t_X5_corners, decode cX5_corners e.1 = .ok e.2 := by decide +kernel
def t_X5_hullCount : List (Nat × Instr × Nat) := [(0, .aload_n 0, 1), (1, .iconst 0, 1), (2, .putfield 32, 3), (5, .aload_n 0, 1), (6, .invokevirtual 191, 3), (9, .arraylength, 1), (10, .ireturn, 1)]
set_option maxRecDepth 100000 in
theorem T_X5_hullCount : ∀ e ∈ t_X5_hullCount, decode cX5_hullCount e.1 = .ok e.2 := by decide +kernel
def t_X5_hullText : List (Nat × Instr × Nat) := [(0, .aload_n 0, 1), (1, .iconst 0, 1), (2, .putfield 32, 3), (5, .aload_n 0, 1), (6, .invokevirtual 191, 3), (9, .invokestatic 238, 3), (12, .areturn, 1)]
set_option maxRecDepth 100000 in
theorem T_X5_hullText : ∀ e ∈ t_X5_hullText, decode cX5_hullText e.1 = .ok e.2 := by decide +kernel
def t_X5_area : List (Nat × Instr × Nat) := [(0, .iconst 0, 1), (1, .istore_n 2, 1), (2, .iconst 0, 1), (3, .istore_n 3, 1), (4, .iload_n 3, 1), (5, .aload_n 1, 1), (6, .arraylength, 1), (7, .if_icmp .ge 55, 3), (10, .aload_n 1, 1), (11, .iload_n 3, 1), (12, .iconst 1, 1), (13, .iadd, 1), (14, .aload_n 1, 1), (15, .arraylength, 1), (16, .irem, 1), (17, .iaload, 1), (18, .istore 4, 2), (20, .iload_n 2, 1), (21, .aload_n 0, 1), (22, .getfield 23, 3), (25, .aload_n 1, 1), (26, .iload_n 3, 1), (27, .iaload, 1), (28, .iaload, 1), (29, .aload_n 0, 1), (30, .getfield 26, 3), (33, .aload_n 1, 1), (34, .iload_n 3, 1), (35, .iaload, 1), (36, .iaload, 1), (37, .aload_n 0, 1), (38, .getfield 23, 3), (41, .iload 4, 2), (43, .iaload, 1), (44, .aload_n 0, 1), (45, .getfield 26, 3), (48, .iload 4, 2), (50, .iaload, 1), (51, .invokestatic 51, 3), (54, .iadd, 1), (55, .istore_n 2, 1), (56, .iinc 3 1, 3), (59, .goto (-55), 3), (62, .iload_n 2, 1), (63, .ireturn, 1)]
set_option maxRecDepth 100000 in
theorem T_X5_area : ∀ e ∈ t_X5_area, decode cX5_area e.1 = .ok e.2 := by decide +kernel
def t_X5_hullArea : List (Nat × Instr × Nat) := [(0, .aload_n 0, 1), (1, .iconst 0, 1), (2, .putfield 32, 3), (5, .aload_n 0, 1), (6, .aload_n 0, 1), (7, .invokevirtual 191, 3), (10, .invokevirtual 195, 3), (13, .ireturn, 1)]
set_option maxRecDepth 100000 in
theorem T_X5_hullArea : ∀ e ∈ t_X5_hullArea, decode cX5_hullArea e.1 = .ok e.2 := by decide +kernel
def t_X5_roundsTold : List (Nat × Instr × Nat) := [(0, .iconst 0, 1), (1, .istore_n 1, 1), (2, .iconst 0, 1), (3, .istore_n 2, 1), (4, .iload_n 2, 1), (5, .aload_n 0, 1), (6, .getfield 44, 3), (9, .if_icmp .ge 197, 3), (12, .iload_n 2, 1), (13, .iconst 1, 1), (14, .iadd, 1), (15, .aload_n 0, 1), (16, .getfield 44, 3), (19, .irem, 1), (20, .istore_n 3, 1), (21, .aload_n 0, 1), (22, .getfield 23, 3), (25, .iload_n 3, 1), (26, .iaload, 1), (27, .aload_n 0, 1), (28, .getfield 23, 3), (31, .iload_n 2, 1), (32, .iaload, 1), (33, .isub, 1), (34, .aload_n 0, 1), (35, .getfield 26, 3), (38, .iload_n 3, 1), (39, .iaload, 1), (40, .aload_n 0, 1), (41, .getfield 26, 3), (44, .iload_n 2, 1), (45, .iaload, 1), (46, .isub, 1), (47, .aload_n 0, 1), (48, .getfield 185, 3), (51, .aload_n 0, 1), (52, .getfield 23, 3), (55, .iload_n 2, 1), (56, .iaload, 1), (57, .isub, 1), (58, .aload_n 0, 1), (59, .getfield 188, 3), (62, .aload_n 0, 1), (63, .getfield 26, 3), (66, .iload_n 2, 1), (67, .iaload, 1), (68, .isub, 1), (69, .invokestatic 51, 3), (72, .istore 4, 2), (74, .iload 4, 2), (76, .ifCond .ne 56, 3), (79, .aload_n 0, 1), (80, .getfield 23, 3), (83, .iload_n 2, 1), (84, .iaload, 1), (85, .aload_n 0, 1), (86, .getfield 185, 3), (89, .isub, 1), (90, .aload_n 0, 1), (91, .getfield 26, 3), (94, .iload_n 2, 1), (95, .iaload, 1), (96, .aload_n 0, 1), (97, .getfield 188, 3), (100, .isub, 1), (101, .aload_n 0, 1), (102, .getfield 23, 3), (105, .iload_n 3, 1), (106, .iaload, 1), (107, .aload_n 0, 1), (108, .getfield 185, 3), (111, .isub, 1), (112, .aload_n 0, 1), (113, .getfield 26, 3), (116, .iload_n 3, 1), (117, .iaload, 1), (118, .aload_n 0, 1), (119, .getfield 188, 3), (122, .isub, 1), (123, .invokestatic 55, 3), (126, .ifCond .gt 6, 3), (129, .bipush (-9), 2), (131, .ireturn, 1), (132, .aload_n 0, 1), (133, .getfield 26, 3), (136, .iload_n 2, 1), (137, .iaload, 1), (138, .aload_n 0, 1), (139, .getfield 188, 3), (142, .if_icmp .lt 24, 3), (145, .aload_n 0, 1), (146, .getfield 26, 3), (149, .iload_n 3, 1), (150, .iaload, 1), (151, .aload_n 0, 1), (152, .getfield 188, 3), (155, .if_icmp .ge 11, 3), (158, .iload 4, 2), (160, .ifCond .le 6, 3), (163, .iinc 1 1, 3), (166, .aload_n 0, 1), (167, .getfield 26, 3), (170, .iload_n 2, 1), (171, .iaload, 1), (172, .aload_n 0, 1), (173, .getfield 188, 3), (176, .if_icmp .ge 24, 3), (179, .aload_n 0, 1), (180, .getfield 26, 3), (183, .iload_n 3, 1), (184, .iaload, 1), (185, .aload_n 0, 1), (186, .getfield 188, 3), (189, .if_icmp .lt 11, 3), (192, .iload 4, 2), (194, .ifCond .ge 6, 3), (197, .iinc 1 (-1), 3), (200, .iinc 2 1, 3), (203, .goto (-199), 3), (206, .iload_n 1, 1), (207, .ireturn, 1)]
set_option maxRecDepth 100000 in
theorem T_X5_roundsTold : ∀ e ∈ t_X5_roundsTold, decode cX5_roundsTold e.1 = .ok e.2 := by decide +kernel
def t_X5_rounds : List (Nat × Instr × Nat) := [(0, .aload_n 0, 1), (1, .iconst 0, 1), (2, .putfield 32, 3), (5, .aload_n 0, 1), (6, .invokevirtual 261, 3), (9, .ireturn, 1)]
set_option maxRecDepth 100000 in
theorem T_X5_rounds : ∀ e ∈ t_X5_rounds, decode cX5_rounds e.1 = .ok e.2 := by decide +kernel
def t_X5_house : List (Nat × Instr × Nat) := [(0, .aload_n 0, 1), (1, .iload_n 1, 1), (2, .iconst 0, 1), (3, .iconst 3, 1), (4, .invokestatic 40, 3), (7, .ifCond .ne 7, 3), (10, .iconst 1, 1), (11, .goto 4, 3), (14, .iconst 0, 1), (15, .iconst 1, 1), (16, .invokevirtual 135, 3), (19, .ifCond .eq 7, 3), (22, .iconst 0, 1), (23, .goto 9, 3), (26, .aload_n 0, 1), (27, .getfield 29, 3), (30, .iload_n 1, 1), (31, .iaload, 1), (32, .ireturn, 1)]
set_option maxRecDepth 100000 in
theorem T_X5_house : ∀ e ∈ t_X5_house, decode cX5_house e.1 = .ok e.2 := by decide +kernel
def t_X5_knock : List (Nat × Instr × Nat) := [(0, .aload_n 0, 1), (1, .iconst 0, 1), (2, .putfield 32, 3), (5, .aload_n 0, 1), (6, .getfield 29, 3), (9, .iconst 3, 1), (10, .dup2, 1), (11, .iaload, 1), (12, .iconst 1, 1), (13, .iadd, 1), (14, .iastore, 1), (15, .aload_n 0, 1), (16, .getfield 29, 3), (19, .iconst 3, 1), (20, .iaload, 1), (21, .ireturn, 1)]
set_option maxRecDepth 100000 in
theorem T_X5_knock : ∀ e ∈ t_X5_knock, decode cX5_knock e.1 = .ok e.2 := by decide +kernel
def t_X5_isSound : List (Nat × Instr × Nat) := [(0, .aload_n 0, 1), (1, .iconst 0, 1), (2, .putfield 32, 3), (5, .iconst 1, 1), (6, .ireturn, 1)]
set_option maxRecDepth 100000 in
theorem T_X5_isSound : ∀ e ∈ t_X5_isSound, decode cX5_isSound e.1 = .ok e.2 := by decide +kernel
def t_X5_add : List (Nat × Instr × Nat) := [(0, .lload_n 0, 1), (1, .ldc2_w 264, 3), (4, .lmul, 1), (5, .lload_n 2, 1), (6, .ladd, 1), (7, .lreturn, 1)]
set_option maxRecDepth 100000 in
theorem T_X5_add : ∀ e ∈ t_X5_add, decode cX5_add e.1 = .ok e.2 := by decide +kernel
def t_X5_addCells : List (Nat × Instr × Nat) := [(0, .lload_n 1, 1), (1, .lstore_n 3, 1), (2, .iconst 0, 1), (3, .istore 5, 2), (5, .iload 5, 2), (7, .bipush 8, 2), (9, .if_icmp .ge 111, 3), (12, .lload_n 3, 1), (13, .aload_n 0, 1), (14, .getfield 9, 3), (17, .iload 5, 2), (19, .iaload, 1), (20, .i2l, 1), (21, .invokestatic 266, 3), (24, .aload_n 0, 1), (25, .getfield 13, 3), (28, .iload 5, 2), (30, .iaload, 1), (31, .i2l, 1), (32, .invokestatic 266, 3), (35, .aload_n 0, 1), (36, .getfield 16, 3), (39, .iload 5, 2), (41, .iaload, 1), (42, .i2l, 1), (43, .invokestatic 266, 3), (46, .lstore_n 3, 1), (47, .lload_n 3, 1), (48, .aload_n 0, 1), (49, .iload 5, 2), (51, .invokevirtual 152, 3), (54, .i2l, 1), (55, .invokestatic 266, 3), (58, .aload_n 0, 1), (59, .iload 5, 2), (61, .invokevirtual 155, 3), (64, .i2l, 1), (65, .invokestatic 266, 3), (68, .aload_n 0, 1), (69, .getfield 19, 3), (72, .iload 5, 2), (74, .laload, 1), (75, .aload_n 0, 1), (76, .iload 5, 2), (78, .invokevirtual 97, 3), (81, .bipush 29, 2), (83, .invokestatic 158, 3), (86, .i2l, 1), (87, .invokestatic 266, 3), (90, .lstore_n 3, 1), (91, .lload_n 3, 1), (92, .aload_n 0, 1), (93, .iload 5, 2), (95, .invokevirtual 172, 3), (98, .i2l, 1), (99, .invokestatic 266, 3), (102, .aload_n 0, 1), (103, .iload 5, 2), (105, .iconst 0, 1), (106, .invokevirtual 175, 3), (109, .i2l, 1), (110, .invokestatic 266, 3), (113, .lstore_n 3, 1), (114, .iinc 5 1, 3), (117, .goto (-112), 3), (120, .iconst 0, 1), (121, .istore 5, 2), (123, .iload 5, 2), (125, .bipush 8, 2), (127, .if_icmp .ge 73, 3), (130, .iload 5, 2), (132, .iconst 1, 1), (133, .iadd, 1), (134, .istore 6, 2), (136, .iload 6, 2), (138, .bipush 8, 2), (140, .if_icmp .ge 54, 3), (143, .lload_n 3, 1), (144, .aload_n 0, 1), (145, .iload 5, 2), (147, .iload 6, 2), (149, .invokevirtual 104, 3), (152, .i2l, 1), (153, .invokestatic 266, 3), (156, .lstore_n 3, 1), (157, .lload_n 3, 1), (158, .aload_n 0, 1), (159, .iload 5, 2), (161, .iload 6, 2), (163, .invokevirtual 166, 3), (166, .invokestatic 47, 3), (169, .i2l, 1), (170, .invokestatic 266, 3), (173, .lstore_n 3, 1), (174, .lload_n 3, 1), (175, .aload_n 0, 1), (176, .iload 5, 2), (178, .iload 6, 2), (180, .invokevirtual 169, 3), (183, .i2l, 1), (184, .invokestatic 266, 3), (187, .lstore_n 3, 1), (188, .iinc 6 1, 3), (191, .goto (-55), 3), (194, .iinc 5 1, 3), (197, .goto (-74), 3), (200, .lload_n 3, 1), (201, .lreturn, 1)]
set_option maxRecDepth 100000 in
theorem T_X5_addCells : ∀ e ∈ t_X5_addCells, decode cX5_addCells e.1 = .ok e.2 := by decide +kernel
def t_X5_digest : List (Nat × Instr × Nat) := [(0, .aload_n 0, 1), (1, .iconst 0, 1), (2, .putfield 32, 3), (5, .aload_n 0, 1), (6, .ldc2_w 269, 3), (9, .invokevirtual 271, 3), (12, .aload_n 0, 1), (13, .getfield 44, 3), (16, .i2l, 1), (17, .invokestatic 266, 3), (20, .lstore_n 1, 1), (21, .iconst 0, 1), (22, .istore_n 3, 1), (23, .iload_n 3, 1), (24, .aload_n 0, 1), (25, .getfield 44, 3), (28, .if_icmp .ge 31, 3), (31, .lload_n 1, 1), (32, .aload_n 0, 1), (33, .getfield 23, 3), (36, .iload_n 3, 1), (37, .iaload, 1), (38, .i2l, 1), (39, .invokestatic 266, 3), (42, .aload_n 0, 1), (43, .getfield 26, 3), (46, .iload_n 3, 1), (47, .iaload, 1), (48, .i2l, 1), (49, .invokestatic 266, 3), (52, .lstore_n 1, 1), (53, .iinc 3 1, 3), (56, .goto (-33), 3), (59, .lload_n 1, 1), (60, .aload_n 0, 1), (61, .getfield 185, 3), (64, .i2l, 1), (65, .invokestatic 266, 3), (68, .aload_n 0, 1), (69, .getfield 188, 3), (72, .i2l, 1), (73, .invokestatic 266, 3), (76, .lstore_n 1, 1), (77, .aload_n 0, 1), (78, .invokevirtual 235, 3), (81, .astore_n 3, 1), (82, .lload_n 1, 1), (83, .aload_n 3, 1), (84, .arraylength, 1), (85, .i2l, 1), (86, .invokestatic 266, 3), (89, .lstore_n 1, 1), (90, .aload_n 3, 1), (91, .astore 4, 2), (93, .aload 4, 2), (95, .arraylength, 1), (96, .istore 5, 2), (98, .iconst 0, 1), (99, .istore 6, 2), (101, .iload 6, 2), (103, .iload 5, 2), (105, .if_icmp .ge 24, 3), (108, .aload 4, 2), (110, .iload 6, 2), (112, .iaload, 1), (113, .istore 7, 2), (115, .lload_n 1, 1), (116, .iload 7, 2), (118, .i2l, 1), (119, .invokestatic 266, 3), (122, .lstore_n 1, 1), (123, .iinc 6 1, 3), (126, .goto (-25), 3), (129, .lload_n 1, 1), (130, .aload_n 0, 1), (131, .aload_n 3, 1), (132, .invokevirtual 245, 3), (135, .invokestatic 47, 3), (138, .i2l, 1), (139, .invokestatic 266, 3), (142, .aload_n 0, 1), (143, .aload_n 3, 1), (144, .invokevirtual 249, 3), (147, .i2l, 1), (148, .invokestatic 266, 3), (151, .lstore_n 1, 1), (152, .aload_n 0, 1), (153, .invokevirtual 191, 3), (156, .astore 4, 2), (158, .lload_n 1, 1), (159, .aload 4, 2), (161, .arraylength, 1), (162, .i2l, 1), (163, .invokestatic 266, 3), (166, .lstore_n 1, 1), (167, .aload 4, 2), (169, .astore 5, 2), (171, .aload 5, 2), (173, .arraylength, 1), (174, .istore 6, 2), (176, .iconst 0, 1), (177, .istore 7, 2), (179, .iload 7, 2), (181, .iload 6, 2), (183, .if_icmp .ge 24, 3), (186, .aload 5, 2), (188, .iload 7, 2), (190, .iaload, 1), (191, .istore 8, 2), (193, .lload_n 1, 1), (194, .iload 8, 2), (196, .i2l, 1), (197, .invokestatic 266, 3), (200, .lstore_n 1, 1), (201, .iinc 7 1, 3), (204, .goto (-25), 3), (207, .lload_n 1, 1), (208, .aload_n 0, 1), (209, .aload 4, 2), (211, .invokevirtual 195, 3), (214, .i2l, 1), (215, .invokestatic 266, 3), (218, .aload_n 0, 1), (219, .invokevirtual 261, 3), (222, .i2l, 1), (223, .invokestatic 266, 3), (226, .lstore_n 1, 1), (227, .aload_n 0, 1), (228, .getfield 29, 3), (231, .astore 5, 2), (233, .aload 5, 2), (235, .arraylength, 1), (236, .istore 6, 2), (238, .iconst 0, 1), (239, .istore 7, 2), (241, .iload 7, 2), (243, .iload 6, 2), (245, .if_icmp .ge 24, 3), (248, .aload 5, 2), (250, .iload 7, 2), (252, .iaload, 1), (253, .istore 8, 2), (255, .lload_n 1, 1), (256, .iload 8, 2), (258, .i2l, 1), (259, .invokestatic 266, 3), (262, .lstore_n 1, 1), (263, .iinc 7 1, 3), (266, .goto (-25), 3), (269, .lload_n 1, 1), (270, .lconst 1, 1), (271, .invokestatic 266, 3), (274, .lreturn, 1)]
set_option maxRecDepth 100000 in
theorem T_X5_digest : ∀ e ∈ t_X5_digest, decode cX5_digest e.1 = .ok e.2 := by decide +kernel
def t_X0_between : List (Nat × Instr × Nat) := [(0, .iload_n 0, 1), (1, .ifCond .ge 9, 3), (4, .iload_n 0, 1), (5, .ineg, 1), (6, .i2l, 1), (7, .goto 5, 3), (10, .iload_n 0, 1), (11, .i2l, 1), (12, .lstore_n 2, 1), (13, .iload_n 1, 1), (14, .ifCond .ge 9, 3), (17, .iload_n 1, 1), (18, .ineg, 1), (19, .i2l, 1), (20, .goto 5, 3), (23, .iload_n 1, 1), (24, .i2l, 1), (25, .lstore 4, 2), (27, .lload 4, 2), (29, .lload_n 2, 1), (30, .lcmp, 1), (31, .ifCond .gt 12, 3), (34, .lload 4, 2), (36, .lload_n 2, 1), (37, .invokestatic 9, 3), (40, .goto 13, 3), (43, .ldc2_w 13, 3), (46, .lload_n 2, 1), (47, .lload 4, 2), (49, .invokestatic 9, 3), (52, .lsub, 1), (53, .lstore 6, 2), (55, .iload_n 0, 1), (56, .ifCond .le 8, 3), (59, .lload 6, 2), (61, .goto 9, 3), (64, .ldc2_w 15, 3), (67, .lload 6, 2), (69, .lsub, 1), (70, .lreturn, 1)]
set_option maxRecDepth 100000 in
theorem T_X0_between : ∀ e ∈ t_X0_between, decode cX0_between e.1 = .ok e.2 := by decide +kernel
def t_X0_arc : List (Nat × Instr × Nat) := [(0, .lload_n 0, 1), (1, .lload_n 0, 1), (2, .lmul, 1), (3, .lload_n 2, 1), (4, .lload_n 2, 1), (5, .lmul, 1), (6, .ladd, 1), (7, .lstore 4, 2), (9, .ldc2_w 17, 3), (12, .lload_n 0, 1), (13, .lload_n 2, 1), (14, .lmul, 1), (15, .lload 4, 2), (17, .invokestatic 19, 3), (20, .lstore 6, 2), (22, .lload 6, 2), (24, .lstore 8, 2), (26, .iconst 1, 1), (27, .istore 10, 2), (29, .iload 10, 2), (31, .bipush 60, 2), (33, .if_icmp .gt 49, 3), (36, .lload 6, 2), (38, .lconst 0, 1), (39, .lcmp, 1), (40, .ifCond .le 42, 3), (43, .lload 6, 2), (45, .iconst 2, 1), (46, .iload 10, 2), (48, .imul, 1), (49, .i2l, 1), (50, .lload_n 0, 1), (51, .lmul, 1), (52, .lload_n 0, 1), (53, .lmul, 1), (54, .iconst 2, 1), (55, .iload 10, 2), (57, .imul, 1), (58, .iconst 1, 1), (59, .iadd, 1), (60, .i2l, 1), (61, .lload 4, 2), (63, .lmul, 1), (64, .invokestatic 19, 3), (67, .lstore 6, 2), (69, .lload 8, 2), (71, .lload 6, 2), (73, .ladd, 1), (74, .lstore 8, 2), (76, .iinc 10 1, 3), (79, .goto (-50), 3), (82, .lload 8, 2), (84, .lreturn, 1)]
set_option maxRecDepth 100000 in
theorem T_X0_arc : ∀ e ∈ t_X0_arc, decode cX0_arc e.1 = .ok e.2 := by decide +kernel
def t_X0_timesQuotient : List (Nat × Instr × Nat) := [(0, .lload 4, 2), (2, .lconst 0, 1), (3, .lcmp, 1), (4, .ifCond .gt 5, 3), (7, .lconst 0, 1), (8, .lreturn, 1), (9, .lload_n 0, 1), (10, .lload 4, 2), (12, .ldiv, 1), (13, .lload_n 2, 1), (14, .lmul, 1), (15, .lload_n 0, 1), (16, .lload 4, 2), (18, .lrem, 1), (19, .lload_n 2, 1), (20, .lmul, 1), (21, .lload 4, 2), (23, .ldiv, 1), (24, .ladd, 1), (25, .lreturn, 1)]
set_option maxRecDepth 100000 in
theorem T_X0_timesQuotient : ∀ e ∈ t_X0_timesQuotient, decode cX0_timesQuotient e.1 = .ok e.2 := by decide +kernel
def t_X0_roundDown : List (Nat × Instr × Nat) := [(0, .lload_n 0, 1), (1, .bipush 60, 2), (3, .iload_n 2, 1), (4, .isub, 1), (5, .lshr, 1), (6, .l2i, 1), (7, .ireturn, 1)]
set_option maxRecDepth 100000 in
theorem T_X0_roundDown : ∀ e ∈ t_X0_roundDown, decode cX0_roundDown e.1 = .ok e.2 := by decide +kernel
def t_X0_exponentAndHead : List (Nat × Instr × Nat) := [(0, .lload_n 0, 1), (1, .lconst 0, 1), (2, .lcmp, 1), (3, .ifCond .ne 5, 3), (6, .iconst 0, 1), (7, .ireturn, 1), (8, .iconst 1, 1), (9, .istore_n 2, 1), (10, .iload_n 2, 1), (11, .bipush (-7), 2), (13, .if_icmp .le 20, 3), (16, .lload_n 0, 1), (17, .bipush 60, 2), (19, .iload_n 2, 1), (20, .iadd, 1), (21, .lshr, 1), (22, .lconst 0, 1), (23, .lcmp, 1), (24, .ifCond .ne 9, 3), (27, .iinc 2 (-1), 3), (30, .goto (-20), 3), (33, .lload_n 0, 1), (34, .bipush 60, 2), (36, .iload_n 2, 1), (37, .iadd, 1), (38, .bipush 20, 2), (40, .isub, 1), (41, .lshr, 1), (42, .l2i, 1), (43, .ldc 23, 2), (45, .isub, 1), (46, .istore_n 3, 1), (47, .iload_n 2, 1), (48, .sipush 1023, 3), (51, .iadd, 1), (52, .bipush 20, 2), (54, .ishl, 1), (55, .iload_n 3, 1), (56, .ior, 1), (57, .ireturn, 1)]
set_option maxRecDepth 100000 in
theorem T_X0_exponentAndHead : ∀ e ∈ t_X0_exponentAndHead, decode cX0_exponentAndHead e.1 = .ok e.2 := by decide +kernel
def t_X0_compareDigits : List (Nat × Instr × Nat) := [(0, .iload_n 0, 1), (1, .invokestatic 24, 3), (4, .i2l, 1), (5, .iload_n 1, 1), (6, .invokestatic 24, 3), (9, .i2l, 1), (10, .lsub, 1), (11, .invokestatic 28, 3), (14, .ireturn, 1)]
set_option maxRecDepth 100000 in
theorem T_X0_compareDigits : ∀ e ∈ t_X0_compareDigits, decode cX0_compareDigits e.1 = .ok e.2 := by decide +kernel
def t_X0_rankOf : List (Nat × Instr × Nat) := [(0, .iload_n 0, 1), (1, .ifCond .lt 7, 3), (4, .iload_n 0, 1), (5, .goto 9, 3), (8, .iload_n 0, 1), (9, .ldc 34, 2), (11, .iand, 1), (12, .iconst (-1), 1), (13, .ixor, 1), (14, .ireturn, 1)]
set_option maxRecDepth 100000 in
theorem T_X0_rankOf : ∀ e ∈ t_X0_rankOf, decode cX0_rankOf e.1 = .ok e.2 := by decide +kernel
def t_X0_sideBetween : List (Nat × Instr × Nat) := [(0, .lload_n 2, 1), (1, .lload_n 0, 1), (2, .lsub, 1), (3, .lstore 4, 2), (5, .lload 4, 2), (7, .ldc2_w 35, 3), (10, .lcmp, 1), (11, .ifCond .le 14, 3), (14, .lload 4, 2), (16, .ldc2_w 37, 3), (19, .lsub, 1), (20, .lstore 4, 2), (22, .goto 20, 3), (25, .lload 4, 2), (27, .ldc2_w 39, 3), (30, .lcmp, 1), (31, .ifCond .ge 11, 3), (34, .lload 4, 2), (36, .ldc2_w 37, 3), (39, .ladd, 1), (40, .lstore 4, 2), (42, .lload 4, 2), (44, .lconst 0, 1), (45, .lcmp, 1), (46, .ifCond .ge 9, 3), (49, .lload 4, 2), (51, .lneg, 1), (52, .goto 5, 3), (55, .lload 4, 2), (57, .lstore 6, 2), (59, .lload 6, 2), (61, .ldc2_w 41, 3), (64, .lcmp, 1), (65, .ifCond .lt 16, 3), (68, .ldc2_w 35, 3), (71, .lload 6, 2), (73, .lsub, 1), (74, .ldc2_w 41, 3), (77, .lcmp, 1), (78, .ifCond .ge 7, 3), (81, .iconst 0, 1), (82, .goto 8, 3), (85, .lload 4, 2), (87, .invokestatic 28, 3), (90, .ireturn, 1)]
set_option maxRecDepth 100000 in
theorem T_X0_sideBetween : ∀ e ∈ t_X0_sideBetween, decode cX0_sideBetween e.1 = .ok e.2 := by decide +kernel
def t_X1_init : List (Nat × Instr × Nat) := [(0, .aload_n 0, 1), (1, .invokespecial 3, 3), (4, .aload_n 0, 1), (5, .bipush 13, 2), (7, .newarray .int, 2), (9, .putfield 9, 3), (12, .aload_n 0, 1), (13, .bipush 13, 2), (15, .newarray .int, 2), (17, .putfield 13, 3), (20, .aload_n 0, 1), (21, .bipush 12, 2), (23, .newarray .int, 2), (25, .putfield 16, 3), (28, .aload_n 0, 1), (29, .bipush 12, 2), (31, .newarray .int, 2), (33, .putfield 19, 3), (36, .aload_n 0, 1), (37, .new 22, 3), (40, .dup, 1), (41, .invokespecial 24, 3), (44, .putfield 25, 3), (47, .aload_n 0, 1), (48, .new 22, 3), (51, .dup, 1), (52, .invokespecial 24, 3), (55, .putfield 29, 3), (58, .return_, 1)]
set_option maxRecDepth 100000 in
theorem T_X1_init : ∀ e ∈ t_X1_init, decode cX1_init e.1 = .ok e.2 := by decide +kernel
def t_X1_numberAt : List (Nat × Instr × Nat) := [(0, .iconst 0, 1), (1, .istore_n 3, 1), (2, .iload_n 3, 1), (3, .aload_n 0, 1), (4, .getfield 32, 3), (7, .if_icmp .ge 31, 3), (10, .aload_n 0, 1), (11, .getfield 9, 3), (14, .iload_n 3, 1), (15, .iaload, 1), (16, .iload_n 1, 1), (17, .if_icmp .ne 15, 3), (20, .aload_n 0, 1), (21, .getfield 13, 3), (24, .iload_n 3, 1), (25, .iaload, 1), (26, .iload_n 2, 1), (27, .if_icmp .ne 5, 3), (30, .iload_n 3, 1), (31, .ireturn, 1), (32, .iinc 3 1, 3), (35, .goto (-33), 3), (38, .iconst (-1), 1), (39, .ireturn, 1)]
set_option maxRecDepth 100000 in
theorem T_X1_numberAt : ∀ e ∈ t_X1_numberAt, decode cX1_numberAt e.1 = .ok e.2 := by decide +kernel
def t_X1_add : List (Nat × Instr × Nat) := [(0, .aload_n 0, 1), (1, .getfield 32, 3), (4, .istore_n 3, 1), (5, .aload_n 0, 1), (6, .getfield 9, 3), (9, .iload_n 3, 1), (10, .iload_n 1, 1), (11, .iastore, 1), (12, .aload_n 0, 1), (13, .getfield 13, 3), (16, .iload_n 3, 1), (17, .iload_n 2, 1), (18, .iastore, 1), (19, .aload_n 0, 1), (20, .dup, 1), (21, .getfield 32, 3), (24, .iconst 1, 1), (25, .iadd, 1), (26, .putfield 32, 3), (29, .aload_n 0, 1), (30, .invokevirtual 36, 3), (33, .iload_n 3, 1), (34, .ireturn, 1)]
set_option maxRecDepth 100000 in
theorem T_X1_add : ∀ e ∈ t_X1_add, decode cX1_add e.1 = .ok e.2 := by decide +kernel
def t_X1_drop : List (Nat × Instr × Nat) := [(0, .aload_n 0, 1), (1, .dup, 1), (2, .getfield 32, 3), (5, .iconst 1, 1), (6, .isub, 1), (7, .putfield 32, 3), (10, .iload_n 1, 1), (11, .istore_n 2, 1), (12, .iload_n 2, 1), (13, .aload_n 0, 1), (14, .getfield 32, 3), (17, .if_icmp .ge 37, 3), (20, .aload_n 0, 1), (21, .getfield 9, 3), (24, .iload_n 2, 1), (25, .aload_n 0, 1), (26, .getfield 9, 3), (29, .iload_n 2, 1), (30, .iconst 1, 1), (31, .iadd, 1), (32, .iaload, 1), (33, .iastore, 1), (34, .aload_n 0, 1), (35, .getfield 13, 3), (38, .iload_n 2, 1), (39, .aload_n 0, 1), (40, .getfield 13, 3), (43, .iload_n 2, 1), (44, .iconst 1, 1), (45, .iadd, 1), (46, .iaload, 1), (47, .iastore, 1), (48, .iinc 2 1, 3), (51, .goto (-39), 3), (54, .aload_n 0, 1), (55, .invokevirtual 36, 3), (58, .return_, 1)]
set_option maxRecDepth 100000 in
theorem T_X1_drop : ∀ e ∈ t_X1_drop, decode cX1_drop e.1 = .ok e.2 := by decide +kernel
def t_X1_moveTo : List (Nat × Instr × Nat) := [(0, .aload_n 0, 1), (1, .getfield 9, 3), (4, .iload_n 1, 1), (5, .iaload, 1), (6, .iload_n 2, 1), (7, .if_icmp .ne 15, 3), (10, .aload_n 0, 1), (11, .getfield 13, 3), (14, .iload_n 1, 1), (15, .iaload, 1), (16, .iload_n 3, 1), (17, .if_icmp .ne 5, 3), (20, .iconst 0, 1), (21, .ireturn, 1), (22, .aload_n 0, 1), (23, .getfield 9, 3), (26, .iload_n 1, 1), (27, .iload_n 2, 1), (28, .iastore, 1), (29, .aload_n 0, 1), (30, .getfield 13, 3), (33, .iload_n 1, 1), (34, .iload_n 3, 1), (35, .iastore, 1), (36, .aload_n 0, 1), (37, .invokevirtual 36, 3), (40, .iconst 1, 1), (41, .ireturn, 1)]
set_option maxRecDepth 100000 in
theorem T_X1_moveTo : ∀ e ∈ t_X1_moveTo, decode cX1_moveTo e.1 = .ok e.2 := by decide +kernel
def t_X1_turnAll : List (Nat × Instr × Nat) := [(0, .iconst 0, 1), (1, .istore_n 1, 1), (2, .iload_n 1, 1), (3, .bipush 12, 2), (5, .if_icmp .gt 37, 3), (8, .aload_n 0, 1), (9, .getfield 9, 3), (12, .iload_n 1, 1), (13, .iaload, 1), (14, .istore_n 2, 1), (15, .aload_n 0, 1), (16, .getfield 9, 3), (19, .iload_n 1, 1), (20, .iconst (-1), 1), (21, .aload_n 0, 1), (22, .getfield 13, 3), (25, .iload_n 1, 1), (26, .iaload, 1), (27, .isub, 1), (28, .iastore, 1), (29, .aload_n 0, 1), (30, .getfield 13, 3), (33, .iload_n 1, 1), (34, .iload_n 2, 1), (35, .iastore, 1), (36, .iinc 1 1, 3), (39, .goto (-37), 3), (42, .aload_n 0, 1), (43, .invokevirtual 36, 3), (46, .return_, 1)]
set_option maxRecDepth 100000 in
theorem T_X1_turnAll : ∀ e ∈ t_X1_turnAll, decode cX1_turnAll e.1 = .ok e.2 := by decide +kernel
def t_X1_mirrorAll : List (Nat × Instr × Nat) := [(0, .iconst 0, 1), (1, .istore_n 1, 1), (2, .iload_n 1, 1), (3, .bipush 12, 2), (5, .if_icmp .gt 23, 3), (8, .aload_n 0, 1), (9, .getfield 9, 3), (12, .iload_n 1, 1), (13, .iconst (-1), 1), (14, .aload_n 0, 1), (15, .getfield 9, 3), (18, .iload_n 1, 1), (19, .iaload, 1), (20, .isub, 1), (21, .iastore, 1), (22, .iinc 1 1, 3), (25, .goto (-23), 3), (28, .aload_n 0, 1), (29, .invokevirtual 36, 3), (32, .return_, 1)]
set_option maxRecDepth 100000 in
theorem T_X1_mirrorAll : ∀ e ∈ t_X1_mirrorAll, decode cX1_mirrorAll e.1 = .ok e.2 := by decide +kernel
def t_X1_stepBetween : List (Nat × Instr × Nat) := [(0, .aload_n 1, 1), (1, .aload_n 0, 1), (2, .getfield 9, 3), (5, .iload_n 3, 1), (6, .iaload, 1), (7, .aload_n 0, 1), (8, .getfield 9, 3), (11, .iload_n 2, 1), (12, .iaload, 1), (13, .isub, 1), (14, .aload_n 0, 1), (15, .getfield 13, 3), (18, .iload_n 3, 1), (19, .iaload, 1), (20, .aload_n 0, 1), (21, .getfield 13, 3), (24, .iload_n 2, 1), (25, .iaload, 1), (26, .isub, 1), (27, .iconst 0, 1), (28, .invokevirtual 39, 3), (31, .return_, 1)]
set_option maxRecDepth 100000 in
theorem T_X1_stepBetween : ∀ e ∈ t_X1_stepBetween, decode cX1_stepBetween e.1 = .ok e.2 := by decide +kernel
def t_X1_cross : List (Nat × Instr × Nat) := [(0, .aload_n 0, 1), (1, .getfield 9, 3), (4, .iload_n 2, 1), (5, .iaload, 1), (6, .aload_n 0, 1), (7, .getfield 9, 3), (10, .iload_n 1, 1), (11, .iaload, 1), (12, .isub, 1), (13, .aload_n 0, 1), (14, .getfield 13, 3), (17, .iload_n 3, 1), (18, .iaload, 1), (19, .aload_n 0, 1), (20, .getfield 13, 3), (23, .iload_n 1, 1), (24, .iaload, 1), (25, .isub, 1), (26, .imul, 1), (27, .aload_n 0, 1), (28, .getfield 13, 3), (31, .iload_n 2, 1), (32, .iaload, 1), (33, .aload_n 0, 1), (34, .getfield 13, 3), (37, .iload_n 1, 1), (38, .iaload, 1), (39, .isub, 1), (40, .aload_n 0, 1), (41, .getfield 9, 3), (44, .iload_n 3, 1), (45, .iaload, 1), (46, .aload_n 0, 1), (47, .getfield 9, 3), (50, .iload_n 1, 1), (51, .iaload, 1), (52, .isub, 1), (53, .imul, 1), (54, .isub, 1), (55, .ireturn, 1)]
set_option maxRecDepth 100000 in
theorem T_X1_cross : ∀ e ∈ t_X1_cross, decode cX1_cross e.1 = .ok e.2 := by decide +kernel
def t_X1_dot : List (Nat × Instr × Nat) := [(0, .aload_n 0, 1), (1, .getfield 9, 3), (4, .iload_n 2, 1), (5, .iaload, 1), (6, .aload_n 0, 1), (7, .getfield 9, 3), (10, .iload_n 1, 1), (11, .iaload, 1), (12, .isub, 1), (13, .aload_n 0, 1), (14, .getfield 9, 3), (17, .iload_n 3, 1), (18, .iaload, 1), (19, .aload_n 0, 1), (20, .getfield 9, 3), (23, .iload_n 1, 1), (24, .iaload, 1), (25, .isub, 1), (26, .imul, 1), (27, .aload_n 0, 1), (28, .getfield 13, 3), (31, .iload_n 2, 1), (32, .iaload, 1), (33, .aload_n 0, 1), (34, .getfield 13, 3), (37, .iload_n 1, 1), (38, .iaload, 1), (39, .isub, 1), (40, .aload_n 0, 1), (41, .getfield 13, 3), (44, .iload_n 3, 1), (45, .iaload, 1), (46, .aload_n 0, 1), (47, .getfield 13, 3), (50, .iload_n 1, 1), (51, .iaload, 1), (52, .isub, 1), (53, .imul, 1), (54, .iadd, 1), (55, .ireturn, 1)]
set_option maxRecDepth 100000 in
theorem T_X1_dot : ∀ e ∈ t_X1_dot, decode cX1_dot e.1 = .ok e.2 := by decide +kernel
def t_X1_distance : List (Nat × Instr × Nat) := [(0, .aload_n 0, 1), (1, .getfield 9, 3), (4, .iload_n 2, 1), (5, .iaload, 1), (6, .aload_n 0, 1), (7, .getfield 9, 3), (10, .iload_n 1, 1), (11, .iaload, 1), (12, .isub, 1), (13, .istore_n 3, 1), (14, .aload_n 0, 1), (15, .getfield 13, 3), (18, .iload_n 2, 1), (19, .iaload, 1), (20, .aload_n 0, 1), (21, .getfield 13, 3), (24, .iload_n 1, 1), (25, .iaload, 1), (26, .isub, 1), (27, .istore 4, 2), (29, .iload_n 3, 1), (30, .iload_n 3, 1), (31, .imul, 1), (32, .iload 4, 2), (34, .iload 4, 2), (36, .imul, 1), (37, .iadd, 1), (38, .ireturn, 1)]
set_option maxRecDepth 100000 in
theorem T_X1_distance : ∀ e ∈ t_X1_distance, decode cX1_distance e.1 = .ok e.2 := by decide +kernel
def t_X1_following : List (Nat × Instr × Nat) := [(0, .iload_n 0, 1), (1, .iconst 1, 1), (2, .iadd, 1), (3, .iload_n 1, 1), (4, .if_icmp .ge 9, 3), (7, .iload_n 0, 1), (8, .iconst 1, 1), (9, .iadd, 1), (10, .goto 4, 3), (13, .iconst 0, 1), (14, .ireturn, 1)]
set_option maxRecDepth 100000 in
theorem T_X1_following : ∀ e ∈ t_X1_following, decode cX1_following e.1 = .ok e.2 := by decide +kernel
def t_X1_lay : List (Nat × Instr × Nat) := [(0, .aload_n 0, 1), (1, .invokevirtual 43, 3), (4, .aload_n 0, 1), (5, .invokevirtual 46, 3), (8, .return_, 1)]
set_option maxRecDepth 100000 in
theorem T_X1_lay : ∀ e ∈ t_X1_lay, decode cX1_lay e.1 = .ok e.2 := by decide +kernel
def t_X1_layRound : List (Nat × Instr × Nat) := [(0, .aload_n 0, 1), (1, .iconst 0, 1), (2, .putfield 49, 3), (5, .iconst 0, 1), (6, .istore_n 1, 1), (7, .iload_n 1, 1), (8, .aload_n 0, 1), (9, .getfield 32, 3), (12, .if_icmp .ge 81, 3), (15, .aload_n 0, 1), (16, .bipush 12, 2), (18, .iload_n 1, 1), (19, .invokevirtual 52, 3), (22, .ifCond .le 65, 3), (25, .aload_n 0, 1), (26, .getfield 49, 3), (29, .istore_n 2, 1), (30, .iload_n 2, 1), (31, .ifCond .le 39, 3), (34, .aload_n 0, 1), (35, .iload_n 1, 1), (36, .aload_n 0, 1), (37, .getfield 16, 3), (40, .iload_n 2, 1), (41, .iconst 1, 1), (42, .isub, 1), (43, .iaload, 1), (44, .invokevirtual 56, 3), (47, .ifCond .eq 23, 3), (50, .aload_n 0, 1), (51, .getfield 16, 3), (54, .iload_n 2, 1), (55, .aload_n 0, 1), (56, .getfield 16, 3), (59, .iload_n 2, 1), (60, .iconst 1, 1), (61, .isub, 1), (62, .iaload, 1), (63, .iastore, 1), (64, .iinc 2 (-1), 3), (67, .goto (-37), 3), (70, .aload_n 0, 1), (71, .getfield 16, 3), (74, .iload_n 2, 1), (75, .iload_n 1, 1), (76, .iastore, 1), (77, .aload_n 0, 1), (78, .dup, 1), (79, .getfield 49, 3), (82, .iconst 1, 1), (83, .iadd, 1), (84, .putfield 49, 3), (87, .iinc 1 1, 3), (90, .goto (-83), 3), (93, .return_, 1)]
set_option maxRecDepth 100000 in
theorem T_X1_layRound : ∀ e ∈ t_X1_layRound, decode cX1_layRound e.1 = .ok e.2 := by decide +kernel
def t_X1_takeSteps : List (Nat × Instr × Nat) := [(0, .aload_n 0, 1), (1, .getfield 25, 3), (4, .aload_n 0, 1), (5, .getfield 9, 3), (8, .iload_n 2, 1), (9, .iaload, 1), (10, .aload_n 0, 1), (11, .getfield 9, 3), (14, .iload_n 1, 1), (15, .iaload, 1), (16, .isub, 1), (17, .aload_n 0, 1), (18, .getfield 13, 3), (21, .iload_n 2, 1), (22, .iaload, 1), (23, .aload_n 0, 1), (24, .getfield 13, 3), (27, .iload_n 1, 1), (28, .iaload, 1), (29, .isub, 1), (30, .iconst 0, 1), (31, .invokevirtual 39, 3), (34, .aload_n 0, 1), (35, .getfield 29, 3), (38, .aload_n 0, 1), (39, .getfield 9, 3), (42, .iload_n 3, 1), (43, .iaload, 1), (44, .aload_n 0, 1), (45, .getfield 9, 3), (48, .iload_n 1, 1), (49, .iaload, 1), (50, .isub, 1), (51, .aload_n 0, 1), (52, .getfield 13, 3), (55, .iload_n 3, 1), (56, .iaload, 1), (57, .aload_n 0, 1), (58, .getfield 13, 3), (61, .iload_n 1, 1), (62, .iaload, 1), (63, .isub, 1), (64, .iconst 0, 1), (65, .invokevirtual 39, 3), (68, .return_, 1)]
set_option maxRecDepth 100000 in
theorem T_X1_takeSteps : ∀ e ∈ t_X1_takeSteps, decode cX1_takeSteps e.1 = .ok e.2 := by decide +kernel
def t_X1_orderFrom : List (Nat × Instr × Nat) := [(0, .aload_n 0, 1), (1, .iload_n 1, 1), (2, .iload_n 2, 1), (3, .iload_n 3, 1), (4, .invokevirtual 60, 3), (7, .aload_n 0, 1), (8, .getfield 25, 3), (11, .aload_n 0, 1), (12, .getfield 29, 3), (15, .invokevirtual 63, 3), (18, .ireturn, 1)]
set_option maxRecDepth 100000 in
theorem T_X1_orderFrom : ∀ e ∈ t_X1_orderFrom, decode cX1_orderFrom e.1 = .ok e.2 := by decide +kernel
def t_X1_comesBefore : List (Nat × Instr × Nat) := [(0, .aload_n 0, 1), (1, .bipush 12, 2), (3, .iload_n 1, 1), (4, .iload_n 2, 1), (5, .invokevirtual 60, 3), (8, .aload_n 0, 1), (9, .getfield 25, 3), (12, .aload_n 0, 1), (13, .getfield 29, 3), (16, .invokevirtual 63, 3), (19, .istore_n 3, 1), (20, .iload_n 3, 1), (21, .ifCond .lt 24, 3), (24, .iload_n 3, 1), (25, .ifCond .ne 24, 3), (28, .aload_n 0, 1), (29, .bipush 12, 2), (31, .iload_n 1, 1), (32, .invokevirtual 52, 3), (35, .aload_n 0, 1), (36, .bipush 12, 2), (38, .iload_n 2, 1), (39, .invokevirtual 52, 3), (42, .if_icmp .ge 7, 3), (45, .iconst 1, 1), (46, .goto 4, 3), (49, .iconst 0, 1), (50, .ireturn, 1)]
set_option maxRecDepth 100000 in
theorem T_X1_comesBefore : ∀ e ∈ t_X1_comesBefore, decode cX1_comesBefore e.1 = .ok e.2 := by decide +kernel
def t_X1_layHull : List (Nat × Instr × Nat) := [(0, .aload_n 0, 1), (1, .iconst 0, 1), (2, .putfield 67, 3), (5, .aload_n 0, 1), (6, .invokevirtual 70, 3), (9, .istore_n 1, 1), (10, .iload_n 1, 1), (11, .istore_n 2, 1), (12, .iconst 0, 1), (13, .istore_n 3, 1), (14, .iload_n 3, 1), (15, .aload_n 0, 1), (16, .getfield 32, 3), (19, .if_icmp .ge 38, 3), (22, .aload_n 0, 1), (23, .getfield 19, 3), (26, .iload_n 3, 1), (27, .iload_n 2, 1), (28, .iastore, 1), (29, .aload_n 0, 1), (30, .dup, 1), (31, .getfield 67, 3), (34, .iconst 1, 1), (35, .iadd, 1), (36, .putfield 67, 3), (39, .aload_n 0, 1), (40, .iload_n 2, 1), (41, .invokevirtual 74, 3), (44, .istore_n 2, 1), (45, .iload_n 2, 1), (46, .iload_n 1, 1), (47, .if_icmp .ne 4, 3), (50, .return_, 1), (51, .iinc 3 1, 3), (54, .goto (-40), 3), (57, .return_, 1)]
set_option maxRecDepth 100000 in
theorem T_X1_layHull : ∀ e ∈ t_X1_layHull, decode cX1_layHull e.1 = .ok e.2 := by decide +kernel
def t_X1_lowest : List (Nat × Instr × Nat) := [(0, .iconst 0, 1), (1, .istore_n 1, 1), (2, .iconst 1, 1), (3, .istore_n 2, 1), (4, .iload_n 2, 1), (5, .aload_n 0, 1), (6, .getfield 32, 3), (9, .if_icmp .ge 56, 3), (12, .aload_n 0, 1), (13, .getfield 13, 3), (16, .iload_n 2, 1), (17, .iaload, 1), (18, .aload_n 0, 1), (19, .getfield 13, 3), (22, .iload_n 1, 1), (23, .iaload, 1), (24, .if_icmp .lt 33, 3), (27, .aload_n 0, 1), (28, .getfield 13, 3), (31, .iload_n 2, 1), (32, .iaload, 1), (33, .aload_n 0, 1), (34, .getfield 13, 3), (37, .iload_n 1, 1), (38, .iaload, 1), (39, .if_icmp .ne 20, 3), (42, .aload_n 0, 1), (43, .getfield 9, 3), (46, .iload_n 2, 1), (47, .iaload, 1), (48, .aload_n 0, 1), (49, .getfield 9, 3), (52, .iload_n 1, 1), (53, .iaload, 1), (54, .if_icmp .ge 5, 3), (57, .iload_n 2, 1), (58, .istore_n 1, 1), (59, .iinc 2 1, 3), (62, .goto (-58), 3), (65, .iload_n 1, 1), (66, .ireturn, 1)]
set_option maxRecDepth 100000 in
theorem T_X1_lowest : ∀ e ∈ t_X1_lowest, decode cX1_lowest e.1 = .ok e.2 := by decide +kernel
def t_X1_cornerAfter : List (Nat × Instr × Nat) := [(0, .iload_n 1, 1), (1, .istore_n 2, 1), (2, .iconst 0, 1), (3, .istore_n 3, 1), (4, .iload_n 3, 1), (5, .aload_n 0, 1), (6, .getfield 32, 3), (9, .if_icmp .ge 31, 3), (12, .iload_n 3, 1), (13, .iload_n 1, 1), (14, .if_icmp .eq 20, 3), (17, .iload_n 2, 1), (18, .iload_n 1, 1), (19, .if_icmp .eq 13, 3), (22, .aload_n 0, 1), (23, .iload_n 1, 1), (24, .iload_n 2, 1), (25, .iload_n 3, 1), (26, .invokevirtual 78, 3), (29, .ifCond .eq 5, 3), (32, .iload_n 3, 1), (33, .istore_n 2, 1), (34, .iinc 3 1, 3), (37, .goto (-33), 3), (40, .iload_n 2, 1), (41, .ireturn, 1)]
set_option maxRecDepth 100000 in
theorem T_X1_cornerAfter : ∀ e ∈ t_X1_cornerAfter, decode cX1_cornerAfter e.1 = .ok e.2 := by decide +kernel
def t_X1_isOutside : List (Nat × Instr × Nat) := [(0, .aload_n 0, 1), (1, .iload_n 1, 1), (2, .iload_n 2, 1), (3, .iload_n 3, 1), (4, .invokevirtual 82, 3), (7, .istore 4, 2), (9, .iload 4, 2), (11, .ifCond .lt 23, 3), (14, .iload 4, 2), (16, .ifCond .ne 22, 3), (19, .aload_n 0, 1), (20, .iload_n 1, 1), (21, .iload_n 3, 1), (22, .invokevirtual 52, 3), (25, .aload_n 0, 1), (26, .iload_n 1, 1), (27, .iload_n 2, 1), (28, .invokevirtual 52, 3), (31, .if_icmp .le 7, 3), (34, .iconst 1, 1), (35, .goto 4, 3), (38, .iconst 0, 1), (39, .ireturn, 1)]
set_option maxRecDepth 100000 in
theorem T_X1_isOutside : ∀ e ∈ t_X1_isOutside, decode cX1_isOutside e.1 = .ok e.2 := by decide +kernel
def t_X1_takeRoundSteps : List (Nat × Instr × Nat) := [(0, .aload_n 0, 1), (1, .bipush 12, 2), (3, .aload_n 0, 1), (4, .getfield 16, 3), (7, .iload_n 1, 1), (8, .iaload, 1), (9, .aload_n 0, 1), (10, .getfield 16, 3), (13, .iload_n 1, 1), (14, .aload_n 0, 1), (15, .getfield 49, 3), (18, .invokestatic 86, 3), (21, .iaload, 1), (22, .invokevirtual 60, 3), (25, .return_, 1)]
set_option maxRecDepth 100000 in
theorem T_X1_takeRoundSteps : ∀ e ∈ t_X1_takeRoundSteps, decode cX1_takeRoundSteps e.1 = .ok e.2 := by decide +kernel
def t_X1_isRoundStar : List (Nat × Instr × Nat) := [(0, .iconst 0, 1), (1, .istore_n 1, 1), (2, .iconst 0, 1), (3, .istore_n 2, 1), (4, .iload_n 2, 1), (5, .aload_n 0, 1), (6, .getfield 49, 3), (9, .if_icmp .ge 47, 3), (12, .aload_n 0, 1), (13, .iload_n 2, 1), (14, .invokevirtual 89, 3), (17, .aload_n 0, 1), (18, .getfield 25, 3), (21, .aload_n 0, 1), (22, .getfield 29, 3), (25, .invokevirtual 63, 3), (28, .ifCond .eq 22, 3), (31, .aload_n 0, 1), (32, .getfield 25, 3), (35, .aload_n 0, 1), (36, .getfield 29, 3), (39, .invokevirtual 93, 3), (42, .iconst 1, 1), (43, .if_icmp .eq 5, 3), (46, .iconst 0, 1), (47, .ireturn, 1), (48, .iconst 1, 1), (49, .istore_n 1, 1), (50, .iinc 2 1, 3), (53, .goto (-49), 3), (56, .iload_n 1, 1), (57, .ireturn, 1)]
set_option maxRecDepth 100000 in
theorem T_X1_isRoundStar : ∀ e ∈ t_X1_isRoundStar, decode cX1_isRoundStar e.1 = .ok e.2 := by decide +kernel
def t_X1_areaOfStar : List (Nat × Instr × Nat) := [(0, .iconst 0, 1), (1, .istore_n 1, 1), (2, .iconst 0, 1), (3, .istore_n 2, 1), (4, .iload_n 2, 1), (5, .aload_n 0, 1), (6, .getfield 49, 3), (9, .if_icmp .ge 28, 3), (12, .aload_n 0, 1), (13, .iload_n 2, 1), (14, .invokevirtual 89, 3), (17, .iload_n 1, 1), (18, .aload_n 0, 1), (19, .getfield 25, 3), (22, .aload_n 0, 1), (23, .getfield 29, 3), (26, .invokevirtual 96, 3), (29, .iadd, 1), (30, .istore_n 1, 1), (31, .iinc 2 1, 3), (34, .goto (-30), 3), (37, .iload_n 1, 1), (38, .ireturn, 1)]
set_option maxRecDepth 100000 in
theorem T_X1_areaOfStar : ∀ e ∈ t_X1_areaOfStar, decode cX1_areaOfStar e.1 = .ok e.2 := by decide +kernel
def t_X1_areaOfHull : List (Nat × Instr × Nat) := [(0, .iconst 0, 1), (1, .istore_n 1, 1), (2, .iconst 0, 1), (3, .istore_n 2, 1), (4, .iload_n 2, 1), (5, .aload_n 0, 1), (6, .getfield 67, 3), (9, .if_icmp .ge 63, 3), (12, .aload_n 0, 1), (13, .getfield 19, 3), (16, .iload_n 2, 1), (17, .iaload, 1), (18, .istore_n 3, 1), (19, .aload_n 0, 1), (20, .getfield 19, 3), (23, .iload_n 2, 1), (24, .aload_n 0, 1), (25, .getfield 67, 3), (28, .invokestatic 86, 3), (31, .iaload, 1), (32, .istore 4, 2), (34, .iload_n 1, 1), (35, .aload_n 0, 1), (36, .getfield 9, 3), (39, .iload_n 3, 1), (40, .iaload, 1), (41, .aload_n 0, 1), (42, .getfield 13, 3), (45, .iload 4, 2), (47, .iaload, 1), (48, .imul, 1), (49, .aload_n 0, 1), (50, .getfield 13, 3), (53, .iload_n 3, 1), (54, .iaload, 1), (55, .aload_n 0, 1), (56, .getfield 9, 3), (59, .iload 4, 2), (61, .iaload, 1), (62, .imul, 1), (63, .isub, 1), (64, .iadd, 1), (65, .istore_n 1, 1), (66, .iinc 2 1, 3), (69, .goto (-65), 3), (72, .iload_n 1, 1), (73, .ireturn, 1)]
set_option maxRecDepth 100000 in
theorem T_X1_areaOfHull : ∀ e ∈ t_X1_areaOfHull, decode cX1_areaOfHull e.1 = .ok e.2 := by decide +kernel
def t_X1_isCentreOnWalk : List (Nat × Instr × Nat) := [(0, .iconst 0, 1), (1, .istore_n 1, 1), (2, .iload_n 1, 1), (3, .aload_n 0, 1), (4, .getfield 32, 3), (7, .if_icmp .ge 42, 3), (10, .iload_n 1, 1), (11, .aload_n 0, 1), (12, .getfield 32, 3), (15, .invokestatic 86, 3), (18, .istore_n 2, 1), (19, .aload_n 0, 1), (20, .bipush 12, 2), (22, .iload_n 1, 1), (23, .iload_n 2, 1), (24, .invokevirtual 82, 3), (27, .ifCond .ne 16, 3), (30, .aload_n 0, 1), (31, .bipush 12, 2), (33, .iload_n 1, 1), (34, .iload_n 2, 1), (35, .invokevirtual 99, 3), (38, .ifCond .gt 5, 3), (41, .iconst 1, 1), (42, .ireturn, 1), (43, .iinc 1 1, 3), (46, .goto (-44), 3), (49, .iconst 0, 1), (50, .ireturn, 1)]
set_option maxRecDepth 100000 in
theorem T_X1_isCentreOnWalk : ∀ e ∈ t_X1_isCentreOnWalk, decode cX1_isCentreOnWalk e.1 = .ok e.2 := by decide +kernel
def t_X1_windings : List (Nat × Instr × Nat) := [(0, .iconst 0, 1), (1, .istore_n 1, 1), (2, .iconst 0, 1), (3, .istore_n 2, 1), (4, .iload_n 2, 1), (5, .aload_n 0, 1), (6, .getfield 32, 3), (9, .if_icmp .ge 25, 3), (12, .iload_n 1, 1), (13, .aload_n 0, 1), (14, .iload_n 2, 1), (15, .iload_n 2, 1), (16, .aload_n 0, 1), (17, .getfield 32, 3), (20, .invokestatic 86, 3), (23, .invokevirtual 102, 3), (26, .iadd, 1), (27, .istore_n 1, 1), (28, .iinc 2 1, 3), (31, .goto (-27), 3), (34, .iload_n 1, 1), (35, .ireturn, 1)]
set_option maxRecDepth 100000 in
theorem T_X1_windings : ∀ e ∈ t_X1_windings, decode cX1_windings e.1 = .ok e.2 := by decide +kernel
def t_X1_windingOf : List (Nat × Instr × Nat) := [(0, .aload_n 0, 1), (1, .getfield 13, 3), (4, .iload_n 1, 1), (5, .iaload, 1), (6, .aload_n 0, 1), (7, .getfield 13, 3), (10, .bipush 12, 2), (12, .iaload, 1), (13, .if_icmp .lt 7, 3), (16, .iconst 1, 1), (17, .goto 4, 3), (20, .iconst 0, 1), (21, .istore_n 3, 1), (22, .aload_n 0, 1), (23, .getfield 13, 3), (26, .iload_n 2, 1), (27, .iaload, 1), (28, .aload_n 0, 1), (29, .getfield 13, 3), (32, .bipush 12, 2), (34, .iaload, 1), (35, .if_icmp .lt 7, 3), (38, .iconst 1, 1), (39, .goto 4, 3), (42, .iconst 0, 1), (43, .istore 4, 2), (45, .aload_n 0, 1), (46, .iload_n 1, 1), (47, .iload_n 2, 1), (48, .bipush 12, 2), (50, .invokevirtual 82, 3), (53, .istore 5, 2), (55, .iload_n 3, 1), (56, .ifCond .eq 15, 3), (59, .iload 4, 2), (61, .ifCond .ne 10, 3), (64, .iload 5, 2), (66, .ifCond .le 5, 3), (69, .iconst 1, 1), (70, .ireturn, 1), (71, .iload_n 3, 1), (72, .ifCond .ne 17, 3), (75, .iload 4, 2), (77, .ifCond .eq 12, 3), (80, .iload 5, 2), (82, .ifCond .ge 7, 3), (85, .iconst (-1), 1), (86, .goto 4, 3), (89, .iconst 0, 1), (90, .ireturn, 1)]
set_option maxRecDepth 100000 in
theorem T_X1_windingOf : ∀ e ∈ t_X1_windingOf, decode cX1_windingOf e.1 = .ok e.2 := by decide +kernel
def t_X1_isRoundSound : List (Nat × Instr × Nat) := [(0, .iconst 0, 1), (1, .istore_n 1, 1), (2, .iload_n 1, 1), (3, .iconst 1, 1), (4, .iadd, 1), (5, .aload_n 0, 1), (6, .getfield 49, 3), (9, .if_icmp .ge 32, 3), (12, .aload_n 0, 1), (13, .aload_n 0, 1), (14, .getfield 16, 3), (17, .iload_n 1, 1), (18, .iaload, 1), (19, .aload_n 0, 1), (20, .getfield 16, 3), (23, .iload_n 1, 1), (24, .iconst 1, 1), (25, .iadd, 1), (26, .iaload, 1), (27, .invokevirtual 56, 3), (30, .ifCond .ne 5, 3), (33, .iconst 0, 1), (34, .ireturn, 1), (35, .iinc 1 1, 3), (38, .goto (-36), 3), (41, .iconst 1, 1), (42, .ireturn, 1)]
set_option maxRecDepth 100000 in
theorem T_X1_isRoundSound : ∀ e ∈ t_X1_isRoundSound, decode cX1_isRoundSound e.1 = .ok e.2 := by decide +kernel
def t_X1_isHullSound : List (Nat × Instr × Nat) := [(0, .iconst 0, 1), (1, .istore_n 1, 1), (2, .iload_n 1, 1), (3, .aload_n 0, 1), (4, .getfield 67, 3), (7, .if_icmp .ge 100, 3), (10, .iload_n 1, 1), (11, .aload_n 0, 1), (12, .getfield 67, 3), (15, .invokestatic 86, 3), (18, .istore_n 2, 1), (19, .iconst 0, 1), (20, .istore_n 3, 1), (21, .iload_n 3, 1), (22, .aload_n 0, 1), (23, .getfield 32, 3), (26, .if_icmp .ge 31, 3), (29, .aload_n 0, 1), (30, .aload_n 0, 1), (31, .getfield 19, 3), (34, .iload_n 1, 1), (35, .iaload, 1), (36, .aload_n 0, 1), (37, .getfield 19, 3), (40, .iload_n 2, 1), (41, .iaload, 1), (42, .iload_n 3, 1), (43, .invokevirtual 82, 3), (46, .ifCond .ge 5, 3), (49, .iconst 0, 1), (50, .ireturn, 1), (51, .iinc 3 1, 3), (54, .goto (-33), 3), (57, .aload_n 0, 1), (58, .getfield 19, 3), (61, .iload_n 2, 1), (62, .aload_n 0, 1), (63, .getfield 67, 3), (66, .invokestatic 86, 3), (69, .iaload, 1), (70, .istore_n 3, 1), (71, .aload_n 0, 1), (72, .getfield 67, 3), (75, .iconst 3, 1), (76, .if_icmp .lt 25, 3), (79, .aload_n 0, 1), (80, .aload_n 0, 1), (81, .getfield 19, 3), (84, .iload_n 1, 1), (85, .iaload, 1), (86, .aload_n 0, 1), (87, .getfield 19, 3), (90, .iload_n 2, 1), (91, .iaload, 1), (92, .iload_n 3, 1), (93, .invokevirtual 82, 3), (96, .ifCond .gt 5, 3), (99, .iconst 0, 1), (100, .ireturn, 1), (101, .iinc 1 1, 3), (104, .goto (-102), 3), (107, .iconst 1, 1), (108, .ireturn, 1)]
set_option maxRecDepth 100000 in
theorem T_X1_isHullSound : ∀ e ∈ t_X1_isHullSound, decode cX1_isHullSound e.1 = .ok e.2 := by decide +kernel
def t_X1_isStarSound : List (Nat × Instr × Nat) := [(0, .aload_n 0, 1), (1, .invokevirtual 105, 3), (4, .ifCond .ne 5, 3), (7, .iconst 1, 1), (8, .ireturn, 1), (9, .aload_n 0, 1), (10, .invokevirtual 109, 3), (13, .istore_n 1, 1), (14, .iload_n 1, 1), (15, .ifCond .le 15, 3), (18, .iload_n 1, 1), (19, .aload_n 0, 1), (20, .invokevirtual 112, 3), (23, .if_icmp .gt 7, 3), (26, .iconst 1, 1), (27, .goto 4, 3), (30, .iconst 0, 1), (31, .ireturn, 1)]
set_option maxRecDepth 100000 in
theorem T_X1_isStarSound : ∀ e ∈ t_X1_isStarSound, decode cX1_isStarSound e.1 = .ok e.2 := by decide +kernel
def t_X2_init : List (Nat × Instr × Nat) := [(0, .aload_n 0, 1), (1, .invokespecial 1, 3), (4, .aload_n 0, 1), (5, .iconst 1, 1), (6, .putfield 7, 3), (9, .aload_n 0, 1), (10, .iconst 1, 1), (11, .putfield 13, 3), (14, .return_, 1)]
set_option maxRecDepth 100000 in
theorem T_X2_init : ∀ e ∈ t_X2_init, decode cX2_init e.1 = .ok e.2 := by decide +kernel
def t_X2_become : List (Nat × Instr × Nat) := [(0, .aload_n 0, 1), (1, .iload_n 1, 1), (2, .putfield 7, 3), (5, .aload_n 0, 1), (6, .iload_n 2, 1), (7, .putfield 16, 3), (10, .aload_n 0, 1), (11, .iload_n 1, 1), (12, .ifCond .ne 9, 3), (15, .iload_n 3, 1), (16, .iconst 1, 1), (17, .iand, 1), (18, .goto 12, 3), (21, .iload_n 1, 1), (22, .ifCond .ge 7, 3), (25, .iconst 1, 1), (26, .goto 4, 3), (29, .iconst 0, 1), (30, .iload_n 2, 1), (31, .ifCond .ne 9, 3), (34, .iload_n 3, 1), (35, .iconst 2, 1), (36, .iand, 1), (37, .goto 12, 3), (40, .iload_n 2, 1), (41, .ifCond .ge 7, 3), (44, .iconst 2, 1), (45, .goto 4, 3), (48, .iconst 0, 1), (49, .ior, 1), (50, .putfield 19, 3), (53, .aload_n 0, 1), (54, .iload_n 1, 1), (55, .putfield 13, 3), (58, .iload_n 1, 1), (59, .ifCond .ne 25, 3), (62, .iload_n 2, 1), (63, .ifCond .ne 21, 3), (66, .aload_n 0, 1), (67, .aload_n 0, 1), (68, .getfield 19, 3), (71, .iconst 1, 1), (72, .iand, 1), (73, .ifCond .ne 7, 3), (76, .iconst 1, 1), (77, .goto 4, 3), (80, .iconst (-1), 1), (81, .putfield 13, 3), (84, .return_, 1)]
set_option maxRecDepth 100000 in
theorem T_X2_become : ∀ e ∈ t_X2_become, decode cX2_become e.1 = .ok e.2 := by decide +kernel
def t_X2_becomeByRule : List (Nat × Instr × Nat) := [(0, .aload_n 1, 1), (1, .getfield 19, 3), (4, .iconst 1, 1), (5, .iand, 1), (6, .iconst 1, 1), (7, .ishl, 1), (8, .aload_n 1, 1), (9, .getfield 19, 3), (12, .iconst 2, 1), (13, .iand, 1), (14, .iconst 1, 1), (15, .ishr, 1), (16, .ior, 1), (17, .istore_n 3, 1), (18, .iload_n 2, 1), (19, .tableswitch 131 0 4 #[33, 55, 77, 96, 115], 33), (52, .aload_n 0, 1), (53, .aload_n 1, 1), (54, .getfield 7, 3), (57, .aload_n 1, 1), (58, .getfield 16, 3), (61, .ineg, 1), (62, .aload_n 1, 1), (63, .getfield 19, 3), (66, .iconst 2, 1), (67, .ixor, 1), (68, .invokevirtual 22, 3), (71, .goto 99, 3), (74, .aload_n 0, 1), (75, .aload_n 1, 1), (76, .getfield 7, 3), (79, .ineg, 1), (80, .aload_n 1, 1), (81, .getfield 16, 3), (84, .aload_n 1, 1), (85, .getfield 19, 3), (88, .iconst 1, 1), (89, .ixor, 1), (90, .invokevirtual 22, 3), (93, .goto 77, 3), (96, .aload_n 0, 1), (97, .aload_n 1, 1), (98, .getfield 16, 3), (101, .ineg, 1), (102, .aload_n 1, 1), (103, .getfield 7, 3), (106, .iload_n 3, 1), (107, .iconst 1, 1), (108, .ixor, 1), (109, .invokevirtual 22, 3), (112, .goto 58, 3), (115, .aload_n 0, 1), (116, .aload_n 1, 1), (117, .getfield 16, 3), (120, .aload_n 1, 1), (121, .getfield 7, 3), (124, .ineg, 1), (125, .iload_n 3, 1), (126, .iconst 2, 1), (127, .ixor, 1), (128, .invokevirtual 22, 3), (131, .goto 39, 3), (134, .aload_n 0, 1), (135, .aload_n 1, 1), (136, .getfield 16, 3), (139, .aload_n 1, 1), (140, .getfield 7, 3), (143, .iload_n 3, 1), (144, .invokevirtual 22, 3), (147, .goto 23, 3), (150, .aload_n 0, 1), (151, .aload_n 1, 1), (152, .getfield 7, 3), (155, .ineg, 1), (156, .aload_n 1, 1), (157, .getfield 16, 3), (160, .ineg, 1), (161, .aload_n 1, 1), (162, .getfield 19, 3), (165, .iconst 3, 1), (166, .ixor, 1), (167, .invokevirtual 22, 3), (170, .return_, 1)]
set_option maxRecDepth 100000 in
theorem T_X2_becomeByRule : ∀ e ∈ t_X2_becomeByRule, decode cX2_becomeByRule e.1 = .ok e.2 := by decide +kernel
def t_X2_isNull : List (Nat × Instr × Nat) := [(0, .aload_n 0, 1), (1, .getfield 7, 3), (4, .ifCond .ne 14, 3), (7, .aload_n 0, 1), (8, .getfield 16, 3), (11, .ifCond .ne 7, 3), (14, .iconst 1, 1), (15, .goto 4, 3), (18, .iconst 0, 1), (19, .ireturn, 1)]
set_option maxRecDepth 100000 in
theorem T_X2_isNull : ∀ e ∈ t_X2_isNull, decode cX2_isNull e.1 = .ok e.2 := by decide +kernel
def t_X2_isUpper : List (Nat × Instr × Nat) := [(0, .aload_n 0, 1), (1, .getfield 19, 3), (4, .iconst 2, 1), (5, .iand, 1), (6, .ifCond .ne 7, 3), (9, .iconst 1, 1), (10, .goto 4, 3), (13, .iconst 0, 1), (14, .ireturn, 1)]
set_option maxRecDepth 100000 in
theorem T_X2_isUpper : ∀ e ∈ t_X2_isUpper, decode cX2_isUpper e.1 = .ok e.2 := by decide +kernel
def t_X2_isTwinOf : List (Nat × Instr × Nat) := [(0, .aload_n 0, 1), (1, .getfield 7, 3), (4, .aload_n 1, 1), (5, .getfield 7, 3), (8, .if_icmp .ne 29, 3), (11, .aload_n 0, 1), (12, .getfield 16, 3), (15, .aload_n 1, 1), (16, .getfield 16, 3), (19, .if_icmp .ne 18, 3), (22, .aload_n 0, 1), (23, .getfield 19, 3), (26, .aload_n 1, 1), (27, .getfield 19, 3), (30, .if_icmp .ne 7, 3), (33, .iconst 1, 1), (34, .goto 4, 3), (37, .iconst 0, 1), (38, .ireturn, 1)]
set_option maxRecDepth 100000 in
theorem T_X2_isTwinOf : ∀ e ∈ t_X2_isTwinOf, decode cX2_isTwinOf e.1 = .ok e.2 := by decide +kernel
def t_X2_isOfNoSize : List (Nat × Instr × Nat) := [(0, .aload_n 0, 1), (1, .getfield 16, 3), (4, .ifCond .ne 14, 3), (7, .aload_n 0, 1), (8, .getfield 13, 3), (11, .ifCond .le 7, 3), (14, .iconst 1, 1), (15, .goto 4, 3), (18, .iconst 0, 1), (19, .ireturn, 1)]
set_option maxRecDepth 100000 in
theorem T_X2_isOfNoSize : ∀ e ∈ t_X2_isOfNoSize, decode cX2_isOfNoSize e.1 = .ok e.2 := by decide +kernel
def t_X2_isDiagonal : List (Nat × Instr × Nat) := [(0, .aload_n 0, 1), (1, .getfield 16, 3), (4, .ifCond .eq 30, 3), (7, .aload_n 0, 1), (8, .getfield 7, 3), (11, .aload_n 0, 1), (12, .getfield 16, 3), (15, .if_icmp .eq 15, 3), (18, .aload_n 0, 1), (19, .getfield 7, 3), (22, .aload_n 0, 1), (23, .getfield 16, 3), (26, .ineg, 1), (27, .if_icmp .ne 7, 3), (30, .iconst 1, 1), (31, .goto 4, 3), (34, .iconst 0, 1), (35, .ireturn, 1)]
set_option maxRecDepth 100000 in
theorem T_X2_isDiagonal : ∀ e ∈ t_X2_isDiagonal, decode cX2_isDiagonal e.1 = .ok e.2 := by decide +kernel
def t_X2_isFixed : List (Nat × Instr × Nat) := [(0, .aload_n 0, 1), (1, .getfield 16, 3), (4, .ifCond .eq 17, 3), (7, .aload_n 0, 1), (8, .getfield 7, 3), (11, .ifCond .eq 10, 3), (14, .aload_n 0, 1), (15, .invokevirtual 26, 3), (18, .ifCond .eq 7, 3), (21, .iconst 1, 1), (22, .goto 4, 3), (25, .iconst 0, 1), (26, .ireturn, 1)]
set_option maxRecDepth 100000 in
theorem T_X2_isFixed : ∀ e ∈ t_X2_isFixed, decode cX2_isFixed e.1 = .ok e.2 := by decide +kernel
def t_X2_orderTo : List (Nat × Instr × Nat) := [(0, .aload_n 0, 1), (1, .invokevirtual 30, 3), (4, .aload_n 1, 1), (5, .invokevirtual 30, 3), (8, .if_icmp .eq 16, 3), (11, .aload_n 0, 1), (12, .invokevirtual 30, 3), (15, .ifCond .eq 7, 3), (18, .iconst 1, 1), (19, .goto 4, 3), (22, .iconst (-1), 1), (23, .ireturn, 1), (24, .aload_n 0, 1), (25, .getfield 13, 3), (28, .aload_n 1, 1), (29, .getfield 16, 3), (32, .imul, 1), (33, .aload_n 0, 1), (34, .getfield 16, 3), (37, .aload_n 1, 1), (38, .getfield 13, 3), (41, .imul, 1), (42, .isub, 1), (43, .istore_n 2, 1), (44, .iload_n 2, 1), (45, .ifCond .eq 13, 3), (48, .iload_n 2, 1), (49, .ifCond .le 7, 3), (52, .iconst (-1), 1), (53, .goto 4, 3), (56, .iconst 1, 1), (57, .ireturn, 1), (58, .aload_n 0, 1), (59, .getfield 13, 3), (62, .aload_n 1, 1), (63, .getfield 13, 3), (66, .imul, 1), (67, .aload_n 0, 1), (68, .getfield 16, 3), (71, .aload_n 1, 1), (72, .getfield 16, 3), (75, .imul, 1), (76, .iadd, 1), (77, .ifCond .le 5, 3), (80, .iconst 0, 1), (81, .ireturn, 1), (82, .aload_n 0, 1), (83, .invokevirtual 30, 3), (86, .aload_n 0, 1), (87, .getfield 13, 3), (90, .ifCond .le 7, 3), (93, .iconst 1, 1), (94, .goto 4, 3), (97, .iconst 0, 1), (98, .if_icmp .ne 7, 3), (101, .iconst (-1), 1), (102, .goto 4, 3), (105, .iconst 1, 1), (106, .ireturn, 1)]
set_option maxRecDepth 100000 in
theorem T_X2_orderTo : ∀ e ∈ t_X2_orderTo, decode cX2_orderTo e.1 = .ok e.2 := by decide +kernel
def t_X2_crossWith : List (Nat × Instr × Nat) := [(0, .aload_n 0, 1), (1, .getfield 7, 3), (4, .aload_n 1, 1), (5, .getfield 16, 3), (8, .imul, 1), (9, .aload_n 0, 1), (10, .getfield 16, 3), (13, .aload_n 1, 1), (14, .getfield 7, 3), (17, .imul, 1), (18, .isub, 1), (19, .ireturn, 1)]
set_option maxRecDepth 100000 in
theorem T_X2_crossWith : ∀ e ∈ t_X2_crossWith, decode cX2_crossWith e.1 = .ok e.2 := by decide +kernel
def t_X2_sideOf : List (Nat × Instr × Nat) := [(0, .aload_n 0, 1), (1, .aload_n 1, 1), (2, .invokevirtual 33, 3), (5, .i2l, 1), (6, .invokestatic 37, 3), (9, .ireturn, 1)]
set_option maxRecDepth 100000 in
theorem T_X2_sideOf : ∀ e ∈ t_X2_sideOf, decode cX2_sideOf e.1 = .ok e.2 := by decide +kernel
def t_X2_angle : List (Nat × Instr × Nat) := [(0, .aload_n 0, 1), (1, .invokevirtual 43, 3), (4, .ifCond .eq 7, 3), (7, .lconst 0, 1), (8, .goto 40, 3), (11, .aload_n 0, 1), (12, .getfield 16, 3), (15, .ifCond .ne 9, 3), (18, .ldc2_w 48, 3), (21, .goto 27, 3), (24, .aload_n 0, 1), (25, .getfield 7, 3), (28, .ifCond .ne 9, 3), (31, .ldc2_w 50, 3), (34, .goto 14, 3), (37, .aload_n 0, 1), (38, .getfield 7, 3), (41, .aload_n 0, 1), (42, .getfield 16, 3), (45, .invokestatic 52, 3), (48, .lstore_n 1, 1), (49, .aload_n 0, 1), (50, .invokevirtual 30, 3), (53, .ifCond .eq 7, 3), (56, .lload_n 1, 1), (57, .goto 5, 3), (60, .lload_n 1, 1), (61, .lneg, 1), (62, .lreturn, 1)]
set_option maxRecDepth 100000 in
theorem T_X2_angle : ∀ e ∈ t_X2_angle, decode cX2_angle e.1 = .ok e.2 := by decide +kernel
def t_X2_firstDigits : List (Nat × Instr × Nat) := [(0, .lload_n 1, 1), (1, .lconst 0, 1), (2, .lcmp, 1), (3, .ifCond .ge 8, 3), (6, .lload_n 1, 1), (7, .lneg, 1), (8, .goto 4, 3), (11, .lload_n 1, 1), (12, .invokestatic 56, 3), (15, .istore_n 3, 1), (16, .aload_n 0, 1), (17, .invokevirtual 30, 3), (20, .ifCond .eq 7, 3), (23, .iload_n 3, 1), (24, .goto 7, 3), (27, .iload_n 3, 1), (28, .ldc 59, 2), (30, .ior, 1), (31, .ireturn, 1)]
set_option maxRecDepth 100000 in
theorem T_X2_firstDigits : ∀ e ∈ t_X2_firstDigits, decode cX2_firstDigits e.1 = .ok e.2 := by decide +kernel
def t_X2_lastDigits : List (Nat × Instr × Nat) := [(0, .aload_n 0, 1), (1, .invokevirtual 43, 3), (4, .ifCond .eq 5, 3), (7, .iconst 0, 1), (8, .ireturn, 1), (9, .aload_n 0, 1), (10, .invokevirtual 26, 3), (13, .ifCond .eq 14, 3), (16, .aload_n 0, 1), (17, .getfield 7, 3), (20, .ifCond .ge 7, 3), (23, .iconst 1, 1), (24, .goto 4, 3), (27, .iconst 0, 1), (28, .istore_n 1, 1), (29, .iload_n 1, 1), (30, .ifCond .eq 9, 3), (33, .ldc2_w 60, 3), (36, .goto 6, 3), (39, .ldc2_w 62, 3), (42, .l2i, 1), (43, .ireturn, 1)]
set_option maxRecDepth 100000 in
theorem T_X2_lastDigits : ∀ e ∈ t_X2_lastDigits, decode cX2_lastDigits e.1 = .ok e.2 := by decide +kernel
def t_L_put : List (Nat × Instr × Nat) := [(0, .aload 5, 2), (2, .aload_n 0, 1), (3, .iload_n 1, 1), (4, .iload_n 2, 1), (5, .iload_n 3, 1), (6, .iload 4, 2), (8, .invokevirtual 7, 3), (11, .i2l, 1), (12, .putfield 13, 3), (15, .goto 11, 3), (18, .astore 6, 2), (20, .iconst 1, 1), (21, .ireturn, 1), (22, .astore 6, 2), (24, .iconst 2, 1), (25, .ireturn, 1), (26, .iconst 0, 1), (27, .ireturn, 1)]
set_option maxRecDepth 100000 in
theorem T_L_put : ∀ e ∈ t_L_put, decode cL_put e.1 = .ok e.2 := by decide +kernel
def t_L_make : List (Nat × Instr × Nat) := [(0, .aload_n 3, 1), (1, .aload_n 0, 1), (2, .iload_n 1, 1), (3, .iload_n 2, 1), (4, .invokevirtual 23, 3), (7, .i2l, 1), (8, .putfield 13, 3), (11, .goto 11, 3), (14, .astore 4, 2), (16, .iconst 1, 1), (17, .ireturn, 1), (18, .astore 4, 2), (20, .iconst 2, 1), (21, .ireturn, 1), (22, .iconst 0, 1), (23, .ireturn, 1)]
set_option maxRecDepth 100000 in
theorem T_L_make : ∀ e ∈ t_L_make, decode cL_make e.1 = .ok e.2 := by decide +kernel
def t_L_stretch : List (Nat × Instr × Nat) := [(0, .aload_n 3, 1), (1, .aload_n 0, 1), (2, .iload_n 1, 1), (3, .iload_n 2, 1), (4, .invokevirtual 27, 3), (7, .i2l, 1), (8, .putfield 13, 3), (11, .goto 11, 3), (14, .astore 4, 2), (16, .iconst 1, 1), (17, .ireturn, 1), (18, .astore 4, 2), (20, .iconst 2, 1), (21, .ireturn, 1), (22, .iconst 0, 1), (23, .ireturn, 1)]
set_option maxRecDepth 100000 in
theorem T_L_stretch : ∀ e ∈ t_L_stretch, decode cL_stretch e.1 = .ok e.2 := by decide +kernel
def t_L_addSteps : List (Nat × Instr × Nat) := [(0, .aload 4, 2), (2, .aload_n 0, 1), (3, .iload_n 1, 1), (4, .iload_n 2, 1), (5, .iload_n 3, 1), (6, .invokevirtual 30, 3), (9, .i2l, 1), (10, .putfield 13, 3), (13, .goto 7, 3), (16, .astore 5, 2), (18, .iconst 1, 1), (19, .ireturn, 1), (20, .iconst 0, 1), (21, .ireturn, 1)]
set_option maxRecDepth 100000 in
theorem T_L_addSteps : ∀ e ∈ t_L_addSteps, decode cL_addSteps e.1 = .ok e.2 := by decide +kernel
def t_L_takeStep : List (Nat × Instr × Nat) := [(0, .aload 4, 2), (2, .aload_n 0, 1), (3, .iload_n 1, 1), (4, .iload_n 2, 1), (5, .iload_n 3, 1), (6, .invokevirtual 34, 3), (9, .i2l, 1), (10, .putfield 13, 3), (13, .goto 7, 3), (16, .astore 5, 2), (18, .iconst 1, 1), (19, .ireturn, 1), (20, .iconst 0, 1), (21, .ireturn, 1)]
set_option maxRecDepth 100000 in
theorem T_L_takeStep : ∀ e ∈ t_L_takeStep, decode cL_takeStep e.1 = .ok e.2 := by decide +kernel
def t_L_across : List (Nat × Instr × Nat) := [(0, .aload_n 2, 1), (1, .aload_n 0, 1), (2, .iload_n 1, 1), (3, .invokevirtual 37, 3), (6, .i2l, 1), (7, .putfield 13, 3), (10, .goto 6, 3), (13, .astore_n 3, 1), (14, .iconst 1, 1), (15, .ireturn, 1), (16, .iconst 0, 1), (17, .ireturn, 1)]
set_option maxRecDepth 100000 in
theorem T_L_across : ∀ e ∈ t_L_across, decode cL_across e.1 = .ok e.2 := by decide +kernel
def t_L_up : List (Nat × Instr × Nat) := [(0, .aload_n 2, 1), (1, .aload_n 0, 1), (2, .iload_n 1, 1), (3, .invokevirtual 41, 3), (6, .i2l, 1), (7, .putfield 13, 3), (10, .goto 6, 3), (13, .astore_n 3, 1), (14, .iconst 1, 1), (15, .ireturn, 1), (16, .iconst 0, 1), (17, .ireturn, 1)]
set_option maxRecDepth 100000 in
theorem T_L_up : ∀ e ∈ t_L_up, decode cL_up e.1 = .ok e.2 := by decide +kernel
def t_L_signs : List (Nat × Instr × Nat) := [(0, .aload_n 2, 1), (1, .aload_n 0, 1), (2, .iload_n 1, 1), (3, .invokevirtual 44, 3), (6, .i2l, 1), (7, .putfield 13, 3), (10, .goto 6, 3), (13, .astore_n 3, 1), (14, .iconst 1, 1), (15, .ireturn, 1), (16, .iconst 0, 1), (17, .ireturn, 1)]
set_option maxRecDepth 100000 in
theorem T_L_signs : ∀ e ∈ t_L_signs, decode cL_signs e.1 = .ok e.2 := by decide +kernel
def t_L_upper : List (Nat × Instr × Nat) := [(0, .aload_n 2, 1), (1, .aload_n 0, 1), (2, .iload_n 1, 1), (3, .invokevirtual 47, 3), (6, .i2l, 1), (7, .putfield 13, 3), (10, .goto 6, 3), (13, .astore_n 3, 1), (14, .iconst 1, 1), (15, .ireturn, 1), (16, .iconst 0, 1), (17, .ireturn, 1)]
set_option maxRecDepth 100000 in
theorem T_L_upper : ∀ e ∈ t_L_upper, decode cL_upper e.1 = .ok e.2 := by decide +kernel
def t_L_lower : List (Nat × Instr × Nat) := [(0, .aload_n 2, 1), (1, .aload_n 0, 1), (2, .iload_n 1, 1), (3, .invokevirtual 50, 3), (6, .i2l, 1), (7, .putfield 13, 3), (10, .goto 6, 3), (13, .astore_n 3, 1), (14, .iconst 1, 1), (15, .ireturn, 1), (16, .iconst 0, 1), (17, .ireturn, 1)]
set_option maxRecDepth 100000 in
theorem T_L_lower : ∀ e ∈ t_L_lower, decode cL_lower e.1 = .ok e.2 := by decide +kernel
def t_L_grade : List (Nat × Instr × Nat) := [(0, .aload_n 3, 1), (1, .aload_n 0, 1), (2, .iload_n 1, 1), (3, .iload_n 2, 1), (4, .invokevirtual 53, 3), (7, .i2l, 1), (8, .putfield 13, 3), (11, .goto 11, 3), (14, .astore 4, 2), (16, .iconst 1, 1), (17, .ireturn, 1), (18, .astore 4, 2), (20, .iconst 2, 1), (21, .ireturn, 1), (22, .iconst 0, 1), (23, .ireturn, 1)]
set_option maxRecDepth 100000 in
theorem T_L_grade : ∀ e ∈ t_L_grade, decode cL_grade e.1 = .ok e.2 := by decide +kernel
def t_L_order : List (Nat × Instr × Nat) := [(0, .aload 4, 2), (2, .aload_n 0, 1), (3, .iload_n 1, 1), (4, .iload_n 2, 1), (5, .iload_n 3, 1), (6, .invokevirtual 56, 3), (9, .i2l, 1), (10, .putfield 13, 3), (13, .goto 11, 3), (16, .astore 5, 2), (18, .iconst 1, 1), (19, .ireturn, 1), (20, .astore 5, 2), (22, .iconst 2, 1), (23, .ireturn, 1), (24, .iconst 0, 1), (25, .ireturn, 1)]
set_option maxRecDepth 100000 in
theorem T_L_order : ∀ e ∈ t_L_order, decode cL_order e.1 = .ok e.2 := by decide +kernel
def t_L_like : List (Nat × Instr × Nat) := [(0, .aload_n 3, 1), (1, .aload_n 0, 1), (2, .iload_n 1, 1), (3, .iload_n 2, 1), (4, .invokevirtual 59, 3), (7, .ifCond .eq 7, 3), (10, .lconst 1, 1), (11, .goto 4, 3), (14, .lconst 0, 1), (15, .putfield 13, 3), (18, .goto 7, 3), (21, .astore 4, 2), (23, .iconst 1, 1), (24, .ireturn, 1), (25, .iconst 0, 1), (26, .ireturn, 1)]
set_option maxRecDepth 100000 in
theorem T_L_like : ∀ e ∈ t_L_like, decode cL_like e.1 = .ok e.2 := by decide +kernel
def t_L_same : List (Nat × Instr × Nat) := [(0, .aload 4, 2), (2, .aload_n 0, 1), (3, .iload_n 1, 1), (4, .iload_n 2, 1), (5, .iload_n 3, 1), (6, .invokevirtual 63, 3), (9, .ifCond .eq 7, 3), (12, .lconst 1, 1), (13, .goto 4, 3), (16, .lconst 0, 1), (17, .putfield 13, 3), (20, .goto 11, 3), (23, .astore 5, 2), (25, .iconst 1, 1), (26, .ireturn, 1), (27, .astore 5, 2), (29, .iconst 2, 1), (30, .ireturn, 1), (31, .iconst 0, 1), (32, .ireturn, 1)]
set_option maxRecDepth 100000 in
theorem T_L_same : ∀ e ∈ t_L_same, decode cL_same e.1 = .ok e.2 := by decide +kernel
def t_L_side : List (Nat × Instr × Nat) := [(0, .aload_n 3, 1), (1, .aload_n 0, 1), (2, .iload_n 1, 1), (3, .iload_n 2, 1), (4, .invokevirtual 67, 3), (7, .i2l, 1), (8, .putfield 13, 3), (11, .goto 7, 3), (14, .astore 4, 2), (16, .iconst 1, 1), (17, .ireturn, 1), (18, .iconst 0, 1), (19, .ireturn, 1)]
set_option maxRecDepth 100000 in
theorem T_L_side : ∀ e ∈ t_L_side, decode cL_side e.1 = .ok e.2 := by decide +kernel
def t_L_eighth : List (Nat × Instr × Nat) := [(0, .aload_n 2, 1), (1, .aload_n 0, 1), (2, .iload_n 1, 1), (3, .invokevirtual 70, 3), (6, .i2l, 1), (7, .putfield 13, 3), (10, .goto 6, 3), (13, .astore_n 3, 1), (14, .iconst 1, 1), (15, .ireturn, 1), (16, .iconst 0, 1), (17, .ireturn, 1)]
set_option maxRecDepth 100000 in
theorem T_L_eighth : ∀ e ∈ t_L_eighth, decode cL_eighth e.1 = .ok e.2 := by decide +kernel
def t_L_rule : List (Nat × Instr × Nat) := [(0, .aload_n 3, 1), (1, .aload_n 0, 1), (2, .iload_n 1, 1), (3, .iload_n 2, 1), (4, .invokevirtual 73, 3), (7, .i2l, 1), (8, .putfield 13, 3), (11, .goto 11, 3), (14, .astore 4, 2), (16, .iconst 1, 1), (17, .ireturn, 1), (18, .astore 4, 2), (20, .iconst 2, 1), (21, .ireturn, 1), (22, .iconst 0, 1), (23, .ireturn, 1)]
set_option maxRecDepth 100000 in
theorem T_L_rule : ∀ e ∈ t_L_rule, decode cL_rule e.1 = .ok e.2 := by decide +kernel
def t_L_find : List (Nat × Instr × Nat) := [(0, .aload_n 3, 1), (1, .aload_n 0, 1), (2, .iload_n 1, 1), (3, .iload_n 2, 1), (4, .invokevirtual 76, 3), (7, .i2l, 1), (8, .putfield 13, 3), (11, .goto 7, 3), (14, .astore 4, 2), (16, .iconst 1, 1), (17, .ireturn, 1), (18, .iconst 0, 1), (19, .ireturn, 1)]
set_option maxRecDepth 100000 in
theorem T_L_find : ∀ e ∈ t_L_find, decode cL_find e.1 = .ok e.2 := by decide +kernel
def t_L_addPlace : List (Nat × Instr × Nat) := [(0, .aload_n 3, 1), (1, .aload_n 0, 1), (2, .iload_n 1, 1), (3, .iload_n 2, 1), (4, .invokevirtual 80, 3), (7, .i2l, 1), (8, .putfield 13, 3), (11, .goto 7, 3), (14, .astore 4, 2), (16, .iconst 1, 1), (17, .ireturn, 1), (18, .iconst 0, 1), (19, .ireturn, 1)]
set_option maxRecDepth 100000 in
theorem T_L_addPlace : ∀ e ∈ t_L_addPlace, decode cL_addPlace e.1 = .ok e.2 := by decide +kernel
def t_L_removePlace : List (Nat × Instr × Nat) := [(0, .aload_n 2, 1), (1, .aload_n 0, 1), (2, .iload_n 1, 1), (3, .invokevirtual 83, 3), (6, .i2l, 1), (7, .putfield 13, 3), (10, .goto 6, 3), (13, .astore_n 3, 1), (14, .iconst 1, 1), (15, .ireturn, 1), (16, .iconst 0, 1), (17, .ireturn, 1)]
set_option maxRecDepth 100000 in
theorem T_L_removePlace : ∀ e ∈ t_L_removePlace, decode cL_removePlace e.1 = .ok e.2 := by decide +kernel
def t_L_movePlace : List (Nat × Instr × Nat) := [(0, .aload 4, 2), (2, .aload_n 0, 1), (3, .iload_n 1, 1), (4, .iload_n 2, 1), (5, .iload_n 3, 1), (6, .invokevirtual 86, 3), (9, .i2l, 1), (10, .putfield 13, 3), (13, .goto 11, 3), (16, .astore 5, 2), (18, .iconst 1, 1), (19, .ireturn, 1), (20, .astore 5, 2), (22, .iconst 2, 1), (23, .ireturn, 1), (24, .iconst 0, 1), (25, .ireturn, 1)]
set_option maxRecDepth 100000 in
theorem T_L_movePlace : ∀ e ∈ t_L_movePlace, decode cL_movePlace e.1 = .ok e.2 := by decide +kernel
def t_L_centre : List (Nat × Instr × Nat) := [(0, .aload_n 3, 1), (1, .aload_n 0, 1), (2, .iload_n 1, 1), (3, .iload_n 2, 1), (4, .invokevirtual 89, 3), (7, .i2l, 1), (8, .putfield 13, 3), (11, .goto 7, 3), (14, .astore 4, 2), (16, .iconst 1, 1), (17, .ireturn, 1), (18, .iconst 0, 1), (19, .ireturn, 1)]
set_option maxRecDepth 100000 in
theorem T_L_centre : ∀ e ∈ t_L_centre, decode cL_centre e.1 = .ok e.2 := by decide +kernel
def t_L_place : List (Nat × Instr × Nat) := [(0, .aload_n 3, 1), (1, .aload_n 0, 1), (2, .iload_n 1, 1), (3, .iload_n 2, 1), (4, .invokevirtual 92, 3), (7, .i2l, 1), (8, .putfield 13, 3), (11, .goto 7, 3), (14, .astore 4, 2), (16, .iconst 1, 1), (17, .ireturn, 1), (18, .iconst 0, 1), (19, .ireturn, 1)]
set_option maxRecDepth 100000 in
theorem T_L_place : ∀ e ∈ t_L_place, decode cL_place e.1 = .ok e.2 := by decide +kernel
def t_L_bearing : List (Nat × Instr × Nat) := [(0, .aload 4, 2), (2, .aload_n 0, 1), (3, .iload_n 1, 1), (4, .iload_n 2, 1), (5, .iload_n 3, 1), (6, .invokevirtual 95, 3), (9, .i2l, 1), (10, .putfield 13, 3), (13, .goto 11, 3), (16, .astore 5, 2), (18, .iconst 1, 1), (19, .ireturn, 1), (20, .astore 5, 2), (22, .iconst 2, 1), (23, .ireturn, 1), (24, .iconst 0, 1), (25, .ireturn, 1)]
set_option maxRecDepth 100000 in
theorem T_L_bearing : ∀ e ∈ t_L_bearing, decode cL_bearing e.1 = .ok e.2 := by decide +kernel
def t_L_bearingOrder : List (Nat × Instr × Nat) := [(0, .aload 4, 2), (2, .aload_n 0, 1), (3, .iload_n 1, 1), (4, .iload_n 2, 1), (5, .iload_n 3, 1), (6, .invokevirtual 98, 3), (9, .i2l, 1), (10, .putfield 13, 3), (13, .goto 7, 3), (16, .astore 5, 2), (18, .iconst 1, 1), (19, .ireturn, 1), (20, .iconst 0, 1), (21, .ireturn, 1)]
set_option maxRecDepth 100000 in
theorem T_L_bearingOrder : ∀ e ∈ t_L_bearingOrder, decode cL_bearingOrder e.1 = .ok e.2 := by decide +kernel
def t_L_left : List (Nat × Instr × Nat) := [(0, .aload 4, 2), (2, .aload_n 0, 1), (3, .iload_n 1, 1), (4, .iload_n 2, 1), (5, .iload_n 3, 1), (6, .invokevirtual 101, 3), (9, .i2l, 1), (10, .putfield 13, 3), (13, .goto 7, 3), (16, .astore 5, 2), (18, .iconst 1, 1), (19, .ireturn, 1), (20, .iconst 0, 1), (21, .ireturn, 1)]
set_option maxRecDepth 100000 in
theorem T_L_left : ∀ e ∈ t_L_left, decode cL_left e.1 = .ok e.2 := by decide +kernel
def t_L_house : List (Nat × Instr × Nat) := [(0, .aload_n 2, 1), (1, .aload_n 0, 1), (2, .iload_n 1, 1), (3, .invokevirtual 104, 3), (6, .i2l, 1), (7, .putfield 13, 3), (10, .goto 6, 3), (13, .astore_n 3, 1), (14, .iconst 1, 1), (15, .ireturn, 1), (16, .iconst 0, 1), (17, .ireturn, 1)]
set_option maxRecDepth 100000 in
theorem T_L_house : ∀ e ∈ t_L_house, decode cL_house e.1 = .ok e.2 := by decide +kernel
def t_X4_init : List (Nat × Instr × Nat) := [(0, .aload_n 0, 1), (1, .invokespecial 1, 3), (4, .return_, 1)]
set_option maxRecDepth 100000 in
theorem T_X4_init : ∀ e ∈ t_X4_init, decode cX4_init e.1 = .ok e.2 := by decide +kernel
end
section
theorem aj_in {w : Cond} (i : Nat) (h : lw_tbl[i]? = some w) (hg : goodWord w = true) : w ∈ aj_TB := List.mem_filter.mpr ⟨List.mem_append_left _ (List.mem_of_getElem? h), hg⟩
theorem aj_inx {w : Cond} (i : Nat) (h : aj_XW[i]? = some w) (hg : goodWord w = true) : w ∈ aj_TB := List.mem_filter.mpr ⟨List.mem_append_right _ (List.mem_of_getElem? h), hg⟩
theorem cd_X3_init : aj_cd yX3_init cX3_init 2 none 0 := ⟨(aj_in 84 (by decide +kernel) rfl), (aj_in 58 (by decide +kernel) rfl), by decide +kernel⟩
theorem iv_X3_init : Cond.instanceMethod yX3_init ∈ aj_TB := (aj_in 83 (by decide +kernel) rfl)
theorem ml_RX3_1 : Cond.methodLink RX3 1 Lib.objectInit ∈ aj_TB := (aj_in 85 (by decide +kernel) rfl)
theorem ac_RX3_9 : Cond.classLink RX3 9 "Raywalk$Step" ∈ aj_TB := (aj_in 88 (by decide +kernel) rfl)
theorem fl_RX3_11 : aj_FL RX3 11 4 0 := ⟨by decide, by decide, (aj_in 156 (by decide +kernel) rfl)⟩
theorem fl_RX3_15 : aj_FL RX3 15 4 1 := ⟨by decide, by decide, (aj_in 157 (by decide +kernel) rfl)⟩
theorem fl_RX3_18 : aj_FL RX3 18 4 2 := ⟨by decide, by decide, (aj_in 158 (by decide +kernel) rfl)⟩
theorem nw_RX3_9 : aj_NW RX3 9 3 := ⟨by decide, (aj_in 88 (by decide +kernel) rfl), (aj_in 90 (by decide +kernel) rfl), (aj_in 59 (by decide +kernel) rfl)⟩
theorem ml_RX3_22 : (RX3, 22, yX2_init, RX3) ∈ aj_NM := by decide +kernel
theorem fl_RX3_23 : aj_FL RX3 23 4 3 := ⟨by decide, by decide, (aj_in 159 (by decide +kernel) rfl)⟩
theorem fl_RX3_27 : aj_FL RX3 27 4 4 := ⟨by decide, by decide, (aj_in 160 (by decide +kernel) rfl)⟩
theorem nw_RX3_30 : aj_NW RX3 30 2 := ⟨by decide, (aj_in 112 (by decide +kernel) rfl), (aj_in 113 (by decide +kernel) rfl), (aj_in 60 (by decide +kernel) rfl)⟩
theorem ml_RX3_32 : (RX3, 32, yX1_init, RX3) ∈ aj_NM := by decide +kernel
theorem fl_RX3_33 : aj_FL RX3 33 4 5 := ⟨by decide, by decide, (aj_in 161 (by decide +kernel) rfl)⟩
theorem cd_X3_put : aj_cd yX3_put cX3_put 5 (some .int) 4 := ⟨(aj_in 907 (by decide +kernel) rfl), (aj_in 58 (by decide +kernel) rfl), by decide +kernel⟩
theorem cv_X3_put : aj_cv yX3_put := ⟨(aj_in 905 (by decide +kernel) rfl), (aj_in 906 (by decide +kernel) rfl)⟩
theorem ml_RX3_37 : Cond.methodLink RX3 37 yX3_checkCell ∈ aj_TB := (aj_in 782 (by decide +kernel) rfl)
theorem ml_RX3_41 : Cond.methodLink RX3 41 yX3_checkBetween ∈ aj_TB := (aj_in 839 (by decide +kernel) rfl)
theorem ml_RX3_45 : Cond.methodLink RX3 45 yX2_become ∈ aj_TB := (aj_in 854 (by decide +kernel) rfl)
theorem ml_RX3_48 : Cond.methodLink RX3 48 yX3_comeTo ∈ aj_TB := (aj_in 908 (by decide +kernel) rfl)
theorem cd_X3_make : aj_cd yX3_make cX3_make 3 (some .int) 2 := ⟨(aj_in 918 (by decide +kernel) rfl), (aj_in 58 (by decide +kernel) rfl), by decide +kernel⟩
theorem cv_X3_make : aj_cv yX3_make := ⟨(aj_in 916 (by decide +kernel) rfl), (aj_in 917 (by decide +kernel) rfl)⟩
theorem ml_RX3_52 : Cond.methodLink RX3 52 yX2_becomeByRule ∈ aj_TB := (aj_in 919 (by decide +kernel) rfl)
theorem cd_X3_stretch : aj_cd yX3_stretch cX3_stretch 4 (some .int) 2 := ⟨(aj_in 930 (by decide +kernel) rfl), (aj_in 58 (by decide +kernel) rfl), by decide +kernel⟩
theorem cv_X3_stretch : aj_cv yX3_stretch := ⟨(aj_in 928 (by decide +kernel) rfl), (aj_in 929 (by decide +kernel) rfl)⟩
theorem fl_RX3_56 : aj_FL RX3 56 3 0 := ⟨by decide, by decide, (aj_in 96 (by decide +kernel) rfl)⟩
theorem fl_RX3_60 : aj_FL RX3 60 3 1 := ⟨by decide, by decide, (aj_in 98 (by decide +kernel) rfl)⟩
theorem fl_RX3_63 : aj_FL RX3 63 3 2 := ⟨by decide, by decide, (aj_in 100 (by decide +kernel) rfl)⟩
theorem ml_RX3_66 : Cond.methodLink RX3 66 yX3_comeOrRefuse ∈ aj_TB := (aj_in 931 (by decide +kernel) rfl)
theorem cd_X3_addSteps : aj_cd yX3_addSteps cX3_addSteps 6 (some .int) 3 := ⟨(aj_in 948 (by decide +kernel) rfl), (aj_in 58 (by decide +kernel) rfl), by decide +kernel⟩
theorem cv_X3_addSteps : aj_cv yX3_addSteps := ⟨(aj_in 946 (by decide +kernel) rfl), (aj_in 947 (by decide +kernel) rfl)⟩
theorem cd_X3_takeStep : aj_cd yX3_takeStep cX3_takeStep 4 (some .int) 3 := ⟨(aj_in 955 (by decide +kernel) rfl), (aj_in 58 (by decide +kernel) rfl), by decide +kernel⟩
theorem cv_X3_takeStep : aj_cv yX3_takeStep := ⟨(aj_in 953 (by decide +kernel) rfl), (aj_in 954 (by decide +kernel) rfl)⟩
theorem ml_RX3_70 : Cond.methodLink RX3 70 yX3_checkPlace ∈ aj_TB := (aj_in 956 (by decide +kernel) rfl)
theorem ml_RX3_73 : Cond.methodLink RX3 73 yX1_stepBetween ∈ aj_TB := (aj_in 961 (by decide +kernel) rfl)
theorem cd_X3_sortSteps : aj_cd yX3_sortSteps cX3_sortSteps 4 (some .int) 1 := ⟨(aj_in 190 (by decide +kernel) rfl), (aj_in 58 (by decide +kernel) rfl), by decide +kernel⟩
theorem cv_X3_sortSteps : aj_cv yX3_sortSteps := ⟨(aj_in 188 (by decide +kernel) rfl), (aj_in 189 (by decide +kernel) rfl)⟩
theorem ml_RX3_77 : Cond.methodLink RX3 77 yX3_sinkIntoSorted ∈ aj_TB := (aj_in 191 (by decide +kernel) rfl)
theorem ml_RX3_81 : Cond.methodLink RX3 81 yX2_isTwinOf ∈ aj_TB := (aj_in 203 (by decide +kernel) rfl)
theorem fl_RX3_85 : aj_FL RX3 85 4 6 := ⟨by decide, by decide, (aj_in 162 (by decide +kernel) rfl)⟩
theorem cd_X3_sinkIntoSorted : aj_cd yX3_sinkIntoSorted cX3_sinkIntoSorted 6 none 2 := ⟨(aj_in 194 (by decide +kernel) rfl), (aj_in 58 (by decide +kernel) rfl), by decide +kernel⟩
theorem cv_X3_sinkIntoSorted : aj_cv yX3_sinkIntoSorted := ⟨(aj_in 193 (by decide +kernel) rfl), (aj_in 0 (by decide +kernel) rfl)⟩
theorem ml_RX3_88 : Cond.methodLink RX3 88 yX2_orderTo ∈ aj_TB := (aj_in 195 (by decide +kernel) rfl)
theorem cd_X3_comeOrRefuse : aj_cd yX3_comeOrRefuse cX3_comeOrRefuse 5 (some .int) 4 := ⟨(aj_in 934 (by decide +kernel) rfl), (aj_in 58 (by decide +kernel) rfl), by decide +kernel⟩
theorem cv_X3_comeOrRefuse : aj_cv yX3_comeOrRefuse := ⟨(aj_in 933 (by decide +kernel) rfl), (aj_in 19 (by decide +kernel) rfl)⟩
theorem ml_RX3_92 : Cond.methodLink RX3 92 yX3_isCoordinate ∈ aj_TB := (aj_in 935 (by decide +kernel) rfl)
theorem ml_RX3_96 : Cond.methodLink RX3 96 yX3_refuse ∈ aj_TB := (aj_in 938 (by decide +kernel) rfl)
theorem cd_X3_comeTo : aj_cd yX3_comeTo cX3_comeTo 3 (some .int) 1 := ⟨(aj_in 911 (by decide +kernel) rfl), (aj_in 58 (by decide +kernel) rfl), by decide +kernel⟩
theorem cv_X3_comeTo : aj_cv yX3_comeTo := ⟨(aj_in 910 (by decide +kernel) rfl), (aj_in 18 (by decide +kernel) rfl)⟩
theorem cd_X3_refuse : aj_cd yX3_refuse cX3_refuse 1 (some .int) 0 := ⟨(aj_in 941 (by decide +kernel) rfl), (aj_in 58 (by decide +kernel) rfl), by decide +kernel⟩
theorem cv_X3_refuse : aj_cv yX3_refuse := ⟨(aj_in 940 (by decide +kernel) rfl), (aj_in 20 (by decide +kernel) rfl)⟩
theorem fl_RX3_100 : aj_FL RX3 100 4 8 := ⟨by decide, by decide, (aj_in 164 (by decide +kernel) rfl)⟩
theorem cd_X3_across : aj_cd yX3_across cX3_across 2 (some .int) 1 := ⟨(aj_in 781 (by decide +kernel) rfl), (aj_in 58 (by decide +kernel) rfl), by decide +kernel⟩
theorem cv_X3_across : aj_cv yX3_across := ⟨(aj_in 779 (by decide +kernel) rfl), (aj_in 780 (by decide +kernel) rfl)⟩
theorem cd_X3_up : aj_cd yX3_up cX3_up 2 (some .int) 1 := ⟨(aj_in 808 (by decide +kernel) rfl), (aj_in 58 (by decide +kernel) rfl), by decide +kernel⟩
theorem cv_X3_up : aj_cv yX3_up := ⟨(aj_in 806 (by decide +kernel) rfl), (aj_in 807 (by decide +kernel) rfl)⟩
theorem cd_X3_signs : aj_cd yX3_signs cX3_signs 2 (some .int) 1 := ⟨(aj_in 812 (by decide +kernel) rfl), (aj_in 58 (by decide +kernel) rfl), by decide +kernel⟩
theorem cv_X3_signs : aj_cv yX3_signs := ⟨(aj_in 810 (by decide +kernel) rfl), (aj_in 811 (by decide +kernel) rfl)⟩
theorem cd_X3_upper : aj_cd yX3_upper cX3_upper 2 (some .int) 1 := ⟨(aj_in 816 (by decide +kernel) rfl), (aj_in 58 (by decide +kernel) rfl), by decide +kernel⟩
theorem cv_X3_upper : aj_cv yX3_upper := ⟨(aj_in 814 (by decide +kernel) rfl), (aj_in 815 (by decide +kernel) rfl)⟩
theorem ml_RX3_103 : Cond.methodLink RX3 103 yX2_angle ∈ aj_TB := (aj_in 699 (by decide +kernel) rfl)
theorem ml_RX3_107 : Cond.methodLink RX3 107 yX2_firstDigits ∈ aj_TB := (aj_in 725 (by decide +kernel) rfl)
theorem cd_X3_lower : aj_cd yX3_lower cX3_lower 2 (some .int) 1 := ⟨(aj_in 820 (by decide +kernel) rfl), (aj_in 58 (by decide +kernel) rfl), by decide +kernel⟩
theorem cv_X3_lower : aj_cv yX3_lower := ⟨(aj_in 818 (by decide +kernel) rfl), (aj_in 819 (by decide +kernel) rfl)⟩
theorem ml_RX3_111 : Cond.methodLink RX3 111 yX2_isFixed ∈ aj_TB := (aj_in 821 (by decide +kernel) rfl)
theorem ml_RX3_115 : Cond.methodLink RX3 115 yX2_lastDigits ∈ aj_TB := (aj_in 829 (by decide +kernel) rfl)
theorem cd_X3_grade : aj_cd yX3_grade cX3_grade 3 (some .int) 2 := ⟨(aj_in 838 (by decide +kernel) rfl), (aj_in 58 (by decide +kernel) rfl), by decide +kernel⟩
theorem cv_X3_grade : aj_cv yX3_grade := ⟨(aj_in 836 (by decide +kernel) rfl), (aj_in 837 (by decide +kernel) rfl)⟩
theorem ml_RX3_118 : Cond.methodLink RX3 118 yX0_roundDown ∈ aj_TB := (aj_in 845 (by decide +kernel) rfl)
theorem cd_X3_order : aj_cd yX3_order cX3_order 4 (some .int) 3 := ⟨(aj_in 862 (by decide +kernel) rfl), (aj_in 58 (by decide +kernel) rfl), by decide +kernel⟩
theorem cv_X3_order : aj_cv yX3_order := ⟨(aj_in 860 (by decide +kernel) rfl), (aj_in 861 (by decide +kernel) rfl)⟩
theorem cd_X3_like : aj_cd yX3_like cX3_like 3 (some .boolean) 2 := ⟨(aj_in 866 (by decide +kernel) rfl), (aj_in 58 (by decide +kernel) rfl), by decide +kernel⟩
theorem cv_X3_like : aj_cv yX3_like := ⟨(aj_in 864 (by decide +kernel) rfl), (aj_in 865 (by decide +kernel) rfl)⟩
theorem ml_RX3_124 : Cond.methodLink RX3 124 yX2_isOfNoSize ∈ aj_TB := (aj_in 867 (by decide +kernel) rfl)
theorem cd_X3_same : aj_cd yX3_same cX3_same 4 (some .boolean) 3 := ⟨(aj_in 1003 (by decide +kernel) rfl), (aj_in 58 (by decide +kernel) rfl), by decide +kernel⟩
theorem cv_X3_same : aj_cv yX3_same := ⟨(aj_in 1001 (by decide +kernel) rfl), (aj_in 1002 (by decide +kernel) rfl)⟩
theorem cd_X3_side : aj_cd yX3_side cX3_side 3 (some .int) 2 := ⟨(aj_in 871 (by decide +kernel) rfl), (aj_in 58 (by decide +kernel) rfl), by decide +kernel⟩
theorem cv_X3_side : aj_cv yX3_side := ⟨(aj_in 869 (by decide +kernel) rfl), (aj_in 870 (by decide +kernel) rfl)⟩
theorem ml_RX3_127 : Cond.methodLink RX3 127 yX2_isNull ∈ aj_TB := (aj_in 742 (by decide +kernel) rfl)
theorem ml_RX3_130 : Cond.methodLink RX3 130 yX2_sideOf ∈ aj_TB := (aj_in 753 (by decide +kernel) rfl)
theorem cd_X3_eighth : aj_cd yX3_eighth cX3_eighth 4 (some .int) 1 := ⟨(aj_in 851 (by decide +kernel) rfl), (aj_in 58 (by decide +kernel) rfl), by decide +kernel⟩
theorem cv_X3_eighth : aj_cv yX3_eighth := ⟨(aj_in 849 (by decide +kernel) rfl), (aj_in 850 (by decide +kernel) rfl)⟩
theorem gs_RX3_133 : Cond.fieldLink RX3 133 "Raywalk" "MARKS" "[I" ∈ aj_TB := (aj_in 852 (by decide +kernel) rfl)
theorem cd_X3_rule : aj_cd yX3_rule cX3_rule 4 (some .int) 2 := ⟨(aj_in 1018 (by decide +kernel) rfl), (aj_in 58 (by decide +kernel) rfl), by decide +kernel⟩
theorem cv_X3_rule : aj_cv yX3_rule := ⟨(aj_in 1016 (by decide +kernel) rfl), (aj_in 1017 (by decide +kernel) rfl)⟩
theorem cd_X3_find : aj_cd yX3_find cX3_find 5 (some .int) 2 := ⟨(aj_in 858 (by decide +kernel) rfl), (aj_in 58 (by decide +kernel) rfl), by decide +kernel⟩
theorem cv_X3_find : aj_cv yX3_find := ⟨(aj_in 856 (by decide +kernel) rfl), (aj_in 857 (by decide +kernel) rfl)⟩
theorem cd_X3_addPlace : aj_cd yX3_addPlace cX3_addPlace 3 (some .int) 2 := ⟨(aj_in 1029 (by decide +kernel) rfl), (aj_in 58 (by decide +kernel) rfl), by decide +kernel⟩
theorem cv_X3_addPlace : aj_cv yX3_addPlace := ⟨(aj_in 1027 (by decide +kernel) rfl), (aj_in 1028 (by decide +kernel) rfl)⟩
theorem ml_RX3_137 : Cond.methodLink RX3 137 yX3_checkSpot ∈ aj_TB := (aj_in 1030 (by decide +kernel) rfl)
theorem fl_RX3_141 : aj_FL RX3 141 2 2 := ⟨by decide, by decide, (aj_in 125 (by decide +kernel) rfl)⟩
theorem ml_RX3_144 : Cond.methodLink RX3 144 yX1_numberAt ∈ aj_TB := (aj_in 1033 (by decide +kernel) rfl)
theorem fl_RX3_148 : aj_FL RX3 148 4 7 := ⟨by decide, by decide, (aj_in 163 (by decide +kernel) rfl)⟩
theorem ml_RX3_151 : Cond.methodLink RX3 151 yX1_add ∈ aj_TB := (aj_in 1037 (by decide +kernel) rfl)
theorem cd_X3_removePlace : aj_cd yX3_removePlace cX3_removePlace 2 (some .int) 1 := ⟨(aj_in 1047 (by decide +kernel) rfl), (aj_in 58 (by decide +kernel) rfl), by decide +kernel⟩
theorem cv_X3_removePlace : aj_cv yX3_removePlace := ⟨(aj_in 1045 (by decide +kernel) rfl), (aj_in 1046 (by decide +kernel) rfl)⟩
theorem ml_RX3_154 : Cond.methodLink RX3 154 yX1_drop ∈ aj_TB := (aj_in 1048 (by decide +kernel) rfl)
theorem cd_X3_movePlace : aj_cd yX3_movePlace cX3_movePlace 5 (some .int) 3 := ⟨(aj_in 1058 (by decide +kernel) rfl), (aj_in 58 (by decide +kernel) rfl), by decide +kernel⟩
theorem cv_X3_movePlace : aj_cv yX3_movePlace := ⟨(aj_in 1056 (by decide +kernel) rfl), (aj_in 1057 (by decide +kernel) rfl)⟩
theorem ml_RX3_157 : Cond.methodLink RX3 157 yX1_moveTo ∈ aj_TB := (aj_in 1059 (by decide +kernel) rfl)
theorem cd_X3_centre : aj_cd yX3_centre cX3_centre 3 (some .int) 2 := ⟨(aj_in 1069 (by decide +kernel) rfl), (aj_in 58 (by decide +kernel) rfl), by decide +kernel⟩
theorem cv_X3_centre : aj_cv yX3_centre := ⟨(aj_in 1067 (by decide +kernel) rfl), (aj_in 1068 (by decide +kernel) rfl)⟩
theorem cd_X3_turnPlaces : aj_cd yX3_turnPlaces cX3_turnPlaces 1 (some .int) 0 := ⟨(aj_in 210 (by decide +kernel) rfl), (aj_in 58 (by decide +kernel) rfl), by decide +kernel⟩
theorem cv_X3_turnPlaces : aj_cv yX3_turnPlaces := ⟨(aj_in 208 (by decide +kernel) rfl), (aj_in 209 (by decide +kernel) rfl)⟩
theorem ml_RX3_161 : Cond.methodLink RX3 161 yX1_turnAll ∈ aj_TB := (aj_in 211 (by decide +kernel) rfl)
theorem ml_RX3_164 : Cond.methodLink RX3 164 yX1_areaOfHull ∈ aj_TB := (aj_in 260 (by decide +kernel) rfl)
theorem cd_X3_mirrorPlaces : aj_cd yX3_mirrorPlaces cX3_mirrorPlaces 1 (some .int) 0 := ⟨(aj_in 270 (by decide +kernel) rfl), (aj_in 58 (by decide +kernel) rfl), by decide +kernel⟩
theorem cv_X3_mirrorPlaces : aj_cv yX3_mirrorPlaces := ⟨(aj_in 268 (by decide +kernel) rfl), (aj_in 269 (by decide +kernel) rfl)⟩
theorem ml_RX3_167 : Cond.methodLink RX3 167 yX1_mirrorAll ∈ aj_TB := (aj_in 271 (by decide +kernel) rfl)
theorem cd_X3_places : aj_cd yX3_places cX3_places 1 (some .int) 0 := ⟨(aj_in 278 (by decide +kernel) rfl), (aj_in 58 (by decide +kernel) rfl), by decide +kernel⟩
theorem cv_X3_places : aj_cv yX3_places := ⟨(aj_in 276 (by decide +kernel) rfl), (aj_in 277 (by decide +kernel) rfl)⟩
theorem cd_X3_place : aj_cd yX3_place cX3_place 3 (some .int) 2 := ⟨(aj_in 1076 (by decide +kernel) rfl), (aj_in 58 (by decide +kernel) rfl), by decide +kernel⟩
theorem cv_X3_place : aj_cv yX3_place := ⟨(aj_in 1074 (by decide +kernel) rfl), (aj_in 1075 (by decide +kernel) rfl)⟩
theorem fl_RX3_170 : aj_FL RX3 170 2 1 := ⟨by decide, by decide, (aj_in 123 (by decide +kernel) rfl)⟩
theorem fl_RX3_173 : aj_FL RX3 173 2 0 := ⟨by decide, by decide, (aj_in 121 (by decide +kernel) rfl)⟩
theorem cd_X3_centreAt : aj_cd yX3_centreAt cX3_centreAt 2 (some .int) 1 := ⟨(aj_in 282 (by decide +kernel) rfl), (aj_in 58 (by decide +kernel) rfl), by decide +kernel⟩
theorem cv_X3_centreAt : aj_cv yX3_centreAt := ⟨(aj_in 280 (by decide +kernel) rfl), (aj_in 281 (by decide +kernel) rfl)⟩
theorem cd_X3_bearing : aj_cd yX3_bearing cX3_bearing 4 (some .int) 3 := ⟨(aj_in 1083 (by decide +kernel) rfl), (aj_in 58 (by decide +kernel) rfl), by decide +kernel⟩
theorem cv_X3_bearing : aj_cv yX3_bearing := ⟨(aj_in 1081 (by decide +kernel) rfl), (aj_in 1082 (by decide +kernel) rfl)⟩
theorem cd_X3_bearingOrder : aj_cd yX3_bearingOrder cX3_bearingOrder 4 (some .int) 3 := ⟨(aj_in 1090 (by decide +kernel) rfl), (aj_in 58 (by decide +kernel) rfl), by decide +kernel⟩
theorem cv_X3_bearingOrder : aj_cv yX3_bearingOrder := ⟨(aj_in 1088 (by decide +kernel) rfl), (aj_in 1089 (by decide +kernel) rfl)⟩
theorem ml_RX3_176 : Cond.methodLink RX3 176 yX1_orderFrom ∈ aj_TB := (aj_in 1091 (by decide +kernel) rfl)
theorem cd_X3_left : aj_cd yX3_left cX3_left 4 (some .int) 3 := ⟨(aj_in 1101 (by decide +kernel) rfl), (aj_in 58 (by decide +kernel) rfl), by decide +kernel⟩
theorem cv_X3_left : aj_cv yX3_left := ⟨(aj_in 1099 (by decide +kernel) rfl), (aj_in 1100 (by decide +kernel) rfl)⟩
theorem ml_RX3_180 : Cond.methodLink RX3 180 yX1_cross ∈ aj_TB := (aj_in 1102 (by decide +kernel) rfl)
theorem ml_RX3_183 : Cond.methodLink RX3 183 yX3_signOf ∈ aj_TB := (aj_in 1103 (by decide +kernel) rfl)
theorem cd_X3_roundCount : aj_cd yX3_roundCount cX3_roundCount 1 (some .int) 0 := ⟨(aj_in 286 (by decide +kernel) rfl), (aj_in 58 (by decide +kernel) rfl), by decide +kernel⟩
theorem cv_X3_roundCount : aj_cv yX3_roundCount := ⟨(aj_in 284 (by decide +kernel) rfl), (aj_in 285 (by decide +kernel) rfl)⟩
theorem fl_RX3_186 : aj_FL RX3 186 2 4 := ⟨by decide, by decide, (aj_in 129 (by decide +kernel) rfl)⟩
theorem cd_X3_roundText : aj_cd yX3_roundText cX3_roundText 1 (some (.object "java/lang/String")) 0 := ⟨(aj_in 290 (by decide +kernel) rfl), (aj_in 58 (by decide +kernel) rfl), by decide +kernel⟩
theorem cv_X3_roundText : aj_cv yX3_roundText := ⟨(aj_in 288 (by decide +kernel) rfl), (aj_in 289 (by decide +kernel) rfl)⟩
theorem fl_RX3_189 : aj_FL RX3 189 2 3 := ⟨by decide, by decide, (aj_in 127 (by decide +kernel) rfl)⟩
theorem ml_RX3_192 : Cond.methodLink RX3 192 yX3_textOf ∈ aj_TB := (aj_in 291 (by decide +kernel) rfl)
theorem cd_X3_isStar : aj_cd yX3_isStar cX3_isStar 1 (some .boolean) 0 := ⟨(aj_in 626 (by decide +kernel) rfl), (aj_in 58 (by decide +kernel) rfl), by decide +kernel⟩
theorem cv_X3_isStar : aj_cv yX3_isStar := ⟨(aj_in 624 (by decide +kernel) rfl), (aj_in 625 (by decide +kernel) rfl)⟩
theorem ml_RX3_196 : Cond.methodLink RX3 196 yX1_isRoundStar ∈ aj_TB := (aj_in 627 (by decide +kernel) rfl)
theorem cd_X3_starArea : aj_cd yX3_starArea cX3_starArea 1 (some .int) 0 := ⟨(aj_in 649 (by decide +kernel) rfl), (aj_in 58 (by decide +kernel) rfl), by decide +kernel⟩
theorem cv_X3_starArea : aj_cv yX3_starArea := ⟨(aj_in 647 (by decide +kernel) rfl), (aj_in 648 (by decide +kernel) rfl)⟩
theorem ml_RX3_199 : Cond.methodLink RX3 199 yX1_areaOfStar ∈ aj_TB := (aj_in 650 (by decide +kernel) rfl)
theorem cd_X3_hullCount : aj_cd yX3_hullCount cX3_hullCount 1 (some .int) 0 := ⟨(aj_in 658 (by decide +kernel) rfl), (aj_in 58 (by decide +kernel) rfl), by decide +kernel⟩
theorem cv_X3_hullCount : aj_cv yX3_hullCount := ⟨(aj_in 656 (by decide +kernel) rfl), (aj_in 657 (by decide +kernel) rfl)⟩
theorem fl_RX3_202 : aj_FL RX3 202 2 6 := ⟨by decide, by decide, (aj_in 133 (by decide +kernel) rfl)⟩
theorem cd_X3_hullText : aj_cd yX3_hullText cX3_hullText 1 (some (.object "java/lang/String")) 0 := ⟨(aj_in 662 (by decide +kernel) rfl), (aj_in 58 (by decide +kernel) rfl), by decide +kernel⟩
theorem cv_X3_hullText : aj_cv yX3_hullText := ⟨(aj_in 660 (by decide +kernel) rfl), (aj_in 661 (by decide +kernel) rfl)⟩
theorem fl_RX3_205 : aj_FL RX3 205 2 5 := ⟨by decide, by decide, (aj_in 131 (by decide +kernel) rfl)⟩
theorem cd_X3_hullArea : aj_cd yX3_hullArea cX3_hullArea 1 (some .int) 0 := ⟨(aj_in 666 (by decide +kernel) rfl), (aj_in 58 (by decide +kernel) rfl), by decide +kernel⟩
theorem cv_X3_hullArea : aj_cv yX3_hullArea := ⟨(aj_in 664 (by decide +kernel) rfl), (aj_in 665 (by decide +kernel) rfl)⟩
theorem cd_X3_rounds : aj_cd yX3_rounds cX3_rounds 1 (some .int) 0 := ⟨(aj_in 670 (by decide +kernel) rfl), (aj_in 58 (by decide +kernel) rfl), by decide +kernel⟩
theorem cv_X3_rounds : aj_cv yX3_rounds := ⟨(aj_in 668 (by decide +kernel) rfl), (aj_in 669 (by decide +kernel) rfl)⟩
theorem ml_RX3_208 : Cond.methodLink RX3 208 yX1_isCentreOnWalk ∈ aj_TB := (aj_in 671 (by decide +kernel) rfl)
theorem ml_RX3_211 : Cond.methodLink RX3 211 yX1_windings ∈ aj_TB := (aj_in 679 (by decide +kernel) rfl)
theorem cd_X3_textOf : aj_cd yX3_textOf cX3_textOf 4 (some (.object "java/lang/String")) 2 := ⟨(aj_in 293 (by decide +kernel) rfl), (aj_in 58 (by decide +kernel) rfl), by decide +kernel⟩
theorem sv_X3_textOf : Cond.static yX3_textOf ∈ aj_TB := (aj_in 292 (by decide +kernel) rfl)
theorem nw_RX3_214 : aj_NW RX3 214 1 := ⟨by decide, (aj_in 294 (by decide +kernel) rfl), (aj_in 295 (by decide +kernel) rfl), (aj_in 72 (by decide +kernel) rfl)⟩
theorem ml_RX3_216 : Cond.methodLink RX3 216 yJ4_init_da8c8 ∈ aj_TB := (aj_in 296 (by decide +kernel) rfl)
theorem ml_RX3_217 : Cond.methodLink RX3 217 yJ4_append_cf468 ∈ aj_TB := (aj_in 326 (by decide +kernel) rfl)
theorem ml_RX3_221 : Cond.methodLink RX3 221 yJ4_append_bf812 ∈ aj_TB := (aj_in 421 (by decide +kernel) rfl)
theorem ml_RX3_224 : Cond.methodLink RX3 224 yJ4_toString_0e30d ∈ aj_TB := (aj_in 455 (by decide +kernel) rfl)
theorem cd_X3_house : aj_cd yX3_house cX3_house 2 (some .int) 1 := ⟨(aj_in 887 (by decide +kernel) rfl), (aj_in 58 (by decide +kernel) rfl), by decide +kernel⟩
theorem cv_X3_house : aj_cv yX3_house := ⟨(aj_in 885 (by decide +kernel) rfl), (aj_in 886 (by decide +kernel) rfl)⟩
theorem fl_RX3_228 : aj_FL RX3 228 4 9 := ⟨by decide, by decide, (aj_in 165 (by decide +kernel) rfl)⟩
theorem cd_X3_knock : aj_cd yX3_knock cX3_knock 1 (some .int) 0 := ⟨(aj_in 690 (by decide +kernel) rfl), (aj_in 58 (by decide +kernel) rfl), by decide +kernel⟩
theorem cv_X3_knock : aj_cv yX3_knock := ⟨(aj_in 688 (by decide +kernel) rfl), (aj_in 689 (by decide +kernel) rfl)⟩
theorem cd_X3_isSound : aj_cd yX3_isSound cX3_isSound 1 (some .boolean) 0 := ⟨(aj_in 694 (by decide +kernel) rfl), (aj_in 58 (by decide +kernel) rfl), by decide +kernel⟩
theorem cv_X3_isSound : aj_cv yX3_isSound := ⟨(aj_in 692 (by decide +kernel) rfl), (aj_in 693 (by decide +kernel) rfl)⟩
theorem ml_RX3_231 : Cond.methodLink RX3 231 yX3_areAnglesSound ∈ aj_TB := (aj_in 695 (by decide +kernel) rfl)
theorem ml_RX3_234 : Cond.methodLink RX3 234 yX1_isRoundSound ∈ aj_TB := (aj_in 754 (by decide +kernel) rfl)
theorem ml_RX3_237 : Cond.methodLink RX3 237 yX1_isHullSound ∈ aj_TB := (aj_in 758 (by decide +kernel) rfl)
theorem ml_RX3_240 : Cond.methodLink RX3 240 yX1_isStarSound ∈ aj_TB := (aj_in 762 (by decide +kernel) rfl)
theorem cd_X3_areAnglesSound : aj_cd yX3_areAnglesSound cX3_areAnglesSound 3 (some .boolean) 0 := ⟨(aj_in 698 (by decide +kernel) rfl), (aj_in 58 (by decide +kernel) rfl), by decide +kernel⟩
theorem cv_X3_areAnglesSound : aj_cv yX3_areAnglesSound := ⟨(aj_in 697 (by decide +kernel) rfl), (aj_in 14 (by decide +kernel) rfl)⟩
theorem ml_RX3_243 : Cond.methodLink RX3 243 yX3_isPairSound ∈ aj_TB := (aj_in 721 (by decide +kernel) rfl)
theorem cd_X3_isPairSound : aj_cd yX3_isPairSound cX3_isPairSound 6 (some .boolean) 2 := ⟨(aj_in 724 (by decide +kernel) rfl), (aj_in 58 (by decide +kernel) rfl), by decide +kernel⟩
theorem cv_X3_isPairSound : aj_cv yX3_isPairSound := ⟨(aj_in 723 (by decide +kernel) rfl), (aj_in 15 (by decide +kernel) rfl)⟩
theorem ml_RX3_247 : Cond.methodLink RX3 247 yX0_compareDigits ∈ aj_TB := (aj_in 734 (by decide +kernel) rfl)
theorem ml_RX3_250 : Cond.methodLink RX3 250 yX0_sideBetween ∈ aj_TB := (aj_in 746 (by decide +kernel) rfl)
theorem cd_X3_digest : aj_cd yX3_digest cX3_digest 5 (some .long) 0 := ⟨(aj_in 772 (by decide +kernel) rfl), (aj_in 58 (by decide +kernel) rfl), by decide +kernel⟩
theorem cv_X3_digest : aj_cv yX3_digest := ⟨(aj_in 770 (by decide +kernel) rfl), (aj_in 771 (by decide +kernel) rfl)⟩
theorem kc_RX3_254 : Cond.constantLong RX3 254 (7682) ∈ aj_TB := (aj_in 773 (by decide +kernel) rfl)
theorem ml_RX3_256 : Cond.methodLink RX3 256 yX3_withCell ∈ aj_TB := (aj_in 774 (by decide +kernel) rfl)
theorem ml_RX3_260 : Cond.methodLink RX3 260 yX3_order ∈ aj_TB := (aj_in 859 (by decide +kernel) rfl)
theorem ml_RX3_263 : Cond.methodLink RX3 263 yX3_with ∈ aj_TB := (aj_in 801 (by decide +kernel) rfl)
theorem ml_RX3_267 : Cond.methodLink RX3 267 yX3_like ∈ aj_TB := (aj_in 863 (by decide +kernel) rfl)
theorem ml_RX3_270 : Cond.methodLink RX3 270 yX3_side ∈ aj_TB := (aj_in 868 (by decide +kernel) rfl)
theorem ml_RX3_273 : Cond.methodLink RX3 273 yX3_withField ∈ aj_TB := (aj_in 872 (by decide +kernel) rfl)
theorem ml_RX3_277 : Cond.methodLink RX3 277 yX3_house ∈ aj_TB := (aj_in 884 (by decide +kernel) rfl)
theorem ml_RX3_280 : Cond.methodLink RX3 280 yX3_isSound ∈ aj_TB := (aj_in 888 (by decide +kernel) rfl)
theorem cd_X3_withCell : aj_cd yX3_withCell cX3_withCell 6 (some .long) 2 := ⟨(aj_in 777 (by decide +kernel) rfl), (aj_in 58 (by decide +kernel) rfl), by decide +kernel⟩
theorem cv_X3_withCell : aj_cv yX3_withCell := ⟨(aj_in 776 (by decide +kernel) rfl), (aj_in 16 (by decide +kernel) rfl)⟩
theorem ml_RX3_283 : Cond.methodLink RX3 283 yX3_across ∈ aj_TB := (aj_in 778 (by decide +kernel) rfl)
theorem ml_RX3_285 : Cond.methodLink RX3 285 yX3_up ∈ aj_TB := (aj_in 805 (by decide +kernel) rfl)
theorem ml_RX3_287 : Cond.methodLink RX3 287 yX3_signs ∈ aj_TB := (aj_in 809 (by decide +kernel) rfl)
theorem ml_RX3_289 : Cond.methodLink RX3 289 yX3_upper ∈ aj_TB := (aj_in 813 (by decide +kernel) rfl)
theorem ml_RX3_292 : Cond.methodLink RX3 292 yX3_lower ∈ aj_TB := (aj_in 817 (by decide +kernel) rfl)
theorem ml_RX3_295 : Cond.methodLink RX3 295 yX3_grade ∈ aj_TB := (aj_in 835 (by decide +kernel) rfl)
theorem ml_RX3_298 : Cond.methodLink RX3 298 yX3_eighth ∈ aj_TB := (aj_in 848 (by decide +kernel) rfl)
theorem ml_RX3_301 : Cond.methodLink RX3 301 yX3_find ∈ aj_TB := (aj_in 855 (by decide +kernel) rfl)
theorem cd_X3_withField : aj_cd yX3_withField cX3_withField 6 (some .long) 1 := ⟨(aj_in 875 (by decide +kernel) rfl), (aj_in 58 (by decide +kernel) rfl), by decide +kernel⟩
theorem cv_X3_withField : aj_cv yX3_withField := ⟨(aj_in 874 (by decide +kernel) rfl), (aj_in 17 (by decide +kernel) rfl)⟩
theorem ml_RX3_305 : Cond.methodLink RX3 305 yX3_centreAt ∈ aj_TB := (aj_in 876 (by decide +kernel) rfl)
theorem ml_RX3_309 : Cond.methodLink RX3 309 yX3_withRow ∈ aj_TB := (aj_in 877 (by decide +kernel) rfl)
theorem ml_RX3_313 : Cond.methodLink RX3 313 yX3_isStar ∈ aj_TB := (aj_in 880 (by decide +kernel) rfl)
theorem ml_RX3_316 : Cond.methodLink RX3 316 yX3_starArea ∈ aj_TB := (aj_in 881 (by decide +kernel) rfl)
theorem ml_RX3_319 : Cond.methodLink RX3 319 yX3_hullArea ∈ aj_TB := (aj_in 882 (by decide +kernel) rfl)
theorem ml_RX3_322 : Cond.methodLink RX3 322 yX3_rounds ∈ aj_TB := (aj_in 883 (by decide +kernel) rfl)
theorem cd_X3_withRow : aj_cd yX3_withRow cX3_withRow 7 (some .long) 3 := ⟨(aj_in 879 (by decide +kernel) rfl), (aj_in 58 (by decide +kernel) rfl), by decide +kernel⟩
theorem sv_X3_withRow : Cond.static yX3_withRow ∈ aj_TB := (aj_in 878 (by decide +kernel) rfl)
theorem cd_X3_with : aj_cd yX3_with cX3_with 4 (some .long) 2 := ⟨(aj_in 803 (by decide +kernel) rfl), (aj_in 58 (by decide +kernel) rfl), by decide +kernel⟩
theorem sv_X3_with : Cond.static yX3_with ∈ aj_TB := (aj_in 802 (by decide +kernel) rfl)
theorem kc_RX3_325 : Cond.constantLong RX3 325 (31) ∈ aj_TB := (aj_in 804 (by decide +kernel) rfl)
theorem cd_X3_checkCell : aj_cd yX3_checkCell cX3_checkCell 1 none 1 := ⟨(aj_in 784 (by decide +kernel) rfl), (aj_in 58 (by decide +kernel) rfl), by decide +kernel⟩
theorem sv_X3_checkCell : Cond.static yX3_checkCell ∈ aj_TB := (aj_in 783 (by decide +kernel) rfl)
-- call? Raywalk Method java/lang/IndexOutOfBoundsException."<init>":(Ljava/lang/String;)V
theorem cd_X3_checkPlace : aj_cd yX3_checkPlace cX3_checkPlace 2 none 1 := ⟨(aj_in 959 (by decide +kernel) rfl), (aj_in 58 (by decide +kernel) rfl), by decide +kernel⟩
theorem cv_X3_checkPlace : aj_cv yX3_checkPlace := ⟨(aj_in 958 (by decide +kernel) rfl), (aj_in 21 (by decide +kernel) rfl)⟩
theorem cd_X3_checkSpot : aj_cd yX3_checkSpot cX3_checkSpot 2 none 2 := ⟨(aj_in 1032 (by decide +kernel) rfl), (aj_in 58 (by decide +kernel) rfl), by decide +kernel⟩
theorem sv_X3_checkSpot : Cond.static yX3_checkSpot ∈ aj_TB := (aj_in 1031 (by decide +kernel) rfl)
theorem cd_X3_checkBetween : aj_cd yX3_checkBetween cX3_checkBetween 3 none 3 := ⟨(aj_in 841 (by decide +kernel) rfl), (aj_in 58 (by decide +kernel) rfl), by decide +kernel⟩
theorem sv_X3_checkBetween : Cond.static yX3_checkBetween ∈ aj_TB := (aj_in 840 (by decide +kernel) rfl)
-- call? Raywalk Method java/lang/IllegalArgumentException."<init>":(Ljava/lang/String;)V
theorem cd_X3_isCoordinate : aj_cd yX3_isCoordinate cX3_isCoordinate 1 (some .boolean) 1 := ⟨(aj_in 937 (by decide +kernel) rfl), (aj_in 58 (by decide +kernel) rfl), by decide +kernel⟩
theorem sv_X3_isCoordinate : Cond.static yX3_isCoordinate ∈ aj_TB := (aj_in 936 (by decide +kernel) rfl)
theorem cd_X3_signOf : aj_cd yX3_signOf cX3_signOf 2 (some .int) 1 := ⟨(aj_in 645 (by decide +kernel) rfl), (aj_in 58 (by decide +kernel) rfl), by decide +kernel⟩
theorem sv_X3_signOf : Cond.static yX3_signOf ∈ aj_TB := (aj_in 644 (by decide +kernel) rfl)
theorem cd_X5_init : aj_cd yX5_init cX5_init 2 none 0 := ⟨(aj_in 1112 (by decide +kernel) rfl), (aj_in 61 (by decide +kernel) rfl), by decide +kernel⟩
theorem iv_X5_init : Cond.instanceMethod yX5_init ∈ aj_TB := (aj_in 1111 (by decide +kernel) rfl)
theorem ml_RX5_3 : Cond.methodLink RX5 3 Lib.objectInit ∈ aj_TB := (aj_in 1113 (by decide +kernel) rfl)
theorem fl_RX5_9 : aj_FL RX5 9 6 1 := ⟨by decide, by decide, (aj_in 1115 (by decide +kernel) rfl)⟩
theorem fl_RX5_13 : aj_FL RX5 13 6 2 := ⟨by decide, by decide, (aj_in 1116 (by decide +kernel) rfl)⟩
theorem fl_RX5_16 : aj_FL RX5 16 6 3 := ⟨by decide, by decide, (aj_in 1117 (by decide +kernel) rfl)⟩
theorem fl_RX5_19 : aj_FL RX5 19 6 4 := ⟨by decide, by decide, (aj_in 1118 (by decide +kernel) rfl)⟩
theorem fl_RX5_23 : aj_FL RX5 23 6 5 := ⟨by decide, by decide, (aj_in 1119 (by decide +kernel) rfl)⟩
theorem fl_RX5_26 : aj_FL RX5 26 6 6 := ⟨by decide, by decide, (aj_in 1120 (by decide +kernel) rfl)⟩
theorem fl_RX5_29 : aj_FL RX5 29 6 10 := ⟨by decide, by decide, (aj_in 1124 (by decide +kernel) rfl)⟩
theorem cd_X5_refuse : aj_cd yX5_refuse cX5_refuse 3 (some .boolean) 2 := ⟨(aj_in 1165 (by decide +kernel) rfl), (aj_in 61 (by decide +kernel) rfl), by decide +kernel⟩
theorem cv_X5_refuse : aj_cv yX5_refuse := ⟨(aj_in 1164 (by decide +kernel) rfl), (aj_in 23 (by decide +kernel) rfl)⟩
theorem fl_RX5_32 : aj_FL RX5 32 6 0 := ⟨by decide, by decide, (aj_in 1114 (by decide +kernel) rfl)⟩
theorem cd_X5_start : aj_cd yX5_start cX5_start 3 (some .boolean) 2 := ⟨(aj_in 1161 (by decide +kernel) rfl), (aj_in 61 (by decide +kernel) rfl), by decide +kernel⟩
theorem cv_X5_start : aj_cv yX5_start := ⟨(aj_in 1160 (by decide +kernel) rfl), (aj_in 22 (by decide +kernel) rfl)⟩
theorem ml_RX5_36 : Cond.methodLink RX5 36 yX5_refuse ∈ aj_TB := (aj_in 1162 (by decide +kernel) rfl)
theorem cd_X5_isIn : aj_cd yX5_isIn cX5_isIn 3 (some .boolean) 3 := ⟨(aj_in 1157 (by decide +kernel) rfl), (aj_in 61 (by decide +kernel) rfl), by decide +kernel⟩
theorem sv_X5_isIn : Cond.static yX5_isIn ∈ aj_TB := (aj_in 1156 (by decide +kernel) rfl)
theorem cd_X5_isNoCell : aj_cd yX5_isNoCell cX5_isNoCell 1 (some .boolean) 1 := ⟨(aj_in 1154 (by decide +kernel) rfl), (aj_in 61 (by decide +kernel) rfl), by decide +kernel⟩
theorem sv_X5_isNoCell : Cond.static yX5_isNoCell ∈ aj_TB := (aj_in 1153 (by decide +kernel) rfl)
theorem ml_RX5_40 : Cond.methodLink RX5 40 yX5_isIn ∈ aj_TB := (aj_in 1155 (by decide +kernel) rfl)
theorem cd_X5_isNoAt : aj_cd yX5_isNoAt cX5_isNoAt 2 (some .boolean) 2 := ⟨(aj_in 1360 (by decide +kernel) rfl), (aj_in 61 (by decide +kernel) rfl), by decide +kernel⟩
theorem sv_X5_isNoAt : Cond.static yX5_isNoAt ∈ aj_TB := (aj_in 1359 (by decide +kernel) rfl)
theorem cd_X5_isNoPlace : aj_cd yX5_isNoPlace cX5_isNoPlace 2 (some .boolean) 1 := ⟨(aj_in 1243 (by decide +kernel) rfl), (aj_in 61 (by decide +kernel) rfl), by decide +kernel⟩
theorem cv_X5_isNoPlace : aj_cv yX5_isNoPlace := ⟨(aj_in 1242 (by decide +kernel) rfl), (aj_in 29 (by decide +kernel) rfl)⟩
theorem fl_RX5_44 : aj_FL RX5 44 6 7 := ⟨by decide, by decide, (aj_in 1121 (by decide +kernel) rfl)⟩
theorem cd_X5_one : aj_cd yX5_one cX5_one 1 (some .int) 1 := ⟨(aj_in 1175 (by decide +kernel) rfl), (aj_in 61 (by decide +kernel) rfl), by decide +kernel⟩
theorem sv_X5_one : Cond.static yX5_one ∈ aj_TB := (aj_in 1174 (by decide +kernel) rfl)
theorem cd_X5_cross : aj_cd yX5_cross cX5_cross 4 (some .int) 4 := ⟨(aj_in 1192 (by decide +kernel) rfl), (aj_in 61 (by decide +kernel) rfl), by decide +kernel⟩
theorem sv_X5_cross : Cond.static yX5_cross ∈ aj_TB := (aj_in 1191 (by decide +kernel) rfl)
theorem cd_X5_dot : aj_cd yX5_dot cX5_dot 4 (some .int) 4 := ⟨(aj_in 1195 (by decide +kernel) rfl), (aj_in 61 (by decide +kernel) rfl), by decide +kernel⟩
theorem sv_X5_dot : Cond.static yX5_dot ∈ aj_TB := (aj_in 1194 (by decide +kernel) rfl)
theorem cd_X5_sign : aj_cd yX5_sign cX5_sign 2 (some .int) 2 := ⟨(aj_in 1172 (by decide +kernel) rfl), (aj_in 61 (by decide +kernel) rfl), by decide +kernel⟩
theorem sv_X5_sign : Cond.static yX5_sign ∈ aj_TB := (aj_in 1171 (by decide +kernel) rfl)
theorem ml_RX5_47 : Cond.methodLink RX5 47 yX5_one ∈ aj_TB := (aj_in 1173 (by decide +kernel) rfl)
theorem cd_X5_orderOf : aj_cd yX5_orderOf cX5_orderOf 7 (some .int) 6 := ⟨(aj_in 1189 (by decide +kernel) rfl), (aj_in 61 (by decide +kernel) rfl), by decide +kernel⟩
theorem sv_X5_orderOf : Cond.static yX5_orderOf ∈ aj_TB := (aj_in 1188 (by decide +kernel) rfl)
theorem ml_RX5_51 : Cond.methodLink RX5 51 yX5_cross ∈ aj_TB := (aj_in 1190 (by decide +kernel) rfl)
theorem ml_RX5_55 : Cond.methodLink RX5 55 yX5_dot ∈ aj_TB := (aj_in 1193 (by decide +kernel) rfl)
theorem cd_X5_wayOrder : aj_cd yX5_wayOrder cX5_wayOrder 4 (some .int) 4 := ⟨(aj_in 1433 (by decide +kernel) rfl), (aj_in 61 (by decide +kernel) rfl), by decide +kernel⟩
theorem sv_X5_wayOrder : Cond.static yX5_wayOrder ∈ aj_TB := (aj_in 1432 (by decide +kernel) rfl)
theorem ml_RX5_58 : Cond.methodLink RX5 58 yX5_orderOf ∈ aj_TB := (aj_in 1187 (by decide +kernel) rfl)
theorem cd_X5_part : aj_cd yX5_part cX5_part 6 (some .long) 3 := ⟨(aj_in 1212 (by decide +kernel) rfl), (aj_in 61 (by decide +kernel) rfl), by decide +kernel⟩
theorem sv_X5_part : Cond.static yX5_part ∈ aj_TB := (aj_in 1211 (by decide +kernel) rfl)
theorem cd_X5_arc : aj_cd yX5_arc cX5_arc 11 (some .long) 2 := ⟨(aj_in 1208 (by decide +kernel) rfl), (aj_in 61 (by decide +kernel) rfl), by decide +kernel⟩
theorem sv_X5_arc : Cond.static yX5_arc ∈ aj_TB := (aj_in 1207 (by decide +kernel) rfl)
theorem kc_RX5_62 : Cond.constantLong RX5 62 (1152921504606846976) ∈ aj_TB := (aj_in 1209 (by decide +kernel) rfl)
theorem ml_RX5_64 : Cond.methodLink RX5 64 yX5_part ∈ aj_TB := (aj_in 1210 (by decide +kernel) rfl)
theorem cd_X5_slant : aj_cd yX5_slant cX5_slant 6 (some .long) 2 := ⟨(aj_in 1205 (by decide +kernel) rfl), (aj_in 61 (by decide +kernel) rfl), by decide +kernel⟩
theorem sv_X5_slant : Cond.static yX5_slant ∈ aj_TB := (aj_in 1204 (by decide +kernel) rfl)
theorem ml_RX5_68 : Cond.methodLink RX5 68 yJ9_abs_0f7a4 ∈ aj_TB := (aj_in 1200 (by decide +kernel) rfl)
theorem ml_RX5_74 : Cond.methodLink RX5 74 yX5_arc ∈ aj_TB := (aj_in 1206 (by decide +kernel) rfl)
theorem kc_RX5_78 : Cond.constantLong RX5 78 (1811004864519280710) ∈ aj_TB := (aj_in 1213 (by decide +kernel) rfl)
theorem kc_RX5_80 : Cond.constantLong RX5 80 (3622009729038561421) ∈ aj_TB := (aj_in 1214 (by decide +kernel) rfl)
theorem cd_X5_lookOf : aj_cd yX5_lookOf cX5_lookOf 3 (some .int) 3 := ⟨(aj_in 1178 (by decide +kernel) rfl), (aj_in 61 (by decide +kernel) rfl), by decide +kernel⟩
theorem sv_X5_lookOf : Cond.static yX5_lookOf ∈ aj_TB := (aj_in 1177 (by decide +kernel) rfl)
theorem cd_X5_sizeOf : aj_cd yX5_sizeOf cX5_sizeOf 3 (some .long) 3 := ⟨(aj_in 1198 (by decide +kernel) rfl), (aj_in 61 (by decide +kernel) rfl), by decide +kernel⟩
theorem sv_X5_sizeOf : Cond.static yX5_sizeOf ∈ aj_TB := (aj_in 1197 (by decide +kernel) rfl)
theorem kc_RX5_82 : Cond.constantLong RX5 82 (1811004864519280640) ∈ aj_TB := (aj_in 1199 (by decide +kernel) rfl)
theorem ml_RX5_84 : Cond.methodLink RX5 84 yX5_slant ∈ aj_TB := (aj_in 1203 (by decide +kernel) rfl)
theorem ml_RX5_88 : Cond.methodLink RX5 88 yX5_lookOf ∈ aj_TB := (aj_in 1176 (by decide +kernel) rfl)
theorem kc_RX5_92 : Cond.constantLong RX5 92 (3622009729038561280) ∈ aj_TB := (aj_in 1215 (by decide +kernel) rfl)
theorem cd_X5_gradeOf : aj_cd yX5_gradeOf cX5_gradeOf 4 (some .int) 3 := ⟨(aj_in 1294 (by decide +kernel) rfl), (aj_in 61 (by decide +kernel) rfl), by decide +kernel⟩
theorem sv_X5_gradeOf : Cond.static yX5_gradeOf ∈ aj_TB := (aj_in 1293 (by decide +kernel) rfl)
theorem cd_X5_look : aj_cd yX5_look cX5_look 2 (some .int) 1 := ⟨(aj_in 1182 (by decide +kernel) rfl), (aj_in 61 (by decide +kernel) rfl), by decide +kernel⟩
theorem cv_X5_look : aj_cv yX5_look := ⟨(aj_in 1181 (by decide +kernel) rfl), (aj_in 25 (by decide +kernel) rfl)⟩
theorem cd_X5_upSignOf : aj_cd yX5_upSignOf cX5_upSignOf 2 (some .int) 1 := ⟨(aj_in 1186 (by decide +kernel) rfl), (aj_in 61 (by decide +kernel) rfl), by decide +kernel⟩
theorem cv_X5_upSignOf : aj_cv yX5_upSignOf := ⟨(aj_in 1185 (by decide +kernel) rfl), (aj_in 26 (by decide +kernel) rfl)⟩
theorem cd_X5_isNull : aj_cd yX5_isNull cX5_isNull 2 (some .boolean) 1 := ⟨(aj_in 1326 (by decide +kernel) rfl), (aj_in 61 (by decide +kernel) rfl), by decide +kernel⟩
theorem cv_X5_isNull : aj_cv yX5_isNull := ⟨(aj_in 1325 (by decide +kernel) rfl), (aj_in 37 (by decide +kernel) rfl)⟩
theorem cd_X5_isZero : aj_cd yX5_isZero cX5_isZero 2 (some .boolean) 1 := ⟨(aj_in 1286 (by decide +kernel) rfl), (aj_in 61 (by decide +kernel) rfl), by decide +kernel⟩
theorem cv_X5_isZero : aj_cv yX5_isZero := ⟨(aj_in 1285 (by decide +kernel) rfl), (aj_in 33 (by decide +kernel) rfl)⟩
theorem ml_RX5_94 : Cond.methodLink RX5 94 yX5_look ∈ aj_TB := (aj_in 1179 (by decide +kernel) rfl)
theorem cd_X5_orderAt : aj_cd yX5_orderAt cX5_orderAt 3 (some .int) 2 := ⟨(aj_in 1251 (by decide +kernel) rfl), (aj_in 61 (by decide +kernel) rfl), by decide +kernel⟩
theorem cv_X5_orderAt : aj_cv yX5_orderAt := ⟨(aj_in 1250 (by decide +kernel) rfl), (aj_in 30 (by decide +kernel) rfl)⟩
theorem ml_RX5_97 : Cond.methodLink RX5 97 yX5_upSignOf ∈ aj_TB := (aj_in 1183 (by decide +kernel) rfl)
theorem cd_X5_isLike : aj_cd yX5_isLike cX5_isLike 3 (some .boolean) 2 := ⟨(aj_in 1310 (by decide +kernel) rfl), (aj_in 61 (by decide +kernel) rfl), by decide +kernel⟩
theorem cv_X5_isLike : aj_cv yX5_isLike := ⟨(aj_in 1309 (by decide +kernel) rfl), (aj_in 35 (by decide +kernel) rfl)⟩
theorem ml_RX5_100 : Cond.methodLink RX5 100 yX5_isZero ∈ aj_TB := (aj_in 1283 (by decide +kernel) rfl)
theorem ml_RX5_104 : Cond.methodLink RX5 104 yX5_orderAt ∈ aj_TB := (aj_in 1248 (by decide +kernel) rfl)
theorem cd_X5_sideAt : aj_cd yX5_sideAt cX5_sideAt 3 (some .int) 2 := ⟨(aj_in 1322 (by decide +kernel) rfl), (aj_in 61 (by decide +kernel) rfl), by decide +kernel⟩
theorem cv_X5_sideAt : aj_cv yX5_sideAt := ⟨(aj_in 1321 (by decide +kernel) rfl), (aj_in 36 (by decide +kernel) rfl)⟩
theorem ml_RX5_108 : Cond.methodLink RX5 108 yX5_isNull ∈ aj_TB := (aj_in 1323 (by decide +kernel) rfl)
theorem ml_RX5_111 : Cond.methodLink RX5 111 yJ6_signum_0f7a4 ∈ aj_TB := (aj_in 1327 (by decide +kernel) rfl)
theorem cd_X5_isNotAhead : aj_cd yX5_isNotAhead cX5_isNotAhead 4 (some .int) 3 := ⟨(aj_in 1341 (by decide +kernel) rfl), (aj_in 61 (by decide +kernel) rfl), by decide +kernel⟩
theorem cv_X5_isNotAhead : aj_cv yX5_isNotAhead := ⟨(aj_in 1340 (by decide +kernel) rfl), (aj_in 39 (by decide +kernel) rfl)⟩
theorem cd_X5_eighthOf : aj_cd yX5_eighthOf cX5_eighthOf 4 (some .int) 1 := ⟨(aj_in 1337 (by decide +kernel) rfl), (aj_in 61 (by decide +kernel) rfl), by decide +kernel⟩
theorem cv_X5_eighthOf : aj_cv yX5_eighthOf := ⟨(aj_in 1336 (by decide +kernel) rfl), (aj_in 38 (by decide +kernel) rfl)⟩
theorem ml_RX5_116 : Cond.methodLink RX5 116 yX5_isNotAhead ∈ aj_TB := (aj_in 1338 (by decide +kernel) rfl)
theorem cd_X5_upperOf : aj_cd yX5_upperOf cX5_upperOf 6 (some .int) 1 := ⟨(aj_in 1271 (by decide +kernel) rfl), (aj_in 61 (by decide +kernel) rfl), by decide +kernel⟩
theorem cv_X5_upperOf : aj_cv yX5_upperOf := ⟨(aj_in 1270 (by decide +kernel) rfl), (aj_in 31 (by decide +kernel) rfl)⟩
theorem kc_RX5_119 : Cond.constant RX5 119 (1048576) ∈ aj_TB := (aj_in 1272 (by decide +kernel) rfl)
theorem cd_X5_lowerOf : aj_cd yX5_lowerOf cX5_lowerOf 2 (some .int) 1 := ⟨(aj_in 1280 (by decide +kernel) rfl), (aj_in 61 (by decide +kernel) rfl), by decide +kernel⟩
theorem cv_X5_lowerOf : aj_cv yX5_lowerOf := ⟨(aj_in 1279 (by decide +kernel) rfl), (aj_in 32 (by decide +kernel) rfl)⟩
theorem kc_RX5_120 : Cond.constantLong RX5 120 (802078686650834) ∈ aj_TB := (aj_in 1281 (by decide +kernel) rfl)
theorem kc_RX5_122 : Cond.constantLong RX5 122 (2570638124657944) ∈ aj_TB := (aj_in 1282 (by decide +kernel) rfl)
theorem kc_RX5_124 : Cond.constant RX5 124 (1413754136) ∈ aj_TB := (aj_in 1287 (by decide +kernel) rfl)
theorem cd_X5_failed : aj_cd yX5_failed cX5_failed 1 (some .int) 0 := ⟨(aj_in 1231 (by decide +kernel) rfl), (aj_in 61 (by decide +kernel) rfl), by decide +kernel⟩
theorem cv_X5_failed : aj_cv yX5_failed := ⟨(aj_in 1230 (by decide +kernel) rfl), (aj_in 28 (by decide +kernel) rfl)⟩
theorem cd_X5_move : aj_cd yX5_move cX5_move 9 (some .int) 5 := ⟨(aj_in 1169 (by decide +kernel) rfl), (aj_in 61 (by decide +kernel) rfl), by decide +kernel⟩
theorem cv_X5_move : aj_cv yX5_move := ⟨(aj_in 1168 (by decide +kernel) rfl), (aj_in 24 (by decide +kernel) rfl)⟩
theorem ml_RX5_125 : Cond.methodLink RX5 125 yX5_sign ∈ aj_TB := (aj_in 1170 (by decide +kernel) rfl)
theorem ml_RX5_128 : Cond.methodLink RX5 128 yX5_sizeOf ∈ aj_TB := (aj_in 1196 (by decide +kernel) rfl)
theorem cd_X5_put : aj_cd yX5_put cX5_put 5 (some .int) 4 := ⟨(aj_in 1151 (by decide +kernel) rfl), (aj_in 61 (by decide +kernel) rfl), by decide +kernel⟩
theorem cv_X5_put : aj_cv yX5_put := ⟨(aj_in 1149 (by decide +kernel) rfl), (aj_in 1150 (by decide +kernel) rfl)⟩
theorem ml_RX5_132 : Cond.methodLink RX5 132 yX5_isNoCell ∈ aj_TB := (aj_in 1152 (by decide +kernel) rfl)
theorem ml_RX5_135 : Cond.methodLink RX5 135 yX5_start ∈ aj_TB := (aj_in 1158 (by decide +kernel) rfl)
theorem ml_RX5_138 : Cond.methodLink RX5 138 yX5_move ∈ aj_TB := (aj_in 1166 (by decide +kernel) rfl)
theorem cd_X5_make : aj_cd yX5_make cX5_make 7 (some .int) 2 := ⟨(aj_in 1219 (by decide +kernel) rfl), (aj_in 61 (by decide +kernel) rfl), by decide +kernel⟩
theorem cv_X5_make : aj_cv yX5_make := ⟨(aj_in 1217 (by decide +kernel) rfl), (aj_in 1218 (by decide +kernel) rfl)⟩
theorem cd_X5_moveTo : aj_cd yX5_moveTo cX5_moveTo 6 (some .int) 5 := ⟨(aj_in 1227 (by decide +kernel) rfl), (aj_in 61 (by decide +kernel) rfl), by decide +kernel⟩
theorem cv_X5_moveTo : aj_cv yX5_moveTo := ⟨(aj_in 1226 (by decide +kernel) rfl), (aj_in 27 (by decide +kernel) rfl)⟩
theorem ml_RX5_142 : Cond.methodLink RX5 142 yX5_failed ∈ aj_TB := (aj_in 1228 (by decide +kernel) rfl)
theorem cd_X5_stretch : aj_cd yX5_stretch cX5_stretch 3 (some .int) 2 := ⟨(aj_in 1223 (by decide +kernel) rfl), (aj_in 61 (by decide +kernel) rfl), by decide +kernel⟩
theorem cv_X5_stretch : aj_cv yX5_stretch := ⟨(aj_in 1221 (by decide +kernel) rfl), (aj_in 1222 (by decide +kernel) rfl)⟩
theorem ml_RX5_146 : Cond.methodLink RX5 146 yX5_moveTo ∈ aj_TB := (aj_in 1224 (by decide +kernel) rfl)
theorem cd_X5_addSteps : aj_cd yX5_addSteps cX5_addSteps 5 (some .int) 3 := ⟨(aj_in 1235 (by decide +kernel) rfl), (aj_in 61 (by decide +kernel) rfl), by decide +kernel⟩
theorem cv_X5_addSteps : aj_cv yX5_addSteps := ⟨(aj_in 1233 (by decide +kernel) rfl), (aj_in 1234 (by decide +kernel) rfl)⟩
theorem cd_X5_takeStep : aj_cd yX5_takeStep cX5_takeStep 4 (some .int) 3 := ⟨(aj_in 1239 (by decide +kernel) rfl), (aj_in 61 (by decide +kernel) rfl), by decide +kernel⟩
theorem cv_X5_takeStep : aj_cv yX5_takeStep := ⟨(aj_in 1237 (by decide +kernel) rfl), (aj_in 1238 (by decide +kernel) rfl)⟩
theorem ml_RX5_149 : Cond.methodLink RX5 149 yX5_isNoPlace ∈ aj_TB := (aj_in 1240 (by decide +kernel) rfl)
theorem cd_X5_sortSteps : aj_cd yX5_sortSteps cX5_sortSteps 10 (some .int) 1 := ⟨(aj_in 1247 (by decide +kernel) rfl), (aj_in 61 (by decide +kernel) rfl), by decide +kernel⟩
theorem cv_X5_sortSteps : aj_cv yX5_sortSteps := ⟨(aj_in 1245 (by decide +kernel) rfl), (aj_in 1246 (by decide +kernel) rfl)⟩
theorem cd_X5_across : aj_cd yX5_across cX5_across 2 (some .int) 1 := ⟨(aj_in 1255 (by decide +kernel) rfl), (aj_in 61 (by decide +kernel) rfl), by decide +kernel⟩
theorem cv_X5_across : aj_cv yX5_across := ⟨(aj_in 1253 (by decide +kernel) rfl), (aj_in 1254 (by decide +kernel) rfl)⟩
theorem cd_X5_up : aj_cd yX5_up cX5_up 2 (some .int) 1 := ⟨(aj_in 1259 (by decide +kernel) rfl), (aj_in 61 (by decide +kernel) rfl), by decide +kernel⟩
theorem cv_X5_up : aj_cv yX5_up := ⟨(aj_in 1257 (by decide +kernel) rfl), (aj_in 1258 (by decide +kernel) rfl)⟩
theorem cd_X5_signs : aj_cd yX5_signs cX5_signs 2 (some .int) 1 := ⟨(aj_in 1263 (by decide +kernel) rfl), (aj_in 61 (by decide +kernel) rfl), by decide +kernel⟩
theorem cv_X5_signs : aj_cv yX5_signs := ⟨(aj_in 1261 (by decide +kernel) rfl), (aj_in 1262 (by decide +kernel) rfl)⟩
theorem cd_X5_upper : aj_cd yX5_upper cX5_upper 2 (some .int) 1 := ⟨(aj_in 1267 (by decide +kernel) rfl), (aj_in 61 (by decide +kernel) rfl), by decide +kernel⟩
theorem cv_X5_upper : aj_cv yX5_upper := ⟨(aj_in 1265 (by decide +kernel) rfl), (aj_in 1266 (by decide +kernel) rfl)⟩
theorem ml_RX5_152 : Cond.methodLink RX5 152 yX5_upperOf ∈ aj_TB := (aj_in 1268 (by decide +kernel) rfl)
theorem cd_X5_lower : aj_cd yX5_lower cX5_lower 2 (some .int) 1 := ⟨(aj_in 1276 (by decide +kernel) rfl), (aj_in 61 (by decide +kernel) rfl), by decide +kernel⟩
theorem cv_X5_lower : aj_cv yX5_lower := ⟨(aj_in 1274 (by decide +kernel) rfl), (aj_in 1275 (by decide +kernel) rfl)⟩
theorem ml_RX5_155 : Cond.methodLink RX5 155 yX5_lowerOf ∈ aj_TB := (aj_in 1277 (by decide +kernel) rfl)
theorem cd_X5_grade : aj_cd yX5_grade cX5_grade 3 (some .int) 2 := ⟨(aj_in 1291 (by decide +kernel) rfl), (aj_in 61 (by decide +kernel) rfl), by decide +kernel⟩
theorem cv_X5_grade : aj_cv yX5_grade := ⟨(aj_in 1289 (by decide +kernel) rfl), (aj_in 1290 (by decide +kernel) rfl)⟩
theorem ml_RX5_158 : Cond.methodLink RX5 158 yX5_gradeOf ∈ aj_TB := (aj_in 1292 (by decide +kernel) rfl)
theorem cd_X5_startTwo : aj_cd yX5_startTwo cX5_startTwo 3 (some .boolean) 2 := ⟨(aj_in 1302 (by decide +kernel) rfl), (aj_in 61 (by decide +kernel) rfl), by decide +kernel⟩
theorem cv_X5_startTwo : aj_cv yX5_startTwo := ⟨(aj_in 1301 (by decide +kernel) rfl), (aj_in 34 (by decide +kernel) rfl)⟩
theorem cd_X5_order : aj_cd yX5_order cX5_order 4 (some .int) 3 := ⟨(aj_in 1298 (by decide +kernel) rfl), (aj_in 61 (by decide +kernel) rfl), by decide +kernel⟩
theorem cv_X5_order : aj_cv yX5_order := ⟨(aj_in 1296 (by decide +kernel) rfl), (aj_in 1297 (by decide +kernel) rfl)⟩
theorem ml_RX5_162 : Cond.methodLink RX5 162 yX5_startTwo ∈ aj_TB := (aj_in 1299 (by decide +kernel) rfl)
theorem cd_X5_like : aj_cd yX5_like cX5_like 3 (some .boolean) 2 := ⟨(aj_in 1306 (by decide +kernel) rfl), (aj_in 61 (by decide +kernel) rfl), by decide +kernel⟩
theorem cv_X5_like : aj_cv yX5_like := ⟨(aj_in 1304 (by decide +kernel) rfl), (aj_in 1305 (by decide +kernel) rfl)⟩
theorem ml_RX5_166 : Cond.methodLink RX5 166 yX5_isLike ∈ aj_TB := (aj_in 1307 (by decide +kernel) rfl)
theorem cd_X5_same : aj_cd yX5_same cX5_same 4 (some .boolean) 3 := ⟨(aj_in 1314 (by decide +kernel) rfl), (aj_in 61 (by decide +kernel) rfl), by decide +kernel⟩
theorem cv_X5_same : aj_cv yX5_same := ⟨(aj_in 1312 (by decide +kernel) rfl), (aj_in 1313 (by decide +kernel) rfl)⟩
theorem cd_X5_side : aj_cd yX5_side cX5_side 3 (some .int) 2 := ⟨(aj_in 1318 (by decide +kernel) rfl), (aj_in 61 (by decide +kernel) rfl), by decide +kernel⟩
theorem cv_X5_side : aj_cv yX5_side := ⟨(aj_in 1316 (by decide +kernel) rfl), (aj_in 1317 (by decide +kernel) rfl)⟩
theorem ml_RX5_169 : Cond.methodLink RX5 169 yX5_sideAt ∈ aj_TB := (aj_in 1319 (by decide +kernel) rfl)
theorem cd_X5_eighth : aj_cd yX5_eighth cX5_eighth 2 (some .int) 1 := ⟨(aj_in 1333 (by decide +kernel) rfl), (aj_in 61 (by decide +kernel) rfl), by decide +kernel⟩
theorem cv_X5_eighth : aj_cv yX5_eighth := ⟨(aj_in 1331 (by decide +kernel) rfl), (aj_in 1332 (by decide +kernel) rfl)⟩
theorem ml_RX5_172 : Cond.methodLink RX5 172 yX5_eighthOf ∈ aj_TB := (aj_in 1334 (by decide +kernel) rfl)
theorem cd_X5_rule : aj_cd yX5_rule cX5_rule 3 (some .int) 2 := ⟨(aj_in 1345 (by decide +kernel) rfl), (aj_in 61 (by decide +kernel) rfl), by decide +kernel⟩
theorem cv_X5_rule : aj_cv yX5_rule := ⟨(aj_in 1343 (by decide +kernel) rfl), (aj_in 1344 (by decide +kernel) rfl)⟩
theorem cd_X5_found : aj_cd yX5_found cX5_found 4 (some .int) 2 := ⟨(aj_in 1353 (by decide +kernel) rfl), (aj_in 61 (by decide +kernel) rfl), by decide +kernel⟩
theorem cv_X5_found : aj_cv yX5_found := ⟨(aj_in 1352 (by decide +kernel) rfl), (aj_in 40 (by decide +kernel) rfl)⟩
theorem cd_X5_find : aj_cd yX5_find cX5_find 3 (some .int) 2 := ⟨(aj_in 1349 (by decide +kernel) rfl), (aj_in 61 (by decide +kernel) rfl), by decide +kernel⟩
theorem cv_X5_find : aj_cv yX5_find := ⟨(aj_in 1347 (by decide +kernel) rfl), (aj_in 1348 (by decide +kernel) rfl)⟩
theorem ml_RX5_175 : Cond.methodLink RX5 175 yX5_found ∈ aj_TB := (aj_in 1350 (by decide +kernel) rfl)
theorem cd_X5_at : aj_cd yX5_at cX5_at 4 (some .int) 2 := ⟨(aj_in 1364 (by decide +kernel) rfl), (aj_in 61 (by decide +kernel) rfl), by decide +kernel⟩
theorem cv_X5_at : aj_cv yX5_at := ⟨(aj_in 1363 (by decide +kernel) rfl), (aj_in 41 (by decide +kernel) rfl)⟩
theorem cd_X5_addPlace : aj_cd yX5_addPlace cX5_addPlace 3 (some .int) 2 := ⟨(aj_in 1357 (by decide +kernel) rfl), (aj_in 61 (by decide +kernel) rfl), by decide +kernel⟩
theorem cv_X5_addPlace : aj_cv yX5_addPlace := ⟨(aj_in 1355 (by decide +kernel) rfl), (aj_in 1356 (by decide +kernel) rfl)⟩
theorem ml_RX5_179 : Cond.methodLink RX5 179 yX5_isNoAt ∈ aj_TB := (aj_in 1358 (by decide +kernel) rfl)
theorem ml_RX5_182 : Cond.methodLink RX5 182 yX5_at ∈ aj_TB := (aj_in 1361 (by decide +kernel) rfl)
theorem cd_X5_removePlace : aj_cd yX5_removePlace cX5_removePlace 3 (some .int) 1 := ⟨(aj_in 1368 (by decide +kernel) rfl), (aj_in 61 (by decide +kernel) rfl), by decide +kernel⟩
theorem cv_X5_removePlace : aj_cv yX5_removePlace := ⟨(aj_in 1366 (by decide +kernel) rfl), (aj_in 1367 (by decide +kernel) rfl)⟩
theorem cd_X5_movePlace : aj_cd yX5_movePlace cX5_movePlace 5 (some .int) 3 := ⟨(aj_in 1372 (by decide +kernel) rfl), (aj_in 61 (by decide +kernel) rfl), by decide +kernel⟩
theorem cv_X5_movePlace : aj_cv yX5_movePlace := ⟨(aj_in 1370 (by decide +kernel) rfl), (aj_in 1371 (by decide +kernel) rfl)⟩
theorem cd_X5_centre : aj_cd yX5_centre cX5_centre 4 (some .int) 2 := ⟨(aj_in 1376 (by decide +kernel) rfl), (aj_in 61 (by decide +kernel) rfl), by decide +kernel⟩
theorem cv_X5_centre : aj_cv yX5_centre := ⟨(aj_in 1374 (by decide +kernel) rfl), (aj_in 1375 (by decide +kernel) rfl)⟩
theorem fl_RX5_185 : aj_FL RX5 185 6 8 := ⟨by decide, by decide, (aj_in 1122 (by decide +kernel) rfl)⟩
theorem fl_RX5_188 : aj_FL RX5 188 6 9 := ⟨by decide, by decide, (aj_in 1123 (by decide +kernel) rfl)⟩
theorem cd_X5_turnPlaces : aj_cd yX5_turnPlaces cX5_turnPlaces 3 (some .int) 0 := ⟨(aj_in 1380 (by decide +kernel) rfl), (aj_in 61 (by decide +kernel) rfl), by decide +kernel⟩
theorem cv_X5_turnPlaces : aj_cv yX5_turnPlaces := ⟨(aj_in 1378 (by decide +kernel) rfl), (aj_in 1379 (by decide +kernel) rfl)⟩
theorem ml_RX5_191 : Cond.methodLink RX5 191 yX5_corners ∈ aj_TB := (aj_in 1381 (by decide +kernel) rfl)
theorem ml_RX5_195 : Cond.methodLink RX5 195 yX5_area ∈ aj_TB := (aj_in 1403 (by decide +kernel) rfl)
theorem cd_X5_mirrorPlaces : aj_cd yX5_mirrorPlaces cX5_mirrorPlaces 2 (some .int) 0 := ⟨(aj_in 1410 (by decide +kernel) rfl), (aj_in 61 (by decide +kernel) rfl), by decide +kernel⟩
theorem cv_X5_mirrorPlaces : aj_cv yX5_mirrorPlaces := ⟨(aj_in 1408 (by decide +kernel) rfl), (aj_in 1409 (by decide +kernel) rfl)⟩
theorem cd_X5_places : aj_cd yX5_places cX5_places 1 (some .int) 0 := ⟨(aj_in 1414 (by decide +kernel) rfl), (aj_in 61 (by decide +kernel) rfl), by decide +kernel⟩
theorem cv_X5_places : aj_cv yX5_places := ⟨(aj_in 1412 (by decide +kernel) rfl), (aj_in 1413 (by decide +kernel) rfl)⟩
theorem cd_X5_place : aj_cd yX5_place cX5_place 3 (some .int) 2 := ⟨(aj_in 1418 (by decide +kernel) rfl), (aj_in 61 (by decide +kernel) rfl), by decide +kernel⟩
theorem cv_X5_place : aj_cv yX5_place := ⟨(aj_in 1416 (by decide +kernel) rfl), (aj_in 1417 (by decide +kernel) rfl)⟩
theorem cd_X5_centreAt : aj_cd yX5_centreAt cX5_centreAt 2 (some .int) 1 := ⟨(aj_in 1422 (by decide +kernel) rfl), (aj_in 61 (by decide +kernel) rfl), by decide +kernel⟩
theorem cv_X5_centreAt : aj_cv yX5_centreAt := ⟨(aj_in 1420 (by decide +kernel) rfl), (aj_in 1421 (by decide +kernel) rfl)⟩
theorem cd_X5_bearing : aj_cd yX5_bearing cX5_bearing 5 (some .int) 3 := ⟨(aj_in 1426 (by decide +kernel) rfl), (aj_in 61 (by decide +kernel) rfl), by decide +kernel⟩
theorem cv_X5_bearing : aj_cv yX5_bearing := ⟨(aj_in 1424 (by decide +kernel) rfl), (aj_in 1425 (by decide +kernel) rfl)⟩
theorem cd_X5_bearingOrder : aj_cd yX5_bearingOrder cX5_bearingOrder 4 (some .int) 3 := ⟨(aj_in 1430 (by decide +kernel) rfl), (aj_in 61 (by decide +kernel) rfl), by decide +kernel⟩
theorem cv_X5_bearingOrder : aj_cv yX5_bearingOrder := ⟨(aj_in 1428 (by decide +kernel) rfl), (aj_in 1429 (by decide +kernel) rfl)⟩
theorem ml_RX5_199 : Cond.methodLink RX5 199 yX5_wayOrder ∈ aj_TB := (aj_in 1431 (by decide +kernel) rfl)
theorem cd_X5_left : aj_cd yX5_left cX5_left 4 (some .int) 3 := ⟨(aj_in 1437 (by decide +kernel) rfl), (aj_in 61 (by decide +kernel) rfl), by decide +kernel⟩
theorem cv_X5_left : aj_cv yX5_left := ⟨(aj_in 1435 (by decide +kernel) rfl), (aj_in 1436 (by decide +kernel) rfl)⟩
theorem ml_RX5_202 : Cond.methodLink RX5 202 yX5_turn ∈ aj_TB := (aj_in 1393 (by decide +kernel) rfl)
theorem cd_X5_isOut : aj_cd yX5_isOut cX5_isOut 2 (some .boolean) 1 := ⟨(aj_in 1449 (by decide +kernel) rfl), (aj_in 61 (by decide +kernel) rfl), by decide +kernel⟩
theorem cv_X5_isOut : aj_cv yX5_isOut := ⟨(aj_in 1448 (by decide +kernel) rfl), (aj_in 48 (by decide +kernel) rfl)⟩
theorem cd_X5_outs : aj_cd yX5_outs cX5_outs 3 (some .int) 0 := ⟨(aj_in 1445 (by decide +kernel) rfl), (aj_in 61 (by decide +kernel) rfl), by decide +kernel⟩
theorem cv_X5_outs : aj_cv yX5_outs := ⟨(aj_in 1444 (by decide +kernel) rfl), (aj_in 47 (by decide +kernel) rfl)⟩
theorem ml_RX5_205 : Cond.methodLink RX5 205 yX5_isOut ∈ aj_TB := (aj_in 1446 (by decide +kernel) rfl)
theorem cd_X5_outOrder : aj_cd yX5_outOrder cX5_outOrder 3 (some .int) 2 := ⟨(aj_in 1461 (by decide +kernel) rfl), (aj_in 61 (by decide +kernel) rfl), by decide +kernel⟩
theorem cv_X5_outOrder : aj_cv yX5_outOrder := ⟨(aj_in 1460 (by decide +kernel) rfl), (aj_in 50 (by decide +kernel) rfl)⟩
theorem cd_X5_outCross : aj_cd yX5_outCross cX5_outCross 3 (some .int) 2 := ⟨(aj_in 1487 (by decide +kernel) rfl), (aj_in 61 (by decide +kernel) rfl), by decide +kernel⟩
theorem cv_X5_outCross : aj_cv yX5_outCross := ⟨(aj_in 1486 (by decide +kernel) rfl), (aj_in 53 (by decide +kernel) rfl)⟩
theorem cd_X5_far : aj_cd yX5_far cX5_far 2 (some .int) 1 := ⟨(aj_in 1465 (by decide +kernel) rfl), (aj_in 61 (by decide +kernel) rfl), by decide +kernel⟩
theorem cv_X5_far : aj_cv yX5_far := ⟨(aj_in 1464 (by decide +kernel) rfl), (aj_in 51 (by decide +kernel) rfl)⟩
theorem cd_X5_round : aj_cd yX5_round cX5_round 6 (some (.array .int)) 0 := ⟨(aj_in 1457 (by decide +kernel) rfl), (aj_in 61 (by decide +kernel) rfl), by decide +kernel⟩
theorem cv_X5_round : aj_cv yX5_round := ⟨(aj_in 1456 (by decide +kernel) rfl), (aj_in 49 (by decide +kernel) rfl)⟩
theorem ml_RX5_208 : Cond.methodLink RX5 208 yX5_outs ∈ aj_TB := (aj_in 1442 (by decide +kernel) rfl)
theorem ml_RX5_211 : Cond.methodLink RX5 211 yX5_outOrder ∈ aj_TB := (aj_in 1458 (by decide +kernel) rfl)
theorem ml_RX5_214 : Cond.methodLink RX5 214 yX5_far ∈ aj_TB := (aj_in 1462 (by decide +kernel) rfl)
theorem cd_X5_text : aj_cd yX5_text cX5_text 3 (some (.object "java/lang/String")) 1 := ⟨(aj_in 1468 (by decide +kernel) rfl), (aj_in 61 (by decide +kernel) rfl), by decide +kernel⟩
theorem sv_X5_text : Cond.static yX5_text ∈ aj_TB := (aj_in 1467 (by decide +kernel) rfl)
theorem nw_RX5_217 : aj_NW RX5 217 1 := ⟨by decide, (aj_in 1469 (by decide +kernel) rfl), (aj_in 295 (by decide +kernel) rfl), (aj_in 72 (by decide +kernel) rfl)⟩
theorem ml_RX5_219 : Cond.methodLink RX5 219 yJ4_init_da8c8 ∈ aj_TB := (aj_in 1470 (by decide +kernel) rfl)
theorem ml_RX5_224 : Cond.methodLink RX5 224 yJ4_append_15ec4 ∈ aj_TB := (aj_in 1473 (by decide +kernel) rfl)
theorem ml_RX5_228 : Cond.methodLink RX5 228 yJ4_append_bf812 ∈ aj_TB := (aj_in 1474 (by decide +kernel) rfl)
theorem ml_RX5_231 : Cond.methodLink RX5 231 yJ4_toString_0e30d ∈ aj_TB := (aj_in 1475 (by decide +kernel) rfl)
theorem cd_X5_roundCount : aj_cd yX5_roundCount cX5_roundCount 1 (some .int) 0 := ⟨(aj_in 1441 (by decide +kernel) rfl), (aj_in 61 (by decide +kernel) rfl), by decide +kernel⟩
theorem cv_X5_roundCount : aj_cv yX5_roundCount := ⟨(aj_in 1439 (by decide +kernel) rfl), (aj_in 1440 (by decide +kernel) rfl)⟩
theorem cd_X5_roundText : aj_cd yX5_roundText cX5_roundText 1 (some (.object "java/lang/String")) 0 := ⟨(aj_in 1453 (by decide +kernel) rfl), (aj_in 61 (by decide +kernel) rfl), by decide +kernel⟩
theorem cv_X5_roundText : aj_cv yX5_roundText := ⟨(aj_in 1451 (by decide +kernel) rfl), (aj_in 1452 (by decide +kernel) rfl)⟩
theorem ml_RX5_235 : Cond.methodLink RX5 235 yX5_round ∈ aj_TB := (aj_in 1454 (by decide +kernel) rfl)
theorem ml_RX5_238 : Cond.methodLink RX5 238 yX5_text ∈ aj_TB := (aj_in 1466 (by decide +kernel) rfl)
theorem cd_X5_isStarred : aj_cd yX5_isStarred cX5_isStarred 5 (some .boolean) 1 := ⟨(aj_in 1483 (by decide +kernel) rfl), (aj_in 61 (by decide +kernel) rfl), by decide +kernel⟩
theorem cv_X5_isStarred : aj_cv yX5_isStarred := ⟨(aj_in 1482 (by decide +kernel) rfl), (aj_in 52 (by decide +kernel) rfl)⟩
theorem ml_RX5_242 : Cond.methodLink RX5 242 yX5_outCross ∈ aj_TB := (aj_in 1484 (by decide +kernel) rfl)
theorem cd_X5_isStar : aj_cd yX5_isStar cX5_isStar 1 (some .boolean) 0 := ⟨(aj_in 1479 (by decide +kernel) rfl), (aj_in 61 (by decide +kernel) rfl), by decide +kernel⟩
theorem cv_X5_isStar : aj_cv yX5_isStar := ⟨(aj_in 1477 (by decide +kernel) rfl), (aj_in 1478 (by decide +kernel) rfl)⟩
theorem ml_RX5_245 : Cond.methodLink RX5 245 yX5_isStarred ∈ aj_TB := (aj_in 1480 (by decide +kernel) rfl)
theorem cd_X5_swept : aj_cd yX5_swept cX5_swept 4 (some .int) 1 := ⟨(aj_in 1495 (by decide +kernel) rfl), (aj_in 61 (by decide +kernel) rfl), by decide +kernel⟩
theorem cv_X5_swept : aj_cv yX5_swept := ⟨(aj_in 1494 (by decide +kernel) rfl), (aj_in 54 (by decide +kernel) rfl)⟩
theorem cd_X5_starArea : aj_cd yX5_starArea cX5_starArea 1 (some .int) 0 := ⟨(aj_in 1491 (by decide +kernel) rfl), (aj_in 61 (by decide +kernel) rfl), by decide +kernel⟩
theorem cv_X5_starArea : aj_cv yX5_starArea := ⟨(aj_in 1489 (by decide +kernel) rfl), (aj_in 1490 (by decide +kernel) rfl)⟩
theorem ml_RX5_249 : Cond.methodLink RX5 249 yX5_swept ∈ aj_TB := (aj_in 1492 (by decide +kernel) rfl)
theorem cd_X5_turn : aj_cd yX5_turn cX5_turn 4 (some .int) 3 := ⟨(aj_in 1396 (by decide +kernel) rfl), (aj_in 61 (by decide +kernel) rfl), by decide +kernel⟩
theorem cv_X5_turn : aj_cv yX5_turn := ⟨(aj_in 1395 (by decide +kernel) rfl), (aj_in 45 (by decide +kernel) rfl)⟩
theorem cd_X5_isRim : aj_cd yX5_isRim cX5_isRim 5 (some .boolean) 2 := ⟨(aj_in 1392 (by decide +kernel) rfl), (aj_in 61 (by decide +kernel) rfl), by decide +kernel⟩
theorem cv_X5_isRim : aj_cv yX5_isRim := ⟨(aj_in 1391 (by decide +kernel) rfl), (aj_in 44 (by decide +kernel) rfl)⟩
theorem cd_X5_isCorner : aj_cd yX5_isCorner cX5_isCorner 3 (some .boolean) 1 := ⟨(aj_in 1388 (by decide +kernel) rfl), (aj_in 61 (by decide +kernel) rfl), by decide +kernel⟩
theorem cv_X5_isCorner : aj_cv yX5_isCorner := ⟨(aj_in 1387 (by decide +kernel) rfl), (aj_in 43 (by decide +kernel) rfl)⟩
theorem ml_RX5_252 : Cond.methodLink RX5 252 yX5_isRim ∈ aj_TB := (aj_in 1389 (by decide +kernel) rfl)
theorem cd_X5_corners : aj_cd yX5_corners cX5_corners 7 (some (.array .int)) 0 := ⟨(aj_in 1384 (by decide +kernel) rfl), (aj_in 61 (by decide +kernel) rfl), by decide +kernel⟩
theorem cv_X5_corners : aj_cv yX5_corners := ⟨(aj_in 1383 (by decide +kernel) rfl), (aj_in 42 (by decide +kernel) rfl)⟩
theorem ml_RX5_255 : Cond.methodLink RX5 255 yX5_isCorner ∈ aj_TB := (aj_in 1385 (by decide +kernel) rfl)
theorem ml_RX5_258 : Cond.methodLink RX5 258 yJ6_bitCount_0f7a4 ∈ aj_TB := (aj_in 1397 (by decide +kernel) rfl)
theorem cd_X5_hullCount : aj_cd yX5_hullCount cX5_hullCount 1 (some .int) 0 := ⟨(aj_in 1499 (by decide +kernel) rfl), (aj_in 61 (by decide +kernel) rfl), by decide +kernel⟩
theorem cv_X5_hullCount : aj_cv yX5_hullCount := ⟨(aj_in 1497 (by decide +kernel) rfl), (aj_in 1498 (by decide +kernel) rfl)⟩
theorem cd_X5_hullText : aj_cd yX5_hullText cX5_hullText 1 (some (.object "java/lang/String")) 0 := ⟨(aj_in 1503 (by decide +kernel) rfl), (aj_in 61 (by decide +kernel) rfl), by decide +kernel⟩
theorem cv_X5_hullText : aj_cv yX5_hullText := ⟨(aj_in 1501 (by decide +kernel) rfl), (aj_in 1502 (by decide +kernel) rfl)⟩
theorem cd_X5_area : aj_cd yX5_area cX5_area 5 (some .int) 1 := ⟨(aj_in 1406 (by decide +kernel) rfl), (aj_in 61 (by decide +kernel) rfl), by decide +kernel⟩
theorem cv_X5_area : aj_cv yX5_area := ⟨(aj_in 1405 (by decide +kernel) rfl), (aj_in 46 (by decide +kernel) rfl)⟩
theorem cd_X5_hullArea : aj_cd yX5_hullArea cX5_hullArea 1 (some .int) 0 := ⟨(aj_in 1507 (by decide +kernel) rfl), (aj_in 61 (by decide +kernel) rfl), by decide +kernel⟩
theorem cv_X5_hullArea : aj_cv yX5_hullArea := ⟨(aj_in 1505 (by decide +kernel) rfl), (aj_in 1506 (by decide +kernel) rfl)⟩
theorem cd_X5_roundsTold : aj_cd yX5_roundsTold cX5_roundsTold 5 (some .int) 0 := ⟨(aj_in 1515 (by decide +kernel) rfl), (aj_in 61 (by decide +kernel) rfl), by decide +kernel⟩
theorem cv_X5_roundsTold : aj_cv yX5_roundsTold := ⟨(aj_in 1514 (by decide +kernel) rfl), (aj_in 55 (by decide +kernel) rfl)⟩
theorem cd_X5_rounds : aj_cd yX5_rounds cX5_rounds 1 (some .int) 0 := ⟨(aj_in 1511 (by decide +kernel) rfl), (aj_in 61 (by decide +kernel) rfl), by decide +kernel⟩
theorem cv_X5_rounds : aj_cv yX5_rounds := ⟨(aj_in 1509 (by decide +kernel) rfl), (aj_in 1510 (by decide +kernel) rfl)⟩
theorem ml_RX5_261 : Cond.methodLink RX5 261 yX5_roundsTold ∈ aj_TB := (aj_in 1512 (by decide +kernel) rfl)
theorem cd_X5_house : aj_cd yX5_house cX5_house 2 (some .int) 1 := ⟨(aj_in 1519 (by decide +kernel) rfl), (aj_in 61 (by decide +kernel) rfl), by decide +kernel⟩
theorem cv_X5_house : aj_cv yX5_house := ⟨(aj_in 1517 (by decide +kernel) rfl), (aj_in 1518 (by decide +kernel) rfl)⟩
theorem cd_X5_knock : aj_cd yX5_knock cX5_knock 1 (some .int) 0 := ⟨(aj_in 1523 (by decide +kernel) rfl), (aj_in 61 (by decide +kernel) rfl), by decide +kernel⟩
theorem cv_X5_knock : aj_cv yX5_knock := ⟨(aj_in 1521 (by decide +kernel) rfl), (aj_in 1522 (by decide +kernel) rfl)⟩
theorem cd_X5_isSound : aj_cd yX5_isSound cX5_isSound 1 (some .boolean) 0 := ⟨(aj_in 1527 (by decide +kernel) rfl), (aj_in 61 (by decide +kernel) rfl), by decide +kernel⟩
theorem cv_X5_isSound : aj_cv yX5_isSound := ⟨(aj_in 1525 (by decide +kernel) rfl), (aj_in 1526 (by decide +kernel) rfl)⟩
theorem cd_X5_add : aj_cd yX5_add cX5_add 4 (some .long) 2 := ⟨(aj_in 1539 (by decide +kernel) rfl), (aj_in 61 (by decide +kernel) rfl), by decide +kernel⟩
theorem sv_X5_add : Cond.static yX5_add ∈ aj_TB := (aj_in 1538 (by decide +kernel) rfl)
theorem kc_RX5_264 : Cond.constantLong RX5 264 (31) ∈ aj_TB := (aj_in 1540 (by decide +kernel) rfl)
theorem cd_X5_addCells : aj_cd yX5_addCells cX5_addCells 7 (some .long) 1 := ⟨(aj_in 1536 (by decide +kernel) rfl), (aj_in 61 (by decide +kernel) rfl), by decide +kernel⟩
theorem cv_X5_addCells : aj_cv yX5_addCells := ⟨(aj_in 1535 (by decide +kernel) rfl), (aj_in 56 (by decide +kernel) rfl)⟩
theorem ml_RX5_266 : Cond.methodLink RX5 266 yX5_add ∈ aj_TB := (aj_in 1537 (by decide +kernel) rfl)
theorem cd_X5_digest : aj_cd yX5_digest cX5_digest 9 (some .long) 0 := ⟨(aj_in 1531 (by decide +kernel) rfl), (aj_in 61 (by decide +kernel) rfl), by decide +kernel⟩
theorem cv_X5_digest : aj_cv yX5_digest := ⟨(aj_in 1529 (by decide +kernel) rfl), (aj_in 1530 (by decide +kernel) rfl)⟩
theorem kc_RX5_269 : Cond.constantLong RX5 269 (7682) ∈ aj_TB := (aj_in 1532 (by decide +kernel) rfl)
theorem ml_RX5_271 : Cond.methodLink RX5 271 yX5_addCells ∈ aj_TB := (aj_in 1533 (by decide +kernel) rfl)
theorem cd_X0_between : aj_cd yX0_between cX0_between 8 (some .long) 2 := ⟨(aj_in 711 (by decide +kernel) rfl), (aj_in 69 (by decide +kernel) rfl), by decide +kernel⟩
theorem sv_X0_between : Cond.static yX0_between ∈ aj_TB := (aj_in 710 (by decide +kernel) rfl)
theorem ml_RX0_9 : Cond.methodLink RX0 9 yX0_arc ∈ aj_TB := (aj_in 712 (by decide +kernel) rfl)
theorem kc_RX0_13 : Cond.constantLong RX0 13 (1811004864519280711) ∈ aj_TB := (aj_in 719 (by decide +kernel) rfl)
theorem kc_RX0_15 : Cond.constantLong RX0 15 (3622009729038561421) ∈ aj_TB := (aj_in 720 (by decide +kernel) rfl)
theorem cd_X0_arc : aj_cd yX0_arc cX0_arc 11 (some .long) 2 := ⟨(aj_in 714 (by decide +kernel) rfl), (aj_in 69 (by decide +kernel) rfl), by decide +kernel⟩
theorem sv_X0_arc : Cond.static yX0_arc ∈ aj_TB := (aj_in 713 (by decide +kernel) rfl)
theorem kc_RX0_17 : Cond.constantLong RX0 17 (1152921504606846976) ∈ aj_TB := (aj_in 715 (by decide +kernel) rfl)
theorem ml_RX0_19 : Cond.methodLink RX0 19 yX0_timesQuotient ∈ aj_TB := (aj_in 716 (by decide +kernel) rfl)
theorem cd_X0_timesQuotient : aj_cd yX0_timesQuotient cX0_timesQuotient 6 (some .long) 3 := ⟨(aj_in 718 (by decide +kernel) rfl), (aj_in 69 (by decide +kernel) rfl), by decide +kernel⟩
theorem sv_X0_timesQuotient : Cond.static yX0_timesQuotient ∈ aj_TB := (aj_in 717 (by decide +kernel) rfl)
theorem cd_X0_roundDown : aj_cd yX0_roundDown cX0_roundDown 3 (some .int) 2 := ⟨(aj_in 847 (by decide +kernel) rfl), (aj_in 69 (by decide +kernel) rfl), by decide +kernel⟩
theorem sv_X0_roundDown : Cond.static yX0_roundDown ∈ aj_TB := (aj_in 846 (by decide +kernel) rfl)
theorem cd_X0_exponentAndHead : aj_cd yX0_exponentAndHead cX0_exponentAndHead 4 (some .int) 1 := ⟨(aj_in 731 (by decide +kernel) rfl), (aj_in 69 (by decide +kernel) rfl), by decide +kernel⟩
theorem sv_X0_exponentAndHead : Cond.static yX0_exponentAndHead ∈ aj_TB := (aj_in 730 (by decide +kernel) rfl)
theorem kc_RX0_23 : Cond.constant RX0 23 (1048576) ∈ aj_TB := (aj_in 732 (by decide +kernel) rfl)
theorem cd_X0_compareDigits : aj_cd yX0_compareDigits cX0_compareDigits 2 (some .int) 2 := ⟨(aj_in 736 (by decide +kernel) rfl), (aj_in 69 (by decide +kernel) rfl), by decide +kernel⟩
theorem sv_X0_compareDigits : Cond.static yX0_compareDigits ∈ aj_TB := (aj_in 735 (by decide +kernel) rfl)
theorem ml_RX0_24 : Cond.methodLink RX0 24 yX0_rankOf ∈ aj_TB := (aj_in 737 (by decide +kernel) rfl)
theorem ml_RX0_28 : (RX0, 28, yX3_signOf, RX3) ∈ aj_NM := by decide +kernel
theorem cd_X0_rankOf : aj_cd yX0_rankOf cX0_rankOf 1 (some .int) 1 := ⟨(aj_in 739 (by decide +kernel) rfl), (aj_in 69 (by decide +kernel) rfl), by decide +kernel⟩
theorem sv_X0_rankOf : Cond.static yX0_rankOf ∈ aj_TB := (aj_in 738 (by decide +kernel) rfl)
theorem kc_RX0_34 : Cond.constant RX0 34 (2147483647) ∈ aj_TB := (aj_in 740 (by decide +kernel) rfl)
theorem cd_X0_sideBetween : aj_cd yX0_sideBetween cX0_sideBetween 8 (some .int) 2 := ⟨(aj_in 748 (by decide +kernel) rfl), (aj_in 69 (by decide +kernel) rfl), by decide +kernel⟩
theorem sv_X0_sideBetween : Cond.static yX0_sideBetween ∈ aj_TB := (aj_in 747 (by decide +kernel) rfl)
theorem kc_RX0_35 : Cond.constantLong RX0 35 (3622009729038561280) ∈ aj_TB := (aj_in 749 (by decide +kernel) rfl)
theorem kc_RX0_37 : Cond.constantLong RX0 37 (7244019458077122560) ∈ aj_TB := (aj_in 750 (by decide +kernel) rfl)
theorem kc_RX0_39 : Cond.constantLong RX0 39 (-3622009729038561280) ∈ aj_TB := (aj_in 751 (by decide +kernel) rfl)
theorem kc_RX0_41 : Cond.constantLong RX0 41 (1099511627776) ∈ aj_TB := (aj_in 752 (by decide +kernel) rfl)
theorem cd_X1_init : aj_cd yX1_init cX1_init 1 none 0 := ⟨(aj_in 116 (by decide +kernel) rfl), (aj_in 60 (by decide +kernel) rfl), by decide +kernel⟩
theorem iv_X1_init : Cond.instanceMethod yX1_init ∈ aj_TB := (aj_in 115 (by decide +kernel) rfl)
theorem ml_RX1_3 : Cond.methodLink RX1 3 Lib.objectInit ∈ aj_TB := (aj_in 117 (by decide +kernel) rfl)
theorem fl_RX1_9 : aj_FL RX1 9 2 0 := ⟨by decide, by decide, (aj_in 120 (by decide +kernel) rfl)⟩
theorem fl_RX1_13 : aj_FL RX1 13 2 1 := ⟨by decide, by decide, (aj_in 122 (by decide +kernel) rfl)⟩
theorem fl_RX1_16 : aj_FL RX1 16 2 3 := ⟨by decide, by decide, (aj_in 126 (by decide +kernel) rfl)⟩
theorem fl_RX1_19 : aj_FL RX1 19 2 5 := ⟨by decide, by decide, (aj_in 130 (by decide +kernel) rfl)⟩
theorem nw_RX1_22 : aj_NW RX1 22 3 := ⟨by decide, (aj_in 118 (by decide +kernel) rfl), (aj_in 90 (by decide +kernel) rfl), (aj_in 59 (by decide +kernel) rfl)⟩
theorem ml_RX1_24 : (RX1, 24, yX2_init, RX3) ∈ aj_NM := by decide +kernel
theorem fl_RX1_25 : aj_FL RX1 25 2 7 := ⟨by decide, by decide, (aj_in 134 (by decide +kernel) rfl)⟩
theorem fl_RX1_29 : aj_FL RX1 29 2 8 := ⟨by decide, by decide, (aj_in 135 (by decide +kernel) rfl)⟩
theorem cd_X1_numberAt : aj_cd yX1_numberAt cX1_numberAt 4 (some .int) 2 := ⟨(aj_in 1036 (by decide +kernel) rfl), (aj_in 60 (by decide +kernel) rfl), by decide +kernel⟩
theorem cv_X1_numberAt : aj_cv yX1_numberAt := ⟨(aj_in 1034 (by decide +kernel) rfl), (aj_in 1035 (by decide +kernel) rfl)⟩
theorem fl_RX1_32 : aj_FL RX1 32 2 2 := ⟨by decide, by decide, (aj_in 124 (by decide +kernel) rfl)⟩
theorem cd_X1_add : aj_cd yX1_add cX1_add 4 (some .int) 2 := ⟨(aj_in 1040 (by decide +kernel) rfl), (aj_in 60 (by decide +kernel) rfl), by decide +kernel⟩
theorem cv_X1_add : aj_cv yX1_add := ⟨(aj_in 1038 (by decide +kernel) rfl), (aj_in 1039 (by decide +kernel) rfl)⟩
theorem ml_RX1_36 : Cond.methodLink RX1 36 yX1_lay ∈ aj_TB := (aj_in 215 (by decide +kernel) rfl)
theorem cd_X1_drop : aj_cd yX1_drop cX1_drop 3 none 1 := ⟨(aj_in 1051 (by decide +kernel) rfl), (aj_in 60 (by decide +kernel) rfl), by decide +kernel⟩
theorem cv_X1_drop : aj_cv yX1_drop := ⟨(aj_in 1049 (by decide +kernel) rfl), (aj_in 1050 (by decide +kernel) rfl)⟩
theorem cd_X1_moveTo : aj_cd yX1_moveTo cX1_moveTo 4 (some .boolean) 3 := ⟨(aj_in 1062 (by decide +kernel) rfl), (aj_in 60 (by decide +kernel) rfl), by decide +kernel⟩
theorem cv_X1_moveTo : aj_cv yX1_moveTo := ⟨(aj_in 1060 (by decide +kernel) rfl), (aj_in 1061 (by decide +kernel) rfl)⟩
theorem cd_X1_turnAll : aj_cd yX1_turnAll cX1_turnAll 3 none 0 := ⟨(aj_in 214 (by decide +kernel) rfl), (aj_in 60 (by decide +kernel) rfl), by decide +kernel⟩
theorem cv_X1_turnAll : aj_cv yX1_turnAll := ⟨(aj_in 212 (by decide +kernel) rfl), (aj_in 213 (by decide +kernel) rfl)⟩
theorem cd_X1_mirrorAll : aj_cd yX1_mirrorAll cX1_mirrorAll 2 none 0 := ⟨(aj_in 274 (by decide +kernel) rfl), (aj_in 60 (by decide +kernel) rfl), by decide +kernel⟩
theorem cv_X1_mirrorAll : aj_cv yX1_mirrorAll := ⟨(aj_in 272 (by decide +kernel) rfl), (aj_in 273 (by decide +kernel) rfl)⟩
theorem cd_X1_stepBetween : aj_cd yX1_stepBetween cX1_stepBetween 4 none 3 := ⟨(aj_in 964 (by decide +kernel) rfl), (aj_in 60 (by decide +kernel) rfl), by decide +kernel⟩
theorem cv_X1_stepBetween : aj_cv yX1_stepBetween := ⟨(aj_in 962 (by decide +kernel) rfl), (aj_in 963 (by decide +kernel) rfl)⟩
theorem ml_RX1_39 : Cond.methodLink RX1 39 yX2_become ∈ aj_TB := (aj_in 235 (by decide +kernel) rfl)
theorem cd_X1_cross : aj_cd yX1_cross cX1_cross 4 (some .int) 3 := ⟨(aj_in 259 (by decide +kernel) rfl), (aj_in 60 (by decide +kernel) rfl), by decide +kernel⟩
theorem cv_X1_cross : aj_cv yX1_cross := ⟨(aj_in 257 (by decide +kernel) rfl), (aj_in 258 (by decide +kernel) rfl)⟩
theorem cd_X1_dot : aj_cd yX1_dot cX1_dot 4 (some .int) 3 := ⟨(aj_in 678 (by decide +kernel) rfl), (aj_in 60 (by decide +kernel) rfl), by decide +kernel⟩
theorem cv_X1_dot : aj_cv yX1_dot := ⟨(aj_in 677 (by decide +kernel) rfl), (aj_in 12 (by decide +kernel) rfl)⟩
theorem cd_X1_distance : aj_cd yX1_distance cX1_distance 5 (some .int) 2 := ⟨(aj_in 226 (by decide +kernel) rfl), (aj_in 60 (by decide +kernel) rfl), by decide +kernel⟩
theorem cv_X1_distance : aj_cv yX1_distance := ⟨(aj_in 225 (by decide +kernel) rfl), (aj_in 3 (by decide +kernel) rfl)⟩
theorem cd_X1_following : aj_cd yX1_following cX1_following 2 (some .int) 2 := ⟨(aj_in 266 (by decide +kernel) rfl), (aj_in 60 (by decide +kernel) rfl), by decide +kernel⟩
theorem sv_X1_following : Cond.static yX1_following ∈ aj_TB := (aj_in 265 (by decide +kernel) rfl)
theorem cd_X1_lay : aj_cd yX1_lay cX1_lay 1 none 0 := ⟨(aj_in 218 (by decide +kernel) rfl), (aj_in 60 (by decide +kernel) rfl), by decide +kernel⟩
theorem cv_X1_lay : aj_cv yX1_lay := ⟨(aj_in 217 (by decide +kernel) rfl), (aj_in 1 (by decide +kernel) rfl)⟩
theorem ml_RX1_43 : Cond.methodLink RX1 43 yX1_layRound ∈ aj_TB := (aj_in 219 (by decide +kernel) rfl)
theorem ml_RX1_46 : Cond.methodLink RX1 46 yX1_layHull ∈ aj_TB := (aj_in 240 (by decide +kernel) rfl)
theorem cd_X1_layRound : aj_cd yX1_layRound cX1_layRound 3 none 0 := ⟨(aj_in 222 (by decide +kernel) rfl), (aj_in 60 (by decide +kernel) rfl), by decide +kernel⟩
theorem cv_X1_layRound : aj_cv yX1_layRound := ⟨(aj_in 221 (by decide +kernel) rfl), (aj_in 2 (by decide +kernel) rfl)⟩
theorem fl_RX1_49 : aj_FL RX1 49 2 4 := ⟨by decide, by decide, (aj_in 128 (by decide +kernel) rfl)⟩
theorem ml_RX1_52 : Cond.methodLink RX1 52 yX1_distance ∈ aj_TB := (aj_in 223 (by decide +kernel) rfl)
theorem ml_RX1_56 : Cond.methodLink RX1 56 yX1_comesBefore ∈ aj_TB := (aj_in 227 (by decide +kernel) rfl)
theorem cd_X1_takeSteps : aj_cd yX1_takeSteps cX1_takeSteps 4 none 3 := ⟨(aj_in 234 (by decide +kernel) rfl), (aj_in 60 (by decide +kernel) rfl), by decide +kernel⟩
theorem cv_X1_takeSteps : aj_cv yX1_takeSteps := ⟨(aj_in 233 (by decide +kernel) rfl), (aj_in 5 (by decide +kernel) rfl)⟩
theorem cd_X1_orderFrom : aj_cd yX1_orderFrom cX1_orderFrom 4 (some .int) 3 := ⟨(aj_in 1094 (by decide +kernel) rfl), (aj_in 60 (by decide +kernel) rfl), by decide +kernel⟩
theorem cv_X1_orderFrom : aj_cv yX1_orderFrom := ⟨(aj_in 1092 (by decide +kernel) rfl), (aj_in 1093 (by decide +kernel) rfl)⟩
theorem ml_RX1_60 : Cond.methodLink RX1 60 yX1_takeSteps ∈ aj_TB := (aj_in 231 (by decide +kernel) rfl)
theorem ml_RX1_63 : Cond.methodLink RX1 63 yX2_orderTo ∈ aj_TB := (aj_in 239 (by decide +kernel) rfl)
theorem cd_X1_comesBefore : aj_cd yX1_comesBefore cX1_comesBefore 4 (some .boolean) 2 := ⟨(aj_in 230 (by decide +kernel) rfl), (aj_in 60 (by decide +kernel) rfl), by decide +kernel⟩
theorem cv_X1_comesBefore : aj_cv yX1_comesBefore := ⟨(aj_in 229 (by decide +kernel) rfl), (aj_in 4 (by decide +kernel) rfl)⟩
theorem cd_X1_layHull : aj_cd yX1_layHull cX1_layHull 4 none 0 := ⟨(aj_in 243 (by decide +kernel) rfl), (aj_in 60 (by decide +kernel) rfl), by decide +kernel⟩
theorem cv_X1_layHull : aj_cv yX1_layHull := ⟨(aj_in 242 (by decide +kernel) rfl), (aj_in 6 (by decide +kernel) rfl)⟩
theorem fl_RX1_67 : aj_FL RX1 67 2 6 := ⟨by decide, by decide, (aj_in 132 (by decide +kernel) rfl)⟩
theorem ml_RX1_70 : Cond.methodLink RX1 70 yX1_lowest ∈ aj_TB := (aj_in 244 (by decide +kernel) rfl)
theorem ml_RX1_74 : Cond.methodLink RX1 74 yX1_cornerAfter ∈ aj_TB := (aj_in 248 (by decide +kernel) rfl)
theorem cd_X1_lowest : aj_cd yX1_lowest cX1_lowest 3 (some .int) 0 := ⟨(aj_in 247 (by decide +kernel) rfl), (aj_in 60 (by decide +kernel) rfl), by decide +kernel⟩
theorem cv_X1_lowest : aj_cv yX1_lowest := ⟨(aj_in 246 (by decide +kernel) rfl), (aj_in 7 (by decide +kernel) rfl)⟩
theorem cd_X1_cornerAfter : aj_cd yX1_cornerAfter cX1_cornerAfter 4 (some .int) 1 := ⟨(aj_in 251 (by decide +kernel) rfl), (aj_in 60 (by decide +kernel) rfl), by decide +kernel⟩
theorem cv_X1_cornerAfter : aj_cv yX1_cornerAfter := ⟨(aj_in 250 (by decide +kernel) rfl), (aj_in 8 (by decide +kernel) rfl)⟩
theorem ml_RX1_78 : Cond.methodLink RX1 78 yX1_isOutside ∈ aj_TB := (aj_in 252 (by decide +kernel) rfl)
theorem cd_X1_isOutside : aj_cd yX1_isOutside cX1_isOutside 5 (some .boolean) 3 := ⟨(aj_in 255 (by decide +kernel) rfl), (aj_in 60 (by decide +kernel) rfl), by decide +kernel⟩
theorem cv_X1_isOutside : aj_cv yX1_isOutside := ⟨(aj_in 254 (by decide +kernel) rfl), (aj_in 9 (by decide +kernel) rfl)⟩
theorem ml_RX1_82 : Cond.methodLink RX1 82 yX1_cross ∈ aj_TB := (aj_in 256 (by decide +kernel) rfl)
theorem cd_X1_takeRoundSteps : aj_cd yX1_takeRoundSteps cX1_takeRoundSteps 2 none 1 := ⟨(aj_in 634 (by decide +kernel) rfl), (aj_in 60 (by decide +kernel) rfl), by decide +kernel⟩
theorem cv_X1_takeRoundSteps : aj_cv yX1_takeRoundSteps := ⟨(aj_in 633 (by decide +kernel) rfl), (aj_in 11 (by decide +kernel) rfl)⟩
theorem ml_RX1_86 : Cond.methodLink RX1 86 yX1_following ∈ aj_TB := (aj_in 264 (by decide +kernel) rfl)
theorem cd_X1_isRoundStar : aj_cd yX1_isRoundStar cX1_isRoundStar 3 (some .boolean) 0 := ⟨(aj_in 630 (by decide +kernel) rfl), (aj_in 60 (by decide +kernel) rfl), by decide +kernel⟩
theorem cv_X1_isRoundStar : aj_cv yX1_isRoundStar := ⟨(aj_in 628 (by decide +kernel) rfl), (aj_in 629 (by decide +kernel) rfl)⟩
theorem ml_RX1_89 : Cond.methodLink RX1 89 yX1_takeRoundSteps ∈ aj_TB := (aj_in 631 (by decide +kernel) rfl)
theorem ml_RX1_93 : Cond.methodLink RX1 93 yX2_sideOf ∈ aj_TB := (aj_in 635 (by decide +kernel) rfl)
theorem cd_X1_areaOfStar : aj_cd yX1_areaOfStar cX1_areaOfStar 3 (some .int) 0 := ⟨(aj_in 653 (by decide +kernel) rfl), (aj_in 60 (by decide +kernel) rfl), by decide +kernel⟩
theorem cv_X1_areaOfStar : aj_cv yX1_areaOfStar := ⟨(aj_in 651 (by decide +kernel) rfl), (aj_in 652 (by decide +kernel) rfl)⟩
theorem ml_RX1_96 : Cond.methodLink RX1 96 yX2_crossWith ∈ aj_TB := (aj_in 654 (by decide +kernel) rfl)
theorem cd_X1_areaOfHull : aj_cd yX1_areaOfHull cX1_areaOfHull 5 (some .int) 0 := ⟨(aj_in 263 (by decide +kernel) rfl), (aj_in 60 (by decide +kernel) rfl), by decide +kernel⟩
theorem cv_X1_areaOfHull : aj_cv yX1_areaOfHull := ⟨(aj_in 261 (by decide +kernel) rfl), (aj_in 262 (by decide +kernel) rfl)⟩
theorem cd_X1_isCentreOnWalk : aj_cd yX1_isCentreOnWalk cX1_isCentreOnWalk 3 (some .boolean) 0 := ⟨(aj_in 674 (by decide +kernel) rfl), (aj_in 60 (by decide +kernel) rfl), by decide +kernel⟩
theorem cv_X1_isCentreOnWalk : aj_cv yX1_isCentreOnWalk := ⟨(aj_in 672 (by decide +kernel) rfl), (aj_in 673 (by decide +kernel) rfl)⟩
theorem ml_RX1_99 : Cond.methodLink RX1 99 yX1_dot ∈ aj_TB := (aj_in 675 (by decide +kernel) rfl)
theorem cd_X1_windings : aj_cd yX1_windings cX1_windings 3 (some .int) 0 := ⟨(aj_in 682 (by decide +kernel) rfl), (aj_in 60 (by decide +kernel) rfl), by decide +kernel⟩
theorem cv_X1_windings : aj_cv yX1_windings := ⟨(aj_in 680 (by decide +kernel) rfl), (aj_in 681 (by decide +kernel) rfl)⟩
theorem ml_RX1_102 : Cond.methodLink RX1 102 yX1_windingOf ∈ aj_TB := (aj_in 683 (by decide +kernel) rfl)
theorem cd_X1_windingOf : aj_cd yX1_windingOf cX1_windingOf 6 (some .int) 2 := ⟨(aj_in 686 (by decide +kernel) rfl), (aj_in 60 (by decide +kernel) rfl), by decide +kernel⟩
theorem cv_X1_windingOf : aj_cv yX1_windingOf := ⟨(aj_in 685 (by decide +kernel) rfl), (aj_in 13 (by decide +kernel) rfl)⟩
theorem cd_X1_isRoundSound : aj_cd yX1_isRoundSound cX1_isRoundSound 2 (some .boolean) 0 := ⟨(aj_in 757 (by decide +kernel) rfl), (aj_in 60 (by decide +kernel) rfl), by decide +kernel⟩
theorem cv_X1_isRoundSound : aj_cv yX1_isRoundSound := ⟨(aj_in 755 (by decide +kernel) rfl), (aj_in 756 (by decide +kernel) rfl)⟩
theorem cd_X1_isHullSound : aj_cd yX1_isHullSound cX1_isHullSound 4 (some .boolean) 0 := ⟨(aj_in 761 (by decide +kernel) rfl), (aj_in 60 (by decide +kernel) rfl), by decide +kernel⟩
theorem cv_X1_isHullSound : aj_cv yX1_isHullSound := ⟨(aj_in 759 (by decide +kernel) rfl), (aj_in 760 (by decide +kernel) rfl)⟩
theorem cd_X1_isStarSound : aj_cd yX1_isStarSound cX1_isStarSound 2 (some .boolean) 0 := ⟨(aj_in 765 (by decide +kernel) rfl), (aj_in 60 (by decide +kernel) rfl), by decide +kernel⟩
theorem cv_X1_isStarSound : aj_cv yX1_isStarSound := ⟨(aj_in 763 (by decide +kernel) rfl), (aj_in 764 (by decide +kernel) rfl)⟩
theorem ml_RX1_105 : Cond.methodLink RX1 105 yX1_isRoundStar ∈ aj_TB := (aj_in 766 (by decide +kernel) rfl)
theorem ml_RX1_109 : Cond.methodLink RX1 109 yX1_areaOfStar ∈ aj_TB := (aj_in 767 (by decide +kernel) rfl)
theorem ml_RX1_112 : Cond.methodLink RX1 112 yX1_areaOfHull ∈ aj_TB := (aj_in 768 (by decide +kernel) rfl)
theorem cd_X2_init : aj_cd yX2_init cX2_init 1 none 0 := ⟨(aj_in 93 (by decide +kernel) rfl), (aj_in 59 (by decide +kernel) rfl), by decide +kernel⟩
theorem iv_X2_init : Cond.instanceMethod yX2_init ∈ aj_TB := (aj_in 92 (by decide +kernel) rfl)
theorem ml_RX2_1 : Cond.methodLink RX2 1 Lib.objectInit ∈ aj_TB := (aj_in 94 (by decide +kernel) rfl)
theorem fl_RX2_7 : aj_FL RX2 7 3 0 := ⟨by decide, by decide, (aj_in 95 (by decide +kernel) rfl)⟩
theorem fl_RX2_13 : aj_FL RX2 13 3 3 := ⟨by decide, by decide, (aj_in 101 (by decide +kernel) rfl)⟩
theorem cd_X2_become : aj_cd yX2_become cX2_become 4 none 3 := ⟨(aj_in 238 (by decide +kernel) rfl), (aj_in 59 (by decide +kernel) rfl), by decide +kernel⟩
theorem cv_X2_become : aj_cv yX2_become := ⟨(aj_in 236 (by decide +kernel) rfl), (aj_in 237 (by decide +kernel) rfl)⟩
theorem fl_RX2_16 : aj_FL RX2 16 3 1 := ⟨by decide, by decide, (aj_in 97 (by decide +kernel) rfl)⟩
theorem fl_RX2_19 : aj_FL RX2 19 3 2 := ⟨by decide, by decide, (aj_in 99 (by decide +kernel) rfl)⟩
theorem cd_X2_becomeByRule : aj_cd yX2_becomeByRule cX2_becomeByRule 4 none 2 := ⟨(aj_in 922 (by decide +kernel) rfl), (aj_in 59 (by decide +kernel) rfl), by decide +kernel⟩
theorem cv_X2_becomeByRule : aj_cv yX2_becomeByRule := ⟨(aj_in 920 (by decide +kernel) rfl), (aj_in 921 (by decide +kernel) rfl)⟩
theorem ml_RX2_22 : Cond.methodLink RX2 22 yX2_become ∈ aj_TB := (aj_in 923 (by decide +kernel) rfl)
theorem cd_X2_isNull : aj_cd yX2_isNull cX2_isNull 1 (some .boolean) 0 := ⟨(aj_in 745 (by decide +kernel) rfl), (aj_in 59 (by decide +kernel) rfl), by decide +kernel⟩
theorem cv_X2_isNull : aj_cv yX2_isNull := ⟨(aj_in 743 (by decide +kernel) rfl), (aj_in 744 (by decide +kernel) rfl)⟩
theorem cd_X2_isUpper : aj_cd yX2_isUpper cX2_isUpper 1 (some .boolean) 0 := ⟨(aj_in 202 (by decide +kernel) rfl), (aj_in 59 (by decide +kernel) rfl), by decide +kernel⟩
theorem cv_X2_isUpper : aj_cv yX2_isUpper := ⟨(aj_in 200 (by decide +kernel) rfl), (aj_in 201 (by decide +kernel) rfl)⟩
theorem cd_X2_isTwinOf : aj_cd yX2_isTwinOf cX2_isTwinOf 2 (some .boolean) 1 := ⟨(aj_in 206 (by decide +kernel) rfl), (aj_in 59 (by decide +kernel) rfl), by decide +kernel⟩
theorem cv_X2_isTwinOf : aj_cv yX2_isTwinOf := ⟨(aj_in 204 (by decide +kernel) rfl), (aj_in 205 (by decide +kernel) rfl)⟩
theorem cd_X2_isOfNoSize : aj_cd yX2_isOfNoSize cX2_isOfNoSize 1 (some .boolean) 0 := ⟨(aj_in 706 (by decide +kernel) rfl), (aj_in 59 (by decide +kernel) rfl), by decide +kernel⟩
theorem cv_X2_isOfNoSize : aj_cv yX2_isOfNoSize := ⟨(aj_in 704 (by decide +kernel) rfl), (aj_in 705 (by decide +kernel) rfl)⟩
theorem cd_X2_isDiagonal : aj_cd yX2_isDiagonal cX2_isDiagonal 1 (some .boolean) 0 := ⟨(aj_in 828 (by decide +kernel) rfl), (aj_in 59 (by decide +kernel) rfl), by decide +kernel⟩
theorem cv_X2_isDiagonal : aj_cv yX2_isDiagonal := ⟨(aj_in 826 (by decide +kernel) rfl), (aj_in 827 (by decide +kernel) rfl)⟩
theorem cd_X2_isFixed : aj_cd yX2_isFixed cX2_isFixed 1 (some .boolean) 0 := ⟨(aj_in 824 (by decide +kernel) rfl), (aj_in 59 (by decide +kernel) rfl), by decide +kernel⟩
theorem cv_X2_isFixed : aj_cv yX2_isFixed := ⟨(aj_in 822 (by decide +kernel) rfl), (aj_in 823 (by decide +kernel) rfl)⟩
theorem ml_RX2_26 : Cond.methodLink RX2 26 yX2_isDiagonal ∈ aj_TB := (aj_in 825 (by decide +kernel) rfl)
theorem cd_X2_orderTo : aj_cd yX2_orderTo cX2_orderTo 3 (some .int) 1 := ⟨(aj_in 198 (by decide +kernel) rfl), (aj_in 59 (by decide +kernel) rfl), by decide +kernel⟩
theorem cv_X2_orderTo : aj_cv yX2_orderTo := ⟨(aj_in 196 (by decide +kernel) rfl), (aj_in 197 (by decide +kernel) rfl)⟩
theorem ml_RX2_30 : Cond.methodLink RX2 30 yX2_isUpper ∈ aj_TB := (aj_in 199 (by decide +kernel) rfl)
theorem cd_X2_crossWith : aj_cd yX2_crossWith cX2_crossWith 2 (some .int) 1 := ⟨(aj_in 642 (by decide +kernel) rfl), (aj_in 59 (by decide +kernel) rfl), by decide +kernel⟩
theorem cv_X2_crossWith : aj_cv yX2_crossWith := ⟨(aj_in 640 (by decide +kernel) rfl), (aj_in 641 (by decide +kernel) rfl)⟩
theorem cd_X2_sideOf : aj_cd yX2_sideOf cX2_sideOf 2 (some .int) 1 := ⟨(aj_in 638 (by decide +kernel) rfl), (aj_in 59 (by decide +kernel) rfl), by decide +kernel⟩
theorem cv_X2_sideOf : aj_cv yX2_sideOf := ⟨(aj_in 636 (by decide +kernel) rfl), (aj_in 637 (by decide +kernel) rfl)⟩
theorem ml_RX2_33 : Cond.methodLink RX2 33 yX2_crossWith ∈ aj_TB := (aj_in 639 (by decide +kernel) rfl)
theorem ml_RX2_37 : (RX2, 37, yX3_signOf, RX3) ∈ aj_NM := by decide +kernel
theorem cd_X2_angle : aj_cd yX2_angle cX2_angle 3 (some .long) 0 := ⟨(aj_in 702 (by decide +kernel) rfl), (aj_in 59 (by decide +kernel) rfl), by decide +kernel⟩
theorem cv_X2_angle : aj_cv yX2_angle := ⟨(aj_in 700 (by decide +kernel) rfl), (aj_in 701 (by decide +kernel) rfl)⟩
theorem ml_RX2_43 : Cond.methodLink RX2 43 yX2_isOfNoSize ∈ aj_TB := (aj_in 703 (by decide +kernel) rfl)
theorem kc_RX2_48 : Cond.constantLong RX2 48 (3622009729038561280) ∈ aj_TB := (aj_in 707 (by decide +kernel) rfl)
theorem kc_RX2_50 : Cond.constantLong RX2 50 (1811004864519280640) ∈ aj_TB := (aj_in 708 (by decide +kernel) rfl)
theorem ml_RX2_52 : Cond.methodLink RX2 52 yX0_between ∈ aj_TB := (aj_in 709 (by decide +kernel) rfl)
theorem cd_X2_firstDigits : aj_cd yX2_firstDigits cX2_firstDigits 4 (some .int) 1 := ⟨(aj_in 728 (by decide +kernel) rfl), (aj_in 59 (by decide +kernel) rfl), by decide +kernel⟩
theorem cv_X2_firstDigits : aj_cv yX2_firstDigits := ⟨(aj_in 726 (by decide +kernel) rfl), (aj_in 727 (by decide +kernel) rfl)⟩
theorem ml_RX2_56 : Cond.methodLink RX2 56 yX0_exponentAndHead ∈ aj_TB := (aj_in 729 (by decide +kernel) rfl)
theorem kc_RX2_59 : Cond.constant RX2 59 (-2147483648) ∈ aj_TB := (aj_in 733 (by decide +kernel) rfl)
theorem cd_X2_lastDigits : aj_cd yX2_lastDigits cX2_lastDigits 2 (some .int) 0 := ⟨(aj_in 832 (by decide +kernel) rfl), (aj_in 59 (by decide +kernel) rfl), by decide +kernel⟩
theorem cv_X2_lastDigits : aj_cv yX2_lastDigits := ⟨(aj_in 830 (by decide +kernel) rfl), (aj_in 831 (by decide +kernel) rfl)⟩
theorem kc_RX2_60 : Cond.constantLong RX2 60 (802078686650834) ∈ aj_TB := (aj_in 833 (by decide +kernel) rfl)
theorem kc_RX2_62 : Cond.constantLong RX2 62 (2570638124657944) ∈ aj_TB := (aj_in 834 (by decide +kernel) rfl)
theorem cd_L_put : aj_cw yL_put cL_put 7 (some .int) [(0, 15, 18, 19), (0, 15, 22, 21)] 6 := ⟨(aj_in 901 (by decide +kernel) rfl), (aj_in 57 (by decide +kernel) rfl), (aj_in 900 (by decide +kernel) rfl), by decide +kernel⟩
theorem ml_RL_7 : Cond.methodLink RL 7 yX3_put ∈ aj_TB := (aj_in 904 (by decide +kernel) rfl)
theorem fl_RL_13 : aj_FN RL 13 5 0 RL := by unfold aj_FN; decide +kernel
theorem cd_L_make : aj_cw yL_make cL_make 5 (some .int) [(0, 11, 14, 19), (0, 11, 18, 21)] 4 := ⟨(aj_in 914 (by decide +kernel) rfl), (aj_in 57 (by decide +kernel) rfl), (aj_in 913 (by decide +kernel) rfl), by decide +kernel⟩
theorem ml_RL_23 : Cond.methodLink RL 23 yX3_make ∈ aj_TB := (aj_in 915 (by decide +kernel) rfl)
theorem cd_L_stretch : aj_cw yL_stretch cL_stretch 5 (some .int) [(0, 11, 14, 19), (0, 11, 18, 21)] 4 := ⟨(aj_in 926 (by decide +kernel) rfl), (aj_in 57 (by decide +kernel) rfl), (aj_in 925 (by decide +kernel) rfl), by decide +kernel⟩
theorem ml_RL_27 : Cond.methodLink RL 27 yX3_stretch ∈ aj_TB := (aj_in 927 (by decide +kernel) rfl)
theorem cd_L_addSteps : aj_cw yL_addSteps cL_addSteps 6 (some .int) [(0, 13, 16, 19)] 5 := ⟨(aj_in 944 (by decide +kernel) rfl), (aj_in 57 (by decide +kernel) rfl), (aj_in 943 (by decide +kernel) rfl), by decide +kernel⟩
theorem ml_RL_30 : Cond.methodLink RL 30 yX3_addSteps ∈ aj_TB := (aj_in 945 (by decide +kernel) rfl)
theorem cd_L_takeStep : aj_cw yL_takeStep cL_takeStep 6 (some .int) [(0, 13, 16, 19)] 5 := ⟨(aj_in 951 (by decide +kernel) rfl), (aj_in 57 (by decide +kernel) rfl), (aj_in 950 (by decide +kernel) rfl), by decide +kernel⟩
theorem ml_RL_34 : Cond.methodLink RL 34 yX3_takeStep ∈ aj_TB := (aj_in 952 (by decide +kernel) rfl)
theorem cd_L_across : aj_cw yL_across cL_across 4 (some .int) [(0, 10, 13, 19)] 3 := ⟨(aj_in 967 (by decide +kernel) rfl), (aj_in 57 (by decide +kernel) rfl), (aj_in 966 (by decide +kernel) rfl), by decide +kernel⟩
theorem ml_RL_37 : Cond.methodLink RL 37 yX3_across ∈ aj_TB := (aj_in 968 (by decide +kernel) rfl)
theorem cd_L_up : aj_cw yL_up cL_up 4 (some .int) [(0, 10, 13, 19)] 3 := ⟨(aj_in 971 (by decide +kernel) rfl), (aj_in 57 (by decide +kernel) rfl), (aj_in 970 (by decide +kernel) rfl), by decide +kernel⟩
theorem ml_RL_41 : Cond.methodLink RL 41 yX3_up ∈ aj_TB := (aj_in 972 (by decide +kernel) rfl)
theorem cd_L_signs : aj_cw yL_signs cL_signs 4 (some .int) [(0, 10, 13, 19)] 3 := ⟨(aj_in 975 (by decide +kernel) rfl), (aj_in 57 (by decide +kernel) rfl), (aj_in 974 (by decide +kernel) rfl), by decide +kernel⟩
theorem ml_RL_44 : Cond.methodLink RL 44 yX3_signs ∈ aj_TB := (aj_in 976 (by decide +kernel) rfl)
theorem cd_L_upper : aj_cw yL_upper cL_upper 4 (some .int) [(0, 10, 13, 19)] 3 := ⟨(aj_in 979 (by decide +kernel) rfl), (aj_in 57 (by decide +kernel) rfl), (aj_in 978 (by decide +kernel) rfl), by decide +kernel⟩
theorem ml_RL_47 : Cond.methodLink RL 47 yX3_upper ∈ aj_TB := (aj_in 980 (by decide +kernel) rfl)
theorem cd_L_lower : aj_cw yL_lower cL_lower 4 (some .int) [(0, 10, 13, 19)] 3 := ⟨(aj_in 983 (by decide +kernel) rfl), (aj_in 57 (by decide +kernel) rfl), (aj_in 982 (by decide +kernel) rfl), by decide +kernel⟩
theorem ml_RL_50 : Cond.methodLink RL 50 yX3_lower ∈ aj_TB := (aj_in 984 (by decide +kernel) rfl)
theorem cd_L_grade : aj_cw yL_grade cL_grade 5 (some .int) [(0, 11, 14, 19), (0, 11, 18, 21)] 4 := ⟨(aj_in 987 (by decide +kernel) rfl), (aj_in 57 (by decide +kernel) rfl), (aj_in 986 (by decide +kernel) rfl), by decide +kernel⟩
theorem ml_RL_53 : Cond.methodLink RL 53 yX3_grade ∈ aj_TB := (aj_in 988 (by decide +kernel) rfl)
theorem cd_L_order : aj_cw yL_order cL_order 6 (some .int) [(0, 13, 16, 19), (0, 13, 20, 21)] 5 := ⟨(aj_in 991 (by decide +kernel) rfl), (aj_in 57 (by decide +kernel) rfl), (aj_in 990 (by decide +kernel) rfl), by decide +kernel⟩
theorem ml_RL_56 : Cond.methodLink RL 56 yX3_order ∈ aj_TB := (aj_in 992 (by decide +kernel) rfl)
theorem cd_L_like : aj_cw yL_like cL_like 5 (some .int) [(0, 18, 21, 19)] 4 := ⟨(aj_in 995 (by decide +kernel) rfl), (aj_in 57 (by decide +kernel) rfl), (aj_in 994 (by decide +kernel) rfl), by decide +kernel⟩
theorem ml_RL_59 : Cond.methodLink RL 59 yX3_like ∈ aj_TB := (aj_in 996 (by decide +kernel) rfl)
theorem cd_L_same : aj_cw yL_same cL_same 6 (some .int) [(0, 20, 23, 19), (0, 20, 27, 21)] 5 := ⟨(aj_in 999 (by decide +kernel) rfl), (aj_in 57 (by decide +kernel) rfl), (aj_in 998 (by decide +kernel) rfl), by decide +kernel⟩
theorem ml_RL_63 : Cond.methodLink RL 63 yX3_same ∈ aj_TB := (aj_in 1000 (by decide +kernel) rfl)
theorem cd_L_side : aj_cw yL_side cL_side 5 (some .int) [(0, 11, 14, 19)] 4 := ⟨(aj_in 1006 (by decide +kernel) rfl), (aj_in 57 (by decide +kernel) rfl), (aj_in 1005 (by decide +kernel) rfl), by decide +kernel⟩
theorem ml_RL_67 : Cond.methodLink RL 67 yX3_side ∈ aj_TB := (aj_in 1007 (by decide +kernel) rfl)
theorem cd_L_eighth : aj_cw yL_eighth cL_eighth 4 (some .int) [(0, 10, 13, 19)] 3 := ⟨(aj_in 1010 (by decide +kernel) rfl), (aj_in 57 (by decide +kernel) rfl), (aj_in 1009 (by decide +kernel) rfl), by decide +kernel⟩
theorem ml_RL_70 : Cond.methodLink RL 70 yX3_eighth ∈ aj_TB := (aj_in 1011 (by decide +kernel) rfl)
theorem cd_L_rule : aj_cw yL_rule cL_rule 5 (some .int) [(0, 11, 14, 19), (0, 11, 18, 21)] 4 := ⟨(aj_in 1014 (by decide +kernel) rfl), (aj_in 57 (by decide +kernel) rfl), (aj_in 1013 (by decide +kernel) rfl), by decide +kernel⟩
theorem ml_RL_73 : Cond.methodLink RL 73 yX3_rule ∈ aj_TB := (aj_in 1015 (by decide +kernel) rfl)
theorem cd_L_find : aj_cw yL_find cL_find 5 (some .int) [(0, 11, 14, 19)] 4 := ⟨(aj_in 1021 (by decide +kernel) rfl), (aj_in 57 (by decide +kernel) rfl), (aj_in 1020 (by decide +kernel) rfl), by decide +kernel⟩
theorem ml_RL_76 : Cond.methodLink RL 76 yX3_find ∈ aj_TB := (aj_in 1022 (by decide +kernel) rfl)
theorem cd_L_addPlace : aj_cw yL_addPlace cL_addPlace 5 (some .int) [(0, 11, 14, 21)] 4 := ⟨(aj_in 1025 (by decide +kernel) rfl), (aj_in 57 (by decide +kernel) rfl), (aj_in 1024 (by decide +kernel) rfl), by decide +kernel⟩
theorem ml_RL_80 : Cond.methodLink RL 80 yX3_addPlace ∈ aj_TB := (aj_in 1026 (by decide +kernel) rfl)
theorem cd_L_removePlace : aj_cw yL_removePlace cL_removePlace 4 (some .int) [(0, 10, 13, 19)] 3 := ⟨(aj_in 1043 (by decide +kernel) rfl), (aj_in 57 (by decide +kernel) rfl), (aj_in 1042 (by decide +kernel) rfl), by decide +kernel⟩
theorem ml_RL_83 : Cond.methodLink RL 83 yX3_removePlace ∈ aj_TB := (aj_in 1044 (by decide +kernel) rfl)
theorem cd_L_movePlace : aj_cw yL_movePlace cL_movePlace 6 (some .int) [(0, 13, 16, 19), (0, 13, 20, 21)] 5 := ⟨(aj_in 1054 (by decide +kernel) rfl), (aj_in 57 (by decide +kernel) rfl), (aj_in 1053 (by decide +kernel) rfl), by decide +kernel⟩
theorem ml_RL_86 : Cond.methodLink RL 86 yX3_movePlace ∈ aj_TB := (aj_in 1055 (by decide +kernel) rfl)
theorem cd_L_centre : aj_cw yL_centre cL_centre 5 (some .int) [(0, 11, 14, 21)] 4 := ⟨(aj_in 1065 (by decide +kernel) rfl), (aj_in 57 (by decide +kernel) rfl), (aj_in 1064 (by decide +kernel) rfl), by decide +kernel⟩
theorem ml_RL_89 : Cond.methodLink RL 89 yX3_centre ∈ aj_TB := (aj_in 1066 (by decide +kernel) rfl)
theorem cd_L_place : aj_cw yL_place cL_place 5 (some .int) [(0, 11, 14, 19)] 4 := ⟨(aj_in 1072 (by decide +kernel) rfl), (aj_in 57 (by decide +kernel) rfl), (aj_in 1071 (by decide +kernel) rfl), by decide +kernel⟩
theorem ml_RL_92 : Cond.methodLink RL 92 yX3_place ∈ aj_TB := (aj_in 1073 (by decide +kernel) rfl)
theorem cd_L_bearing : aj_cw yL_bearing cL_bearing 6 (some .int) [(0, 13, 16, 19), (0, 13, 20, 21)] 5 := ⟨(aj_in 1079 (by decide +kernel) rfl), (aj_in 57 (by decide +kernel) rfl), (aj_in 1078 (by decide +kernel) rfl), by decide +kernel⟩
theorem ml_RL_95 : Cond.methodLink RL 95 yX3_bearing ∈ aj_TB := (aj_in 1080 (by decide +kernel) rfl)
theorem cd_L_bearingOrder : aj_cw yL_bearingOrder cL_bearingOrder 6 (some .int) [(0, 13, 16, 19)] 5 := ⟨(aj_in 1086 (by decide +kernel) rfl), (aj_in 57 (by decide +kernel) rfl), (aj_in 1085 (by decide +kernel) rfl), by decide +kernel⟩
theorem ml_RL_98 : Cond.methodLink RL 98 yX3_bearingOrder ∈ aj_TB := (aj_in 1087 (by decide +kernel) rfl)
theorem cd_L_left : aj_cw yL_left cL_left 6 (some .int) [(0, 13, 16, 19)] 5 := ⟨(aj_in 1097 (by decide +kernel) rfl), (aj_in 57 (by decide +kernel) rfl), (aj_in 1096 (by decide +kernel) rfl), by decide +kernel⟩
theorem ml_RL_101 : Cond.methodLink RL 101 yX3_left ∈ aj_TB := (aj_in 1098 (by decide +kernel) rfl)
theorem cd_L_house : aj_cw yL_house cL_house 4 (some .int) [(0, 10, 13, 21)] 3 := ⟨(aj_in 1106 (by decide +kernel) rfl), (aj_in 57 (by decide +kernel) rfl), (aj_in 1105 (by decide +kernel) rfl), by decide +kernel⟩
theorem ml_RL_104 : Cond.methodLink RL 104 yX3_house ∈ aj_TB := (aj_in 1107 (by decide +kernel) rfl)
theorem cd_X4_init : aj_cd yX4_init cX4_init 1 none 0 := ⟨(aj_in 893 (by decide +kernel) rfl), (aj_in 62 (by decide +kernel) rfl), by decide +kernel⟩
theorem iv_X4_init : Cond.instanceMethod yX4_init ∈ aj_TB := (aj_in 892 (by decide +kernel) rfl)
theorem ml_RX4_1 : Cond.methodLink RX4 1 Lib.objectInit ∈ aj_TB := (aj_in 894 (by decide +kernel) rfl)
theorem ob_init : Cond.instanceMethod Lib.objectInit ∈ aj_TB ∧ Cond.code Lib.objectInit ⟨#[0xb1]⟩ 1 none ∈ aj_TB := ⟨(aj_in 86 (by decide +kernel) rfl), (aj_in 87 (by decide +kernel) rfl)⟩
theorem ob_abs : Cond.static Lib.Math.abs.name ∈ aj_TB ∧ Cond.initialized "java/lang/Math" ∈ aj_TB ∧ Cond.code Lib.Math.abs.name Lib.Math.abs.code 1 (some .int) ∈ aj_TB := ⟨(aj_in 1201 (by decide +kernel) rfl), (aj_in 68 (by decide +kernel) rfl), (aj_in 1202 (by decide +kernel) rfl)⟩
theorem ac_int : Cond.arrayClass .int ∈ aj_TB := (aj_in 155 (by decide +kernel) rfl)
theorem ac_long : Cond.arrayClass .long ∈ aj_TB := (aj_in 111 (by decide +kernel) rfl)
theorem cl_L_19 : Cond.classLink RL 19 "java/lang/IndexOutOfBoundsException" ∈ aj_TB := (aj_in 902 (by decide +kernel) rfl)
theorem cl_L_21 : Cond.classLink RL 21 "java/lang/IllegalArgumentException" ∈ aj_TB := (aj_in 903 (by decide +kernel) rfl)
end
section
-- PURE WORDS
def bI (b : Bool) : Int32 := if b then 1 else 0
theorem bI_t : bI true = 1 := rfl
theorem bI_f : bI false = 0 := rfl
theorem bI_0 {b : Bool} : bI b = 0 ↔ b = false := by cases b <;> decide
theorem bI_1 {b : Bool} : bI b = 1 ↔ b = true := by cases b <;> decide
theorem bI_n {b : Bool} : ¬ bI b = 0 ↔ b = true := by cases b <;> decide
theorem bI_e {b c : Bool} : bI b = bI c ↔ b = c := by cases b <;> cases c <;> decide
theorem bI_nar (b : Bool) : narrow .boolean (.int (bI b)) = .int (bI b) := by cases b <;> rfl
section BR
variable {G : aj_G} {cc : ByteArray} {tbl : List (Nat × Instr × Nat)} {own : String} {R0 : Room} {nL : Nat} {pc q : Nat} {lv lv' : List (Option Value)} {st st' : List Value} {I : Nat → Nat → Int32} {J : Nat → Nat → Int64} {V : Nat → Nat → Option Nat} {N : Nat → Nat} {L : List Nat} {bc bs : Nat}
theorem x_if_eqB (C : aj_C G cc tbl own R0 nL) (k : Nat) {x : Bool} {off : Int} {t : Nat} (h : tbl[k]? = some (pc, .ifCond .eq off, 3)) (ht : (pc : Int) + off = (t : Int)) (hq : pc + 3 = q) (kt : x = false → aj_X G t lv st I J V N L bc bs) (kf : x = true → aj_X G q lv st I J V N L bc bs) : aj_X G pc lv (.int (bI x) :: st) I J V N L bc bs := x_if_eq C k h ht hq (fun z => kt (bI_0.mp z)) (fun z => kf (bI_n.mp z))
theorem x_if_neB (C : aj_C G cc tbl own R0 nL) (k : Nat) {x : Bool} {off : Int} {t : Nat} (h : tbl[k]? = some (pc, .ifCond .ne off, 3)) (ht : (pc : Int) + off = (t : Int)) (hq : pc + 3 = q) (kt : x = true → aj_X G t lv st I J V N L bc bs) (kf : x = false → aj_X G q lv st I J V N L bc bs) : aj_X G pc lv (.int (bI x) :: st) I J V N L bc bs := x_if_ne C k h ht hq (fun z => kt (bI_n.mp z)) (fun z => kf (bI_0.mp z))
theorem x_icmp_eqB (C : aj_C G cc tbl own R0 nL) (k : Nat) {x y : Bool} {off : Int} {t : Nat} (h : tbl[k]? = some (pc, .if_icmp .eq off, 3)) (ht : (pc : Int) + off = (t : Int)) (hq : pc + 3 = q) (kt : x = y → aj_X G t lv st I J V N L bc bs) (kf : ¬ x = y → aj_X G q lv st I J V N L bc bs) : aj_X G pc lv (.int (bI y) :: .int (bI x) :: st) I J V N L bc bs := x_icmp_eq C k h ht hq (fun z => kt (bI_e.mp z)) (fun z => kf (fun w => z (bI_e.mpr w)))
end BR
theorem aj_lf {K : aj_K} {I : Nat → Nat → Int32} {J : Nat → Nat → Int64} {V : Nat → Nat → Option Nat} {N : Nat → Nat} {L : List Nat} {x y : Int32} (h : K (.inl (some (.int x))) I J V N L) (e : x = y) : K (.inl (some (.int y))) I J V N L := e ▸ h
theorem aj_lfL {K : aj_K} {I : Nat → Nat → Int32} {J : Nat → Nat → Int64} {V : Nat → Nat → Option Nat} {N : Nat → Nat} {L : List Nat} {x y : Int64} (h : K (.inl (some (.long x))) I J V N L) (e : x = y) : K (.inl (some (.long y))) I J V N L := e ▸ h
theorem aj_lfI {K : aj_K} {o : Option Value ⊕ String} {I I2 : Nat → Nat → Int32} {J : Nat → Nat → Int64} {V : Nat → Nat → Option Nat} {N : Nat → Nat} {L : List Nat} (h : K o I J V N L) (e : I = I2) : K o I2 J V N L := e ▸ h
theorem aj_u_u {α : Type} (f : Nat → Nat → α) (i k : Nat) (v w : α) : aj_u (aj_u f i k v) i k w = aj_u f i k w := by
  funext a b
  unfold aj_u
  by_cases h : a = i ∧ b = k
  · rw [if_pos h, if_pos h]
  · rw [if_neg h, if_neg h, if_neg h]
theorem aj_u_k {α : Type} (f : Nat → Nat → α) (i : Nat) {k a b : Nat} (v : α) (h : b ≠ k) : aj_u f i k v a b = f a b := aj_u_n f v (fun z => h z.2)
theorem aj_u_i {α : Type} (f : Nat → Nat → α) {i : Nat} (k : Nat) {a b : Nat} (v : α) (h : a ≠ i) : aj_u f i k v a b = f a b := aj_u_n f v (fun z => h z.1)
-- a step: across x, up u, signs s, look k
def pUp (s : Int32) : Bool := decide (s &&& 2 = 0)
def pNull (x u : Int32) : Bool := decide (x = 0) && decide (u = 0)
def pNoSize (u k : Int32) : Bool := decide (u = 0) && decide (0 < k)
def pDiag (x u : Int32) : Bool := !decide (u = 0) && (decide (x = u) || decide (x = -u))
def pFixed (x u : Int32) : Bool := decide (u = 0) || decide (x = 0) || pDiag x u
def pTwin (x u s x' u' s' : Int32) : Bool := decide (x = x') && decide (u = u') && decide (s = s')
def pOrd (k u s k' u' s' : Int32) : Int32 := if pUp s = pUp s' then (if k * u' - u * k' = 0 then (if 0 < k * k' + u * u' then 0 else if pUp s = decide (0 < k) then -1 else 1) else if 0 < k * u' - u * k' then -1 else 1) else if pUp s = true then 1 else -1
def pCross (x u x' u' : Int32) : Int32 := x * u' - u * x'
def pSgn (v : Int64) : Int32 := if 0 < v then 1 else if v < 0 then -1 else 0
def pSgA (na zs : Int32) : Int32 := if na = 0 then zs &&& 1 else if na < 0 then 1 else 0
def pSgU (nu zs : Int32) : Int32 := if nu = 0 then zs &&& 2 else if nu < 0 then 2 else 0
def pSg (na nu zs : Int32) : Int32 := pSgA na zs ||| pSgU nu zs
def pLk (na nu zs : Int32) : Int32 := if na = 0 then (if nu = 0 then (if pSg na nu zs &&& 1 = 0 then 1 else -1) else na) else na
def stB (I : Nat → Nat → Int32) (a : Nat) (na nu zs : Int32) : Nat → Nat → Int32 := aj_u (aj_u (aj_u (aj_u I a 0 na) a 1 nu) a 2 (pSg na nu zs)) a 3 (pLk na nu zs)

def pRA (w : Nat) (x u : Int32) : Int32 := match w with | 0 => x | 1 => -x | 2 => -u | 3 => u | 4 => u | _ => -x
def pRU (w : Nat) (x u : Int32) : Int32 := match w with | 0 => -u | 1 => u | 2 => x | 3 => -x | 4 => x | _ => -u
def pSw (s : Int32) : Int32 := (s &&& 1) <<< ((1 : Int32) &&& 31) ||| (s &&& 2) >>> ((1 : Int32) &&& 31)
def pRS (w : Nat) (s : Int32) : Int32 := match w with | 0 => s ^^^ 2 | 1 => s ^^^ 1 | 2 => pSw s ^^^ 1 | 3 => pSw s ^^^ 2 | 4 => pSw s | _ => s ^^^ 3
def pTq (v n d : Int64) : Int64 := if d ≤ 0 then 0 else v / d * n + (v - v / d * d) * n / d
theorem pTq_ne {d : Int64} (h : 0 < d) : ¬ d = 0 := fun e => by rw [e] at h; exact absurd h (by decide)
def pArcL (h s : Int64) : Nat → Int32 → Int64 → Int64 → Int64
  | 0, _, _, sm => sm
  | n + 1, k, t, sm => if t ≤ 0 then sm else pArcL h s n (k + 1) (pTq t ((2 * k).toInt64 * h * h) ((2 * k + 1).toInt64 * s)) (sm + pTq t ((2 * k).toInt64 * h * h) ((2 * k + 1).toInt64 * s))
def pArc (h w : Int64) : Int64 := pArcL h (h * h + w * w) 60 1 (pTq 1152921504606846976 (h * w) (h * h + w * w)) (pTq 1152921504606846976 (h * w) (h * h + w * w))
theorem pk_ngt {a b : Nat} (h : a ≤ b) (hb : b < 2 ^ 31) : ¬ nI b < nI a := nI_nlt h hb
def pAb (v : Int64) : Int64 := if v < 0 then -v else v
def pAbI (x : Int32) : Int64 := if x < 0 then (-x).toInt64 else x.toInt64
def pBtw (x u : Int32) : Int64 := if 0 < x then (if pAbI u ≤ pAbI x then pArc (pAbI u) (pAbI x) else 1811004864519280711 - pArc (pAbI x) (pAbI u)) else 3622009729038561421 - (if pAbI u ≤ pAbI x then pArc (pAbI u) (pAbI x) else 1811004864519280711 - pArc (pAbI x) (pAbI u))
def pRD (v : Int64) (d : Int32) : Int32 := (v >>> (((60 : Int32) - d).toInt64 &&& 63)).toInt32
def pPw (v : Int64) : Nat → Int32 → Int32
  | 0, w => w
  | n + 1, w => if v >>> (((60 : Int32) + w).toInt64 &&& 63) = 0 then pPw v n (w + Int32.ofInt (-1)) else w
theorem pk_pw : ∀ n : Nat, n < 8 → ¬ Int32.ofInt (((n + 1 : Nat) : Int) - 7) ≤ -7 := by decide
def pHd (v : Int64) (w : Int32) : Int32 := (w + 1023) <<< ((20 : Int32) &&& 31) ||| ((v >>> (((60 : Int32) + w - 20).toInt64 &&& 63)).toInt32 - 1048576)
def pEH (v : Int64) : Int32 := if v = 0 then 0 else pHd v (pPw v 8 1)
def pRk (x : Int32) : Int32 := if x < 0 then (x &&& 2147483647) ^^^ -1 else x
def pSB1 (w : Int64) : Int64 := if 3622009729038561280 < w then w - 7244019458077122560 else if w < -3622009729038561280 then w + 7244019458077122560 else w
def pSB (x y : Int64) : Int32 := if pAb (pSB1 (y - x)) < 1099511627776 then 0 else if 3622009729038561280 - pAb (pSB1 (y - x)) < 1099511627776 then 0 else pSgn (pSB1 (y - x))
def pSz (x u k : Int32) : Int64 := if pNoSize u k = true then 0 else if u = 0 then 3622009729038561280 else if x = 0 then 1811004864519280640 else pBtw x u
def pAng (x u s k : Int32) : Int64 := if pUp s = true then pSz x u k else -pSz x u k
def pFD (s : Int32) (g : Int64) : Int32 := if pUp s = true then pEH (pAb g) else pEH (pAb g) ||| -2147483648
def pLD (x u k : Int32) : Int32 := if pNoSize u k = true then 0 else if pDiag x u = true then (if x < 0 then (802078686650834 : Int64).toInt32 else (2570638124657944 : Int64).toInt32) else (2570638124657944 : Int64).toInt32
end
section
-- WHAT STANDS ALL ALONG: the numbers of the class's and the reference's objects
def aj_CS : List Nat := [19, 35, 51, 67, 83, 99, 115, 131]
def aj_BL : List Nat := [20, 18, 22, 21, 27, 43, 25, 41, 24, 40, 56, 72, 88, 104, 120, 136, 152, 168, 147, 163, 179, 195, 19, 35, 51, 67, 83, 99, 115, 131]
def bV (V : Nat → Nat → Option Nat) (N : Nat → Nat) (L : List Nat) : Prop :=
  (∀ i ∈ aj_BL, i ∈ L) ∧ (V 20 0 = some 27 ∧ V 20 1 = some 43 ∧ V 20 2 = some 25 ∧ V 20 3 = some 147 ∧ V 20 4 = some 163 ∧ V 20 5 = some 18) ∧ (V 18 0 = some 24 ∧ V 18 1 = some 40 ∧ V 18 3 = some 56 ∧ V 18 5 = some 72 ∧ V 18 7 = some 179 ∧ V 18 8 = some 195) ∧
  (V 22 1 = some 88 ∧ V 22 2 = some 104 ∧ V 22 3 = some 120 ∧ V 22 4 = some 41 ∧ V 22 5 = some 136 ∧ V 22 6 = some 152 ∧ V 22 10 = some 168) ∧
  (N 27 = 8 ∧ N 43 = 8 ∧ N 25 = 8 ∧ N 41 = 8 ∧ N 24 = 13 ∧ N 40 = 13 ∧ N 56 = 12 ∧ N 72 = 12 ∧ N 88 = 8 ∧ N 104 = 8 ∧ N 120 = 8 ∧ N 136 = 12 ∧ N 152 = 12 ∧ N 168 = 4) ∧
  (∀ j, j < 8 → ∃ c, V 27 j = some c ∧ c ∈ aj_CS)
section BB
variable {V : Nat → Nat → Option Nat} {N : Nat → Nat} {L : List Nat}
theorem bL (h : bV V N L) : ∀ i ∈ aj_BL, i ∈ L := h.1
theorem bv_4_0 (h : bV V N L) : V 20 0 = some 27 := h.2.1.1
theorem bv_4_1 (h : bV V N L) : V 20 1 = some 43 := h.2.1.2.1
theorem bv_4_2 (h : bV V N L) : V 20 2 = some 25 := h.2.1.2.2.1
theorem bv_4_3 (h : bV V N L) : V 20 3 = some 147 := h.2.1.2.2.2.1
theorem bv_4_4 (h : bV V N L) : V 20 4 = some 163 := h.2.1.2.2.2.2.1
theorem bv_4_5 (h : bV V N L) : V 20 5 = some 18 := h.2.1.2.2.2.2.2
theorem bv_2_0 (h : bV V N L) : V 18 0 = some 24 := h.2.2.1.1
theorem bv_2_1 (h : bV V N L) : V 18 1 = some 40 := h.2.2.1.2.1
theorem bv_2_3 (h : bV V N L) : V 18 3 = some 56 := h.2.2.1.2.2.1
theorem bv_2_5 (h : bV V N L) : V 18 5 = some 72 := h.2.2.1.2.2.2.1
theorem bv_2_7 (h : bV V N L) : V 18 7 = some 179 := h.2.2.1.2.2.2.2.1
theorem bv_2_8 (h : bV V N L) : V 18 8 = some 195 := h.2.2.1.2.2.2.2.2
theorem bv_6_1 (h : bV V N L) : V 22 1 = some 88 := h.2.2.2.1.1
theorem bv_6_2 (h : bV V N L) : V 22 2 = some 104 := h.2.2.2.1.2.1
theorem bv_6_3 (h : bV V N L) : V 22 3 = some 120 := h.2.2.2.1.2.2.1
theorem bv_6_4 (h : bV V N L) : V 22 4 = some 41 := h.2.2.2.1.2.2.2.1
theorem bv_6_5 (h : bV V N L) : V 22 5 = some 136 := h.2.2.2.1.2.2.2.2.1
theorem bv_6_6 (h : bV V N L) : V 22 6 = some 152 := h.2.2.2.1.2.2.2.2.2.1
theorem bv_6_10 (h : bV V N L) : V 22 10 = some 168 := h.2.2.2.1.2.2.2.2.2.2
theorem bn27 (h : bV V N L) : N 27 = 8 := h.2.2.2.2.1.1
theorem bn43 (h : bV V N L) : N 43 = 8 := h.2.2.2.2.1.2.1
theorem bn25 (h : bV V N L) : N 25 = 8 := h.2.2.2.2.1.2.2.1
theorem bn41 (h : bV V N L) : N 41 = 8 := h.2.2.2.2.1.2.2.2.1
theorem bn24 (h : bV V N L) : N 24 = 13 := h.2.2.2.2.1.2.2.2.2.1
theorem bn40 (h : bV V N L) : N 40 = 13 := h.2.2.2.2.1.2.2.2.2.2.1
theorem bn56 (h : bV V N L) : N 56 = 12 := h.2.2.2.2.1.2.2.2.2.2.2.1
theorem bn72 (h : bV V N L) : N 72 = 12 := h.2.2.2.2.1.2.2.2.2.2.2.2.1
theorem bn88 (h : bV V N L) : N 88 = 8 := h.2.2.2.2.1.2.2.2.2.2.2.2.2.1
theorem bn104 (h : bV V N L) : N 104 = 8 := h.2.2.2.2.1.2.2.2.2.2.2.2.2.2.1
theorem bn120 (h : bV V N L) : N 120 = 8 := h.2.2.2.2.1.2.2.2.2.2.2.2.2.2.2.1
theorem bn136 (h : bV V N L) : N 136 = 12 := h.2.2.2.2.1.2.2.2.2.2.2.2.2.2.2.2.1
theorem bn152 (h : bV V N L) : N 152 = 12 := h.2.2.2.2.1.2.2.2.2.2.2.2.2.2.2.2.2.1
theorem bn168 (h : bV V N L) : N 168 = 4 := h.2.2.2.2.1.2.2.2.2.2.2.2.2.2.2.2.2.2
end BB
def eqO (S : List Nat) (I I' : Nat → Nat → Int32) : Prop := ∀ i, i ∉ S → I' i = I i
theorem eqO.rf {S : List Nat} {I : Nat → Nat → Int32} : eqO S I I := fun _ _ => rfl
theorem eqO.tr {S : List Nat} {I I' I'' : Nat → Nat → Int32} (h : eqO S I I') (h2 : eqO S I' I'') : eqO S I I'' := fun i hi => (h2 i hi).trans (h i hi)
theorem eqO.mono {S S' : List Nat} {I I' : Nat → Nat → Int32} (h : eqO S I I') (hs : ∀ i ∈ S, i ∈ S') : eqO S' I I' := fun i hi => h i (fun z => hi (hs i z))
theorem eqO.u {S : List Nat} {I : Nat → Nat → Int32} {i k : Nat} {v : Int32} (h : i ∈ S) : eqO S I (aj_u I i k v) := fun j hj => aj_u_o I v (fun e => hj (e ▸ h))
theorem stB_o {I : Nat → Nat → Int32} {a b : Nat} {x u s : Int32} (h : b ≠ a) : stB I a x u s b = I b := by
  unfold stB
  rw [aj_u_o _ _ h, aj_u_o _ _ h, aj_u_o _ _ h, aj_u_o _ _ h]
theorem stB_eq {S : List Nat} {I : Nat → Nat → Int32} {a : Nat} {x u s : Int32} (h : a ∈ S) : eqO S I (stB I a x u s) := fun j hj => stB_o (fun e => hj (e ▸ h))
theorem stB_0 {I : Nat → Nat → Int32} {a : Nat} {x u s : Int32} : stB I a x u s a 0 = x := by
  unfold stB; rw [aj_u_k _ _ _ (by decide), aj_u_k _ _ _ (by decide), aj_u_k _ _ _ (by decide), aj_u_s]
theorem stB_1 {I : Nat → Nat → Int32} {a : Nat} {x u s : Int32} : stB I a x u s a 1 = u := by
  unfold stB; rw [aj_u_k _ _ _ (by decide), aj_u_k _ _ _ (by decide), aj_u_s]
theorem stB_2 {I : Nat → Nat → Int32} {a : Nat} {x u s : Int32} : stB I a x u s a 2 = pSg x u s := by
  unfold stB; rw [aj_u_k _ _ _ (by decide), aj_u_s]
theorem stB_3 {I : Nat → Nat → Int32} {a : Nat} {x u s : Int32} : stB I a x u s a 3 = pLk x u s := by
  unfold stB; rw [aj_u_s]
def pCr (xi yi xj yj xk yk : Int32) : Int32 := (xj - xi) * (yk - yi) - (yj - yi) * (xk - xi)
def pDt (xi yi xj yj xk yk : Int32) : Int32 := (xj - xi) * (xk - xi) + (yj - yi) * (yk - yi)
def pDs (xi yi xj yj : Int32) : Int32 := (xj - xi) * (xj - xi) + (yj - yi) * (yj - yi)
def pOW (a b c d : Int32) : Int32 := pOrd (pLk a b 0) b (pSg a b 0) (pLk c d 0) d (pSg c d 0)
def tS (I : Nat → Nat → Int32) (a b c d : Int32) : Nat → Nat → Int32 := stB (stB I 179 a b 0) 195 c d 0
theorem tS_o {I : Nat → Nat → Int32} {a b c d : Int32} {i : Nat} (h : i ≠ 179) (h2 : i ≠ 195) : tS I a b c d i = I i := by
  unfold tS; rw [stB_o h2, stB_o h]
theorem tS_eq {S : List Nat} {I : Nat → Nat → Int32} {a b c d : Int32} (h : 179 ∈ S) (h2 : 195 ∈ S) : eqO S I (tS I a b c d) := fun j hj => tS_o (fun e => hj (e ▸ h)) (fun e => hj (e ▸ h2))
theorem tS_a {I : Nat → Nat → Int32} {a b c d : Int32} : tS I a b c d 179 0 = a ∧ tS I a b c d 179 1 = b ∧ tS I a b c d 179 2 = pSg a b 0 ∧ tS I a b c d 179 3 = pLk a b 0 := by
  unfold tS
  rw [stB_o (by decide)]
  exact ⟨stB_0, stB_1, stB_2, stB_3⟩
theorem tS_b {I : Nat → Nat → Int32} {a b c d : Int32} : tS I a b c d 195 0 = c ∧ tS I a b c d 195 1 = d ∧ tS I a b c d 195 2 = pSg c d 0 ∧ tS I a b c d 195 3 = pLk c d 0 := by
  unfold tS
  exact ⟨stB_0, stB_1, stB_2, stB_3⟩
theorem tS_ord {I : Nat → Nat → Int32} {a b c d : Int32} : pOrd (tS I a b c d 179 3) (tS I a b c d 179 1) (tS I a b c d 179 2) (tS I a b c d 195 3) (tS I a b c d 195 1) (tS I a b c d 195 2) = pOW a b c d := by
  obtain ⟨-, h1, h2, h3⟩ := tS_a (I := I) (a := a) (b := b) (c := c) (d := d)
  obtain ⟨-, h4, h5, h6⟩ := tS_b (I := I) (a := a) (b := b) (c := c) (d := d)
  rw [h1, h2, h3, h4, h5, h6]; rfl
/-- ROUND and HULL hold numbers of places -/
def fW (I : Nat → Nat → Int32) (n : Nat) : Prop := ∃ rc hc : Nat, rc ≤ n ∧ hc ≤ n ∧ I 18 4 = nI rc ∧ I 18 6 = nI hc ∧ (∀ j, j < rc → ∃ m, m < n ∧ I 56 j = nI m) ∧ (∀ j, j < hc → ∃ m, m < n ∧ I 72 j = nI m)
def fS : List Nat := [18, 56, 72, 179, 195]
def pCB (xc yc xj yj xk yk : Int32) : Bool := decide (pOW (xj - xc) (yj - yc) (xk - xc) (yk - yc) < 0) || (decide (pOW (xj - xc) (yj - yc) (xk - xc) (yk - yc) = 0) && decide (pDs xc yc xj yj < pDs xc yc xk yk))
theorem fW.eqS {S : List Nat} {I I' : Nat → Nat → Int32} {n : Nat} (h : fW I n) (e : eqO S I I') (h1 : 18 ∉ S) (h2 : 56 ∉ S) (h3 : 72 ∉ S) : fW I' n := by
  obtain ⟨rc, hc, a1, a2, a3, a4, a5, a6⟩ := h
  exact ⟨rc, hc, a1, a2, by rw [e 18 h1]; exact a3, by rw [e 18 h1]; exact a4, fun j hj => by rw [e 56 h2]; exact a5 j hj, fun j hj => by rw [e 72 h3]; exact a6 j hj⟩
def pNA (I : Nat → Nat → Int32) (n : Nat) (x y r : Int32) : Prop := (∃ j, j < n ∧ r = nI j ∧ I 24 j = x ∧ I 40 j = y ∧ ∀ i, i < j → ¬ (I 24 i = x ∧ I 40 i = y)) ∨ (r = -1 ∧ ∀ i, i < n → ¬ (I 24 i = x ∧ I 40 i = y))
theorem lt_snoc {P : Nat → Prop} {j : Nat} (h : ∀ i, i < j → P i) (hj : P j) : ∀ i, i < j + 1 → P i := fun i hi => by
  rcases Nat.lt_or_ge i j with z | z
  · exact h i z
  · rw [show i = j by omega]; exact hj
def sX : List Nat := [179, 195]
theorem pNA_lt {I : Nat → Nat → Int32} {n : Nat} {x y r : Int32} (h : pNA I n x y r) : True := trivial
/-- what laying leaves: only what ROUND and HULL are, and scratch -/
def fL (I I' : Nat → Nat → Int32) (n : Nat) : Prop := eqO fS I I' ∧ (∀ k, k ≠ 4 → k ≠ 6 → I' 18 k = I 18 k) ∧ fW I' n
theorem aj_if {α : Type} {p q : Prop} [Decidable p] [Decidable q] {a b : α} (h : p ↔ q) : (if p then a else b) = (if q then a else b) := by
  by_cases z : p
  · rw [if_pos z, if_pos (h.mp z)]
  · rw [if_neg z, if_neg (fun w => z (h.mpr w))]
theorem aj_u_if {α : Type} (f : Nat → Nat → α) (i n k : Nat) (x : α) : aj_u f i n x i k = if k = n then x else f i k := by
  by_cases z : k = n
  · subst z; rw [aj_u_s, if_pos rfl]
  · rw [aj_u_k _ _ _ z, if_neg z]
theorem aj_same {f : Nat → Int32} {i : Nat} {x : Int32} (h : f i = x) (k : Nat) : f k = if k = i then x else f k := by
  by_cases z : k = i
  · subst z; rw [if_pos rfl]; exact h
  · rw [if_neg z]
end
section
section AJ7
variable {G : aj_G} {cc : ByteArray} {tbl : List (Nat × Instr × Nat)} {own : String} {R0 : Room} {nL : Nat} {pc q : Nat} {lv lv' : List (Option Value)} {st st' : List Value} {I : Nat → Nat → Int32} {J : Nat → Nat → Int64} {V : Nat → Nat → Option Nat} {N : Nat → Nat} {L : List Nat} {bc bs : Nat}
theorem y_dV0 {idx maxL r1 r2 c2 s2 : Nat} {y : MethodName} {bytes : ByteArray} {c1 s1 bc' bs' : Nat} {ret : Option FieldType} {a : Nat} (C : aj_C G cc tbl own (aj_rm r2 c2 s2) nL) (k : Nat) (h : tbl[k]? = some (pc, .invokevirtual idx, 3)) (hq : pc + 3 = q) (hl : Cond.methodLink own idx y ∈ aj_TB) (cd : aj_cd y bytes maxL ret 0) (cv : aj_cv y) (ha : a % 16 < 7 ∧ aj_R (a % 16) = y.cls) (haL : a ∈ L) (hr : r1 < r2) (hm : maxL ≤ 13) (hst : (st.map fun v => v.category).sum ≤ 8) (hbc : bc = c1 + bc') (hbs : bs = s1 + bs') (hM : aj_M (gl G) y (aj_wc y bytes maxL ret) (aj_rm r1 c1 s1) [] (.ref a :: []) I J V N L (aj_kont G pc q lv st bc' bs')) : aj_X G pc lv (.ref a :: st) I J V N L bc bs := x_invV (As := []) C k h hq hl cd cv ha haL rfl (aj_hr hr hm) hst aj_f0 aj_f0 hbc hbs hM
theorem y_dS0 {idx maxL r1 r2 c2 s2 : Nat} {y : MethodName} {bytes : ByteArray} {c1 s1 bc' bs' : Nat} {ret : Option FieldType} (C : aj_C G cc tbl own (aj_rm r2 c2 s2) nL) (k : Nat) (h : tbl[k]? = some (pc, .invokestatic idx, 3)) (hq : pc + 3 = q) (hl : Cond.methodLink own idx y ∈ aj_TB) (cd : aj_cd y bytes maxL ret 0) (cv : Cond.static y ∈ aj_TB) (hr : r1 < r2) (hm : maxL ≤ 13) (hst : (st.map fun v => v.category).sum ≤ 8) (hbc : bc = c1 + bc') (hbs : bs = s1 + bs') (hM : aj_M (gl G) y (aj_wc y bytes maxL ret) (aj_rm r1 c1 s1) [] [] I J V N L (aj_kont G pc q lv st bc' bs')) : aj_X G pc lv (st) I J V N L bc bs := x_invS (As := []) C k h hq hl cd cv rfl (aj_hr hr hm) hst aj_f0 aj_f0 hbc hbs hM
theorem y_fV0 {idx maxL r1 r2 c2 s2 : Nat} {y : MethodName} {bytes : ByteArray} {c1 s1 bc' bs' : Nat} {ret : Option FieldType} {F' : List Nat} {a : Nat} (C : aj_C G cc tbl own (aj_rm r2 c2 s2) nL) (k : Nat) (h : tbl[k]? = some (pc, .invokevirtual idx, 3)) (hq : pc + 3 = q) (hl : Cond.methodLink own idx y ∈ aj_TB) (cd : aj_cd y bytes maxL ret 0) (cv : aj_cv y) (ha : a % 16 < 7 ∧ aj_R (a % 16) = y.cls) (haL : a ∈ L) (hr : r1 < r2) (hm : maxL ≤ 13) (hst : (st.map fun v => v.category).sum ≤ 8) (hbc : bc = c1 + bc') (hbs : bs = s1 + bs') (hF' : ∀ i ∈ F', i ∈ gF G) (hno : ∀ i ∈ F', aj_no i lv st) (hM : aj_M (gl G) y (aj_wc y bytes maxL ret) (aj_rm r1 c1 s1) F' (.ref a :: []) I J V N L (aj_kont G pc q lv st bc' bs')) : aj_X G pc lv (.ref a :: st) I J V N L bc bs := x_invV (As := []) C k h hq hl cd cv ha haL rfl (aj_hr hr hm) hst hF' hno hbc hbs hM
theorem y_fS0 {idx maxL r1 r2 c2 s2 : Nat} {y : MethodName} {bytes : ByteArray} {c1 s1 bc' bs' : Nat} {ret : Option FieldType} {F' : List Nat} (C : aj_C G cc tbl own (aj_rm r2 c2 s2) nL) (k : Nat) (h : tbl[k]? = some (pc, .invokestatic idx, 3)) (hq : pc + 3 = q) (hl : Cond.methodLink own idx y ∈ aj_TB) (cd : aj_cd y bytes maxL ret 0) (cv : Cond.static y ∈ aj_TB) (hr : r1 < r2) (hm : maxL ≤ 13) (hst : (st.map fun v => v.category).sum ≤ 8) (hbc : bc = c1 + bc') (hbs : bs = s1 + bs') (hF' : ∀ i ∈ F', i ∈ gF G) (hno : ∀ i ∈ F', aj_no i lv st) (hM : aj_M (gl G) y (aj_wc y bytes maxL ret) (aj_rm r1 c1 s1) F' [] I J V N L (aj_kont G pc q lv st bc' bs')) : aj_X G pc lv (st) I J V N L bc bs := x_invS (As := []) C k h hq hl cd cv rfl (aj_hr hr hm) hst hF' hno hbc hbs hM
theorem y_dV1 {idx maxL r1 r2 c2 s2 : Nat} {y : MethodName} {bytes : ByteArray} {c1 s1 bc' bs' : Nat} {ret : Option FieldType} {a : Nat} {p0 : Value} (C : aj_C G cc tbl own (aj_rm r2 c2 s2) nL) (k : Nat) (h : tbl[k]? = some (pc, .invokevirtual idx, 3)) (hq : pc + 3 = q) (hl : Cond.methodLink own idx y ∈ aj_TB) (cd : aj_cd y bytes maxL ret 1) (cv : aj_cv y) (ha : a % 16 < 7 ∧ aj_R (a % 16) = y.cls) (haL : a ∈ L) (hr : r1 < r2) (hm : maxL ≤ 13) (hst : (st.map fun v => v.category).sum ≤ 8) (hbc : bc = c1 + bc') (hbs : bs = s1 + bs') (hM : aj_M (gl G) y (aj_wc y bytes maxL ret) (aj_rm r1 c1 s1) [] (.ref a :: [p0]) I J V N L (aj_kont G pc q lv st bc' bs')) : aj_X G pc lv (p0 :: .ref a :: st) I J V N L bc bs := x_invV (As := [p0]) C k h hq hl cd cv ha haL rfl (aj_hr hr hm) hst aj_f0 aj_f0 hbc hbs hM
theorem y_dS1 {idx maxL r1 r2 c2 s2 : Nat} {y : MethodName} {bytes : ByteArray} {c1 s1 bc' bs' : Nat} {ret : Option FieldType} {p0 : Value} (C : aj_C G cc tbl own (aj_rm r2 c2 s2) nL) (k : Nat) (h : tbl[k]? = some (pc, .invokestatic idx, 3)) (hq : pc + 3 = q) (hl : Cond.methodLink own idx y ∈ aj_TB) (cd : aj_cd y bytes maxL ret 1) (cv : Cond.static y ∈ aj_TB) (hr : r1 < r2) (hm : maxL ≤ 13) (hst : (st.map fun v => v.category).sum ≤ 8) (hbc : bc = c1 + bc') (hbs : bs = s1 + bs') (hM : aj_M (gl G) y (aj_wc y bytes maxL ret) (aj_rm r1 c1 s1) [] [p0] I J V N L (aj_kont G pc q lv st bc' bs')) : aj_X G pc lv (p0 :: st) I J V N L bc bs := x_invS (As := [p0]) C k h hq hl cd cv rfl (aj_hr hr hm) hst aj_f0 aj_f0 hbc hbs hM
theorem y_fV1 {idx maxL r1 r2 c2 s2 : Nat} {y : MethodName} {bytes : ByteArray} {c1 s1 bc' bs' : Nat} {ret : Option FieldType} {F' : List Nat} {a : Nat} {p0 : Value} (C : aj_C G cc tbl own (aj_rm r2 c2 s2) nL) (k : Nat) (h : tbl[k]? = some (pc, .invokevirtual idx, 3)) (hq : pc + 3 = q) (hl : Cond.methodLink own idx y ∈ aj_TB) (cd : aj_cd y bytes maxL ret 1) (cv : aj_cv y) (ha : a % 16 < 7 ∧ aj_R (a % 16) = y.cls) (haL : a ∈ L) (hr : r1 < r2) (hm : maxL ≤ 13) (hst : (st.map fun v => v.category).sum ≤ 8) (hbc : bc = c1 + bc') (hbs : bs = s1 + bs') (hF' : ∀ i ∈ F', i ∈ gF G) (hno : ∀ i ∈ F', aj_no i lv st) (hM : aj_M (gl G) y (aj_wc y bytes maxL ret) (aj_rm r1 c1 s1) F' (.ref a :: [p0]) I J V N L (aj_kont G pc q lv st bc' bs')) : aj_X G pc lv (p0 :: .ref a :: st) I J V N L bc bs := x_invV (As := [p0]) C k h hq hl cd cv ha haL rfl (aj_hr hr hm) hst hF' hno hbc hbs hM
theorem y_fS1 {idx maxL r1 r2 c2 s2 : Nat} {y : MethodName} {bytes : ByteArray} {c1 s1 bc' bs' : Nat} {ret : Option FieldType} {F' : List Nat} {p0 : Value} (C : aj_C G cc tbl own (aj_rm r2 c2 s2) nL) (k : Nat) (h : tbl[k]? = some (pc, .invokestatic idx, 3)) (hq : pc + 3 = q) (hl : Cond.methodLink own idx y ∈ aj_TB) (cd : aj_cd y bytes maxL ret 1) (cv : Cond.static y ∈ aj_TB) (hr : r1 < r2) (hm : maxL ≤ 13) (hst : (st.map fun v => v.category).sum ≤ 8) (hbc : bc = c1 + bc') (hbs : bs = s1 + bs') (hF' : ∀ i ∈ F', i ∈ gF G) (hno : ∀ i ∈ F', aj_no i lv st) (hM : aj_M (gl G) y (aj_wc y bytes maxL ret) (aj_rm r1 c1 s1) F' [p0] I J V N L (aj_kont G pc q lv st bc' bs')) : aj_X G pc lv (p0 :: st) I J V N L bc bs := x_invS (As := [p0]) C k h hq hl cd cv rfl (aj_hr hr hm) hst hF' hno hbc hbs hM
theorem y_dV2 {idx maxL r1 r2 c2 s2 : Nat} {y : MethodName} {bytes : ByteArray} {c1 s1 bc' bs' : Nat} {ret : Option FieldType} {a : Nat} {p0 p1 : Value} (C : aj_C G cc tbl own (aj_rm r2 c2 s2) nL) (k : Nat) (h : tbl[k]? = some (pc, .invokevirtual idx, 3)) (hq : pc + 3 = q) (hl : Cond.methodLink own idx y ∈ aj_TB) (cd : aj_cd y bytes maxL ret 2) (cv : aj_cv y) (ha : a % 16 < 7 ∧ aj_R (a % 16) = y.cls) (haL : a ∈ L) (hr : r1 < r2) (hm : maxL ≤ 13) (hst : (st.map fun v => v.category).sum ≤ 8) (hbc : bc = c1 + bc') (hbs : bs = s1 + bs') (hM : aj_M (gl G) y (aj_wc y bytes maxL ret) (aj_rm r1 c1 s1) [] (.ref a :: [p0, p1]) I J V N L (aj_kont G pc q lv st bc' bs')) : aj_X G pc lv (p1 :: p0 :: .ref a :: st) I J V N L bc bs := x_invV (As := [p0, p1]) C k h hq hl cd cv ha haL rfl (aj_hr hr hm) hst aj_f0 aj_f0 hbc hbs hM
theorem y_dS2 {idx maxL r1 r2 c2 s2 : Nat} {y : MethodName} {bytes : ByteArray} {c1 s1 bc' bs' : Nat} {ret : Option FieldType} {p0 p1 : Value} (C : aj_C G cc tbl own (aj_rm r2 c2 s2) nL) (k : Nat) (h : tbl[k]? = some (pc, .invokestatic idx, 3)) (hq : pc + 3 = q) (hl : Cond.methodLink own idx y ∈ aj_TB) (cd : aj_cd y bytes maxL ret 2) (cv : Cond.static y ∈ aj_TB) (hr : r1 < r2) (hm : maxL ≤ 13) (hst : (st.map fun v => v.category).sum ≤ 8) (hbc : bc = c1 + bc') (hbs : bs = s1 + bs') (hM : aj_M (gl G) y (aj_wc y bytes maxL ret) (aj_rm r1 c1 s1) [] [p0, p1] I J V N L (aj_kont G pc q lv st bc' bs')) : aj_X G pc lv (p1 :: p0 :: st) I J V N L bc bs := x_invS (As := [p0, p1]) C k h hq hl cd cv rfl (aj_hr hr hm) hst aj_f0 aj_f0 hbc hbs hM
theorem y_fV2 {idx maxL r1 r2 c2 s2 : Nat} {y : MethodName} {bytes : ByteArray} {c1 s1 bc' bs' : Nat} {ret : Option FieldType} {F' : List Nat} {a : Nat} {p0 p1 : Value} (C : aj_C G cc tbl own (aj_rm r2 c2 s2) nL) (k : Nat) (h : tbl[k]? = some (pc, .invokevirtual idx, 3)) (hq : pc + 3 = q) (hl : Cond.methodLink own idx y ∈ aj_TB) (cd : aj_cd y bytes maxL ret 2) (cv : aj_cv y) (ha : a % 16 < 7 ∧ aj_R (a % 16) = y.cls) (haL : a ∈ L) (hr : r1 < r2) (hm : maxL ≤ 13) (hst : (st.map fun v => v.category).sum ≤ 8) (hbc : bc = c1 + bc') (hbs : bs = s1 + bs') (hF' : ∀ i ∈ F', i ∈ gF G) (hno : ∀ i ∈ F', aj_no i lv st) (hM : aj_M (gl G) y (aj_wc y bytes maxL ret) (aj_rm r1 c1 s1) F' (.ref a :: [p0, p1]) I J V N L (aj_kont G pc q lv st bc' bs')) : aj_X G pc lv (p1 :: p0 :: .ref a :: st) I J V N L bc bs := x_invV (As := [p0, p1]) C k h hq hl cd cv ha haL rfl (aj_hr hr hm) hst hF' hno hbc hbs hM
theorem y_fS2 {idx maxL r1 r2 c2 s2 : Nat} {y : MethodName} {bytes : ByteArray} {c1 s1 bc' bs' : Nat} {ret : Option FieldType} {F' : List Nat} {p0 p1 : Value} (C : aj_C G cc tbl own (aj_rm r2 c2 s2) nL) (k : Nat) (h : tbl[k]? = some (pc, .invokestatic idx, 3)) (hq : pc + 3 = q) (hl : Cond.methodLink own idx y ∈ aj_TB) (cd : aj_cd y bytes maxL ret 2) (cv : Cond.static y ∈ aj_TB) (hr : r1 < r2) (hm : maxL ≤ 13) (hst : (st.map fun v => v.category).sum ≤ 8) (hbc : bc = c1 + bc') (hbs : bs = s1 + bs') (hF' : ∀ i ∈ F', i ∈ gF G) (hno : ∀ i ∈ F', aj_no i lv st) (hM : aj_M (gl G) y (aj_wc y bytes maxL ret) (aj_rm r1 c1 s1) F' [p0, p1] I J V N L (aj_kont G pc q lv st bc' bs')) : aj_X G pc lv (p1 :: p0 :: st) I J V N L bc bs := x_invS (As := [p0, p1]) C k h hq hl cd cv rfl (aj_hr hr hm) hst hF' hno hbc hbs hM
theorem y_dV3 {idx maxL r1 r2 c2 s2 : Nat} {y : MethodName} {bytes : ByteArray} {c1 s1 bc' bs' : Nat} {ret : Option FieldType} {a : Nat} {p0 p1 p2 : Value} (C : aj_C G cc tbl own (aj_rm r2 c2 s2) nL) (k : Nat) (h : tbl[k]? = some (pc, .invokevirtual idx, 3)) (hq : pc + 3 = q) (hl : Cond.methodLink own idx y ∈ aj_TB) (cd : aj_cd y bytes maxL ret 3) (cv : aj_cv y) (ha : a % 16 < 7 ∧ aj_R (a % 16) = y.cls) (haL : a ∈ L) (hr : r1 < r2) (hm : maxL ≤ 13) (hst : (st.map fun v => v.category).sum ≤ 8) (hbc : bc = c1 + bc') (hbs : bs = s1 + bs') (hM : aj_M (gl G) y (aj_wc y bytes maxL ret) (aj_rm r1 c1 s1) [] (.ref a :: [p0, p1, p2]) I J V N L (aj_kont G pc q lv st bc' bs')) : aj_X G pc lv (p2 :: p1 :: p0 :: .ref a :: st) I J V N L bc bs := x_invV (As := [p0, p1, p2]) C k h hq hl cd cv ha haL rfl (aj_hr hr hm) hst aj_f0 aj_f0 hbc hbs hM
theorem y_dS3 {idx maxL r1 r2 c2 s2 : Nat} {y : MethodName} {bytes : ByteArray} {c1 s1 bc' bs' : Nat} {ret : Option FieldType} {p0 p1 p2 : Value} (C : aj_C G cc tbl own (aj_rm r2 c2 s2) nL) (k : Nat) (h : tbl[k]? = some (pc, .invokestatic idx, 3)) (hq : pc + 3 = q) (hl : Cond.methodLink own idx y ∈ aj_TB) (cd : aj_cd y bytes maxL ret 3) (cv : Cond.static y ∈ aj_TB) (hr : r1 < r2) (hm : maxL ≤ 13) (hst : (st.map fun v => v.category).sum ≤ 8) (hbc : bc = c1 + bc') (hbs : bs = s1 + bs') (hM : aj_M (gl G) y (aj_wc y bytes maxL ret) (aj_rm r1 c1 s1) [] [p0, p1, p2] I J V N L (aj_kont G pc q lv st bc' bs')) : aj_X G pc lv (p2 :: p1 :: p0 :: st) I J V N L bc bs := x_invS (As := [p0, p1, p2]) C k h hq hl cd cv rfl (aj_hr hr hm) hst aj_f0 aj_f0 hbc hbs hM
theorem y_fV3 {idx maxL r1 r2 c2 s2 : Nat} {y : MethodName} {bytes : ByteArray} {c1 s1 bc' bs' : Nat} {ret : Option FieldType} {F' : List Nat} {a : Nat} {p0 p1 p2 : Value} (C : aj_C G cc tbl own (aj_rm r2 c2 s2) nL) (k : Nat) (h : tbl[k]? = some (pc, .invokevirtual idx, 3)) (hq : pc + 3 = q) (hl : Cond.methodLink own idx y ∈ aj_TB) (cd : aj_cd y bytes maxL ret 3) (cv : aj_cv y) (ha : a % 16 < 7 ∧ aj_R (a % 16) = y.cls) (haL : a ∈ L) (hr : r1 < r2) (hm : maxL ≤ 13) (hst : (st.map fun v => v.category).sum ≤ 8) (hbc : bc = c1 + bc') (hbs : bs = s1 + bs') (hF' : ∀ i ∈ F', i ∈ gF G) (hno : ∀ i ∈ F', aj_no i lv st) (hM : aj_M (gl G) y (aj_wc y bytes maxL ret) (aj_rm r1 c1 s1) F' (.ref a :: [p0, p1, p2]) I J V N L (aj_kont G pc q lv st bc' bs')) : aj_X G pc lv (p2 :: p1 :: p0 :: .ref a :: st) I J V N L bc bs := x_invV (As := [p0, p1, p2]) C k h hq hl cd cv ha haL rfl (aj_hr hr hm) hst hF' hno hbc hbs hM
theorem y_fS3 {idx maxL r1 r2 c2 s2 : Nat} {y : MethodName} {bytes : ByteArray} {c1 s1 bc' bs' : Nat} {ret : Option FieldType} {F' : List Nat} {p0 p1 p2 : Value} (C : aj_C G cc tbl own (aj_rm r2 c2 s2) nL) (k : Nat) (h : tbl[k]? = some (pc, .invokestatic idx, 3)) (hq : pc + 3 = q) (hl : Cond.methodLink own idx y ∈ aj_TB) (cd : aj_cd y bytes maxL ret 3) (cv : Cond.static y ∈ aj_TB) (hr : r1 < r2) (hm : maxL ≤ 13) (hst : (st.map fun v => v.category).sum ≤ 8) (hbc : bc = c1 + bc') (hbs : bs = s1 + bs') (hF' : ∀ i ∈ F', i ∈ gF G) (hno : ∀ i ∈ F', aj_no i lv st) (hM : aj_M (gl G) y (aj_wc y bytes maxL ret) (aj_rm r1 c1 s1) F' [p0, p1, p2] I J V N L (aj_kont G pc q lv st bc' bs')) : aj_X G pc lv (p2 :: p1 :: p0 :: st) I J V N L bc bs := x_invS (As := [p0, p1, p2]) C k h hq hl cd cv rfl (aj_hr hr hm) hst hF' hno hbc hbs hM
theorem y_dV4 {idx maxL r1 r2 c2 s2 : Nat} {y : MethodName} {bytes : ByteArray} {c1 s1 bc' bs' : Nat} {ret : Option FieldType} {a : Nat} {p0 p1 p2 p3 : Value} (C : aj_C G cc tbl own (aj_rm r2 c2 s2) nL) (k : Nat) (h : tbl[k]? = some (pc, .invokevirtual idx, 3)) (hq : pc + 3 = q) (hl : Cond.methodLink own idx y ∈ aj_TB) (cd : aj_cd y bytes maxL ret 4) (cv : aj_cv y) (ha : a % 16 < 7 ∧ aj_R (a % 16) = y.cls) (haL : a ∈ L) (hr : r1 < r2) (hm : maxL ≤ 13) (hst : (st.map fun v => v.category).sum ≤ 8) (hbc : bc = c1 + bc') (hbs : bs = s1 + bs') (hM : aj_M (gl G) y (aj_wc y bytes maxL ret) (aj_rm r1 c1 s1) [] (.ref a :: [p0, p1, p2, p3]) I J V N L (aj_kont G pc q lv st bc' bs')) : aj_X G pc lv (p3 :: p2 :: p1 :: p0 :: .ref a :: st) I J V N L bc bs := x_invV (As := [p0, p1, p2, p3]) C k h hq hl cd cv ha haL rfl (aj_hr hr hm) hst aj_f0 aj_f0 hbc hbs hM
theorem y_dS4 {idx maxL r1 r2 c2 s2 : Nat} {y : MethodName} {bytes : ByteArray} {c1 s1 bc' bs' : Nat} {ret : Option FieldType} {p0 p1 p2 p3 : Value} (C : aj_C G cc tbl own (aj_rm r2 c2 s2) nL) (k : Nat) (h : tbl[k]? = some (pc, .invokestatic idx, 3)) (hq : pc + 3 = q) (hl : Cond.methodLink own idx y ∈ aj_TB) (cd : aj_cd y bytes maxL ret 4) (cv : Cond.static y ∈ aj_TB) (hr : r1 < r2) (hm : maxL ≤ 13) (hst : (st.map fun v => v.category).sum ≤ 8) (hbc : bc = c1 + bc') (hbs : bs = s1 + bs') (hM : aj_M (gl G) y (aj_wc y bytes maxL ret) (aj_rm r1 c1 s1) [] [p0, p1, p2, p3] I J V N L (aj_kont G pc q lv st bc' bs')) : aj_X G pc lv (p3 :: p2 :: p1 :: p0 :: st) I J V N L bc bs := x_invS (As := [p0, p1, p2, p3]) C k h hq hl cd cv rfl (aj_hr hr hm) hst aj_f0 aj_f0 hbc hbs hM
theorem y_fV4 {idx maxL r1 r2 c2 s2 : Nat} {y : MethodName} {bytes : ByteArray} {c1 s1 bc' bs' : Nat} {ret : Option FieldType} {F' : List Nat} {a : Nat} {p0 p1 p2 p3 : Value} (C : aj_C G cc tbl own (aj_rm r2 c2 s2) nL) (k : Nat) (h : tbl[k]? = some (pc, .invokevirtual idx, 3)) (hq : pc + 3 = q) (hl : Cond.methodLink own idx y ∈ aj_TB) (cd : aj_cd y bytes maxL ret 4) (cv : aj_cv y) (ha : a % 16 < 7 ∧ aj_R (a % 16) = y.cls) (haL : a ∈ L) (hr : r1 < r2) (hm : maxL ≤ 13) (hst : (st.map fun v => v.category).sum ≤ 8) (hbc : bc = c1 + bc') (hbs : bs = s1 + bs') (hF' : ∀ i ∈ F', i ∈ gF G) (hno : ∀ i ∈ F', aj_no i lv st) (hM : aj_M (gl G) y (aj_wc y bytes maxL ret) (aj_rm r1 c1 s1) F' (.ref a :: [p0, p1, p2, p3]) I J V N L (aj_kont G pc q lv st bc' bs')) : aj_X G pc lv (p3 :: p2 :: p1 :: p0 :: .ref a :: st) I J V N L bc bs := x_invV (As := [p0, p1, p2, p3]) C k h hq hl cd cv ha haL rfl (aj_hr hr hm) hst hF' hno hbc hbs hM
theorem y_fS4 {idx maxL r1 r2 c2 s2 : Nat} {y : MethodName} {bytes : ByteArray} {c1 s1 bc' bs' : Nat} {ret : Option FieldType} {F' : List Nat} {p0 p1 p2 p3 : Value} (C : aj_C G cc tbl own (aj_rm r2 c2 s2) nL) (k : Nat) (h : tbl[k]? = some (pc, .invokestatic idx, 3)) (hq : pc + 3 = q) (hl : Cond.methodLink own idx y ∈ aj_TB) (cd : aj_cd y bytes maxL ret 4) (cv : Cond.static y ∈ aj_TB) (hr : r1 < r2) (hm : maxL ≤ 13) (hst : (st.map fun v => v.category).sum ≤ 8) (hbc : bc = c1 + bc') (hbs : bs = s1 + bs') (hF' : ∀ i ∈ F', i ∈ gF G) (hno : ∀ i ∈ F', aj_no i lv st) (hM : aj_M (gl G) y (aj_wc y bytes maxL ret) (aj_rm r1 c1 s1) F' [p0, p1, p2, p3] I J V N L (aj_kont G pc q lv st bc' bs')) : aj_X G pc lv (p3 :: p2 :: p1 :: p0 :: st) I J V N L bc bs := x_invS (As := [p0, p1, p2, p3]) C k h hq hl cd cv rfl (aj_hr hr hm) hst hF' hno hbc hbs hM
theorem y_dV5 {idx maxL r1 r2 c2 s2 : Nat} {y : MethodName} {bytes : ByteArray} {c1 s1 bc' bs' : Nat} {ret : Option FieldType} {a : Nat} {p0 p1 p2 p3 p4 : Value} (C : aj_C G cc tbl own (aj_rm r2 c2 s2) nL) (k : Nat) (h : tbl[k]? = some (pc, .invokevirtual idx, 3)) (hq : pc + 3 = q) (hl : Cond.methodLink own idx y ∈ aj_TB) (cd : aj_cd y bytes maxL ret 5) (cv : aj_cv y) (ha : a % 16 < 7 ∧ aj_R (a % 16) = y.cls) (haL : a ∈ L) (hr : r1 < r2) (hm : maxL ≤ 13) (hst : (st.map fun v => v.category).sum ≤ 8) (hbc : bc = c1 + bc') (hbs : bs = s1 + bs') (hM : aj_M (gl G) y (aj_wc y bytes maxL ret) (aj_rm r1 c1 s1) [] (.ref a :: [p0, p1, p2, p3, p4]) I J V N L (aj_kont G pc q lv st bc' bs')) : aj_X G pc lv (p4 :: p3 :: p2 :: p1 :: p0 :: .ref a :: st) I J V N L bc bs := x_invV (As := [p0, p1, p2, p3, p4]) C k h hq hl cd cv ha haL rfl (aj_hr hr hm) hst aj_f0 aj_f0 hbc hbs hM
theorem y_dS5 {idx maxL r1 r2 c2 s2 : Nat} {y : MethodName} {bytes : ByteArray} {c1 s1 bc' bs' : Nat} {ret : Option FieldType} {p0 p1 p2 p3 p4 : Value} (C : aj_C G cc tbl own (aj_rm r2 c2 s2) nL) (k : Nat) (h : tbl[k]? = some (pc, .invokestatic idx, 3)) (hq : pc + 3 = q) (hl : Cond.methodLink own idx y ∈ aj_TB) (cd : aj_cd y bytes maxL ret 5) (cv : Cond.static y ∈ aj_TB) (hr : r1 < r2) (hm : maxL ≤ 13) (hst : (st.map fun v => v.category).sum ≤ 8) (hbc : bc = c1 + bc') (hbs : bs = s1 + bs') (hM : aj_M (gl G) y (aj_wc y bytes maxL ret) (aj_rm r1 c1 s1) [] [p0, p1, p2, p3, p4] I J V N L (aj_kont G pc q lv st bc' bs')) : aj_X G pc lv (p4 :: p3 :: p2 :: p1 :: p0 :: st) I J V N L bc bs := x_invS (As := [p0, p1, p2, p3, p4]) C k h hq hl cd cv rfl (aj_hr hr hm) hst aj_f0 aj_f0 hbc hbs hM
theorem y_fV5 {idx maxL r1 r2 c2 s2 : Nat} {y : MethodName} {bytes : ByteArray} {c1 s1 bc' bs' : Nat} {ret : Option FieldType} {F' : List Nat} {a : Nat} {p0 p1 p2 p3 p4 : Value} (C : aj_C G cc tbl own (aj_rm r2 c2 s2) nL) (k : Nat) (h : tbl[k]? = some (pc, .invokevirtual idx, 3)) (hq : pc + 3 = q) (hl : Cond.methodLink own idx y ∈ aj_TB) (cd : aj_cd y bytes maxL ret 5) (cv : aj_cv y) (ha : a % 16 < 7 ∧ aj_R (a % 16) = y.cls) (haL : a ∈ L) (hr : r1 < r2) (hm : maxL ≤ 13) (hst : (st.map fun v => v.category).sum ≤ 8) (hbc : bc = c1 + bc') (hbs : bs = s1 + bs') (hF' : ∀ i ∈ F', i ∈ gF G) (hno : ∀ i ∈ F', aj_no i lv st) (hM : aj_M (gl G) y (aj_wc y bytes maxL ret) (aj_rm r1 c1 s1) F' (.ref a :: [p0, p1, p2, p3, p4]) I J V N L (aj_kont G pc q lv st bc' bs')) : aj_X G pc lv (p4 :: p3 :: p2 :: p1 :: p0 :: .ref a :: st) I J V N L bc bs := x_invV (As := [p0, p1, p2, p3, p4]) C k h hq hl cd cv ha haL rfl (aj_hr hr hm) hst hF' hno hbc hbs hM
theorem y_fS5 {idx maxL r1 r2 c2 s2 : Nat} {y : MethodName} {bytes : ByteArray} {c1 s1 bc' bs' : Nat} {ret : Option FieldType} {F' : List Nat} {p0 p1 p2 p3 p4 : Value} (C : aj_C G cc tbl own (aj_rm r2 c2 s2) nL) (k : Nat) (h : tbl[k]? = some (pc, .invokestatic idx, 3)) (hq : pc + 3 = q) (hl : Cond.methodLink own idx y ∈ aj_TB) (cd : aj_cd y bytes maxL ret 5) (cv : Cond.static y ∈ aj_TB) (hr : r1 < r2) (hm : maxL ≤ 13) (hst : (st.map fun v => v.category).sum ≤ 8) (hbc : bc = c1 + bc') (hbs : bs = s1 + bs') (hF' : ∀ i ∈ F', i ∈ gF G) (hno : ∀ i ∈ F', aj_no i lv st) (hM : aj_M (gl G) y (aj_wc y bytes maxL ret) (aj_rm r1 c1 s1) F' [p0, p1, p2, p3, p4] I J V N L (aj_kont G pc q lv st bc' bs')) : aj_X G pc lv (p4 :: p3 :: p2 :: p1 :: p0 :: st) I J V N L bc bs := x_invS (As := [p0, p1, p2, p3, p4]) C k h hq hl cd cv rfl (aj_hr hr hm) hst hF' hno hbc hbs hM
end AJ7
end
section
def vc (V : Nat → Nat → Option Nat) (j : Nat) : Nat := (V 27 j).getD 0
theorem cs3 : ∀ c ∈ aj_CS, c % 16 = 3 := by decide
theorem csB : ∀ c ∈ aj_CS, c ∈ aj_BL := by decide
section VC
variable {V : Nat → Nat → Option Nat} {N : Nat → Nat} {L : List Nat} {j : Nat}
theorem vcV (h : bV V N L) (hj : j < 8) : V 27 j = some (vc V j) := by
  obtain ⟨c, h1, h2⟩ := h.2.2.2.2.2 j hj
  unfold vc; rw [h1]; rfl
theorem vcM (h : bV V N L) (hj : j < 8) : vc V j ∈ aj_CS := by
  obtain ⟨c, h1, h2⟩ := h.2.2.2.2.2 j hj
  unfold vc; rw [h1]; exact h2
theorem vc3 (h : bV V N L) (hj : j < 8) : vc V j % 16 = 3 := cs3 _ (vcM h hj)
theorem vcL (h : bV V N L) (hj : j < 8) : vc V j ∈ L := bL h _ (csB _ (vcM h hj))
theorem vcR (h : bV V N L) (hj : j < 8) : vc V j % 16 < 7 ∧ aj_R (vc V j % 16) = RX2 := by
  rw [vc3 h hj]; exact ⟨by decide, rfl⟩
end VC
def mvC (I : Nat → Nat → Int32) (c : Nat) : Int32 := pOrd (I 147 3) (I 147 1) (I 147 2) (I c 3) (I c 1) (I c 2)
def stC (I : Nat → Nat → Int32) (c : Nat) : Nat → Nat → Int32 := aj_u (stB I c (I 147 0) (I 147 1) (I 147 2)) 20 6 (I 20 6 + 1)
def stR (I : Nat → Nat → Int32) : Nat → Nat → Int32 := aj_u I 20 8 (I 20 8 + 1)
def pCoo (x : Int32) : Bool := !decide (x < -127) && !decide (127 < x)
/-- the class's part -/
def cS : List Nat := [20, 18, 24, 40, 56, 72, 147, 163, 179, 195, 19, 35, 51, 67, 83, 99, 115, 131]
def cI (I : Nat → Nat → Int32) (n : Nat) : Prop := n ≤ 12 ∧ I 18 2 = nI n ∧ fW I n
theorem cI.eqS {S : List Nat} {I I' : Nat → Nat → Int32} {n : Nat} (h : cI I n) (e : eqO S I I') (h1 : 18 ∉ S) (h2 : 56 ∉ S) (h3 : 72 ∉ S) : cI I' n := ⟨h.1, by rw [e 18 h1]; exact h.2.1, h.2.2.eqS e h1 h2 h3⟩
def cR (I I1 : Nat → Nat → Int32) : Prop := eqO cS I I1 ∧ (∃ n, cI I1 n) ∧ I1 20 9 = I 20 9
theorem bV.v {V V1 : Nat → Nat → Option Nat} {N : Nat → Nat} {L : List Nat} (h : bV V N L) (hv : ∀ i, i ≠ 27 → i ≠ 43 → V1 i = V i) (hc : ∀ j, j < 8 → ∃ c, V1 27 j = some c ∧ c ∈ aj_CS) : bV V1 N L := by
  obtain ⟨h1, h2, h3, h4, h5, -⟩ := h
  refine ⟨h1, ?_, ?_, ?_, h5, hc⟩
  · rw [hv 20 (by decide) (by decide)]; exact h2
  · rw [hv 18 (by decide) (by decide)]; exact h3
  · rw [hv 22 (by decide) (by decide)]; exact h4
def fA (I I1 : Nat → Nat → Int32) (m : Nat) (fx fy : Nat → Int32) : Prop := eqO [20, 18, 24, 40, 56, 72, 179, 195] I I1 ∧ (∀ k, k ≠ 7 → I1 20 k = I 20 k) ∧ I1 20 7 = I 20 7 + 1 ∧ I1 18 2 = nI m ∧ fW I1 m ∧ (∀ k, I1 24 k = fx k) ∧ (∀ k, I1 40 k = fy k)
theorem fA.of {I I1 : Nat → Nat → Int32} {m : Nat} {fx fy : Nat → Int32} (h : eqO [18, 24, 40, 56, 72, 179, 195] (aj_u I 20 7 (I 20 7 + 1)) I1) (h2 : I1 18 2 = nI m) (h3 : fW I1 m) (h4 : ∀ k, I1 24 k = fx k) (h5 : ∀ k, I1 40 k = fy k) : fA I I1 m fx fy :=
  ⟨eqO.tr (eqO.u (by decide)) (h.mono (by decide)), fun k hk => by rw [h 20 (by decide), aj_u_k _ _ _ hk], by rw [h 20 (by decide), aj_u_s], h2, h3, h4, h5⟩
theorem fW.u20 {I : Nat → Nat → Int32} {n k : Nat} {v : Int32} (h : fW I n) : fW (aj_u I 20 k v) n := h.eqS (S := [20]) (eqO.u (by decide)) (by decide) (by decide) (by decide)
theorem nI12 {n : Nat} (h : n ≤ 12) : nI n = 12 ↔ n = 12 := by
  rw [show (12 : Int32) = nI 12 from rfl]; exact nI_eq (by omega) (by decide)
-- CONSTRUCTORS
section AJ8
variable {G : aj_G} {cc : ByteArray} {tbl : List (Nat × Instr × Nat)} {own : String} {R0 : Room} {nL : Nat} {pc q : Nat} {lv lv' : List (Option Value)} {st st' : List Value} {I : Nat → Nat → Int32} {J : Nat → Nat → Int64} {V : Nat → Nat → Option Nat} {N : Nat → Nat} {L : List Nat} {bc bs : Nat}
theorem y_jN0 {idx maxL r1 r2 c2 s2 : Nat} {y : MethodName} {bytes : ByteArray} {c1 s1 bc' bs' : Nat} {F' : List Nat} {a : Nat} {host : String} (C : aj_C G cc tbl own (aj_rm r2 c2 s2) nL) (k : Nat) (h : tbl[k]? = some (pc, .invokespecial idx, 3)) (hq : pc + 3 = q) (hl : (own, idx, y, host) ∈ aj_NM) (cd : aj_cd y bytes maxL none 0) (cv : Cond.instanceMethod y ∈ aj_TB) (hy : y.name = "<init>") (hr : r1 < r2) (hm : maxL ≤ 13) (hst : (st.map fun v => v.category).sum ≤ 8) (hbc : bc = c1 + bc') (hbs : bs = s1 + bs') (hF' : ∀ i ∈ F', i ∈ gF G) (hno : ∀ i ∈ F', aj_no i lv st) (hM : aj_M (gl G) y (aj_wc y bytes maxL none) (aj_rm r1 c1 s1) F' [.ref a] I J V N L (aj_kont G pc q lv st bc' bs')) : aj_X G pc lv (.ref a :: st) I J V N L bc bs := x_invIN (As := []) C k h hq hl cd cv hy rfl (aj_hr hr hm) hst hF' hno hbc hbs hM
theorem y_jI0 {idx maxL r1 r2 c2 s2 : Nat} {y : MethodName} {bytes : ByteArray} {c1 s1 bc' bs' : Nat} {F' : List Nat} {a : Nat} (C : aj_C G cc tbl own (aj_rm r2 c2 s2) nL) (k : Nat) (h : tbl[k]? = some (pc, .invokespecial idx, 3)) (hq : pc + 3 = q) (hl : Cond.methodLink own idx y ∈ aj_TB) (cd : aj_cd y bytes maxL none 0) (cv : Cond.instanceMethod y ∈ aj_TB) (hy : y.name = "<init>") (hr : r1 < r2) (hm : maxL ≤ 13) (hst : (st.map fun v => v.category).sum ≤ 8) (hbc : bc = c1 + bc') (hbs : bs = s1 + bs') (hF' : ∀ i ∈ F', i ∈ gF G) (hno : ∀ i ∈ F', aj_no i lv st) (hM : aj_M (gl G) y (aj_wc y bytes maxL none) (aj_rm r1 c1 s1) F' [.ref a] I J V N L (aj_kont G pc q lv st bc' bs')) : aj_X G pc lv (.ref a :: st) I J V N L bc bs := x_invI (As := []) C k h hq hl cd cv hy rfl (aj_hr hr hm) hst hF' hno hbc hbs hM
theorem y_cS6 {idx maxL r1 r2 c2 s2 : Nat} {y : MethodName} {bytes : ByteArray} {ret : Option FieldType} {p0 p1 p2 p3 p4 p5 : Value} (C : aj_C G cc tbl own (aj_rm r2 c2 s2) nL) (k : Nat) (h : tbl[k]? = some (pc, .invokestatic idx, 3)) (hq : pc + 3 = q) (hl : Cond.methodLink own idx y ∈ aj_TB) (cd : aj_cd y bytes maxL ret 6) (cv : Cond.static y ∈ aj_TB) (hr : r1 < r2) (hm : maxL ≤ 13) (hst : (st.map fun v => v.category).sum ≤ 8) (hM : aj_M (gl G) y (aj_wc y bytes maxL ret) (aj_rm r1 0 0) [] [p0, p1, p2, p3, p4, p5] I J V N L (aj_kont G pc q lv st bc bs)) : aj_X G pc lv (p5 :: p4 :: p3 :: p2 :: p1 :: p0 :: st) I J V N L bc bs := x_invS (As := [p0, p1, p2, p3, p4, p5]) C k h hq hl cd cv rfl (aj_hr hr hm) hst aj_f0 aj_f0 (Nat.zero_add _).symm (Nat.zero_add _).symm hM
end AJ8
/-- all that is referred to lies in M -/
def vM (V : Nat → Nat → Option Nat) (M : List Nat) : Prop := ∀ i j b, V i j = some b → b ∈ M
theorem vM.u {V : Nat → Nat → Option Nat} {M : List Nat} {i k b : Nat} (h : vM V M) : vM (aj_u V i k (some b)) (b :: M) := by
  intro x y c e
  unfold aj_u at e
  split at e
  · cases e; exact List.mem_cons_self
  · exact List.mem_cons_of_mem _ (h x y c e)
theorem vM.z {V : Nat → Nat → Option Nat} {M : List Nat} {a : Nat} (h : vM V M) : vM (aj_z V a none) M := by
  intro x y c e
  unfold aj_z at e
  split at e
  · cases e
  · exact h x y c e
theorem vM.no {V : Nat → Nat → Option Nat} {M L : List Nat} {a : Nat} (h : vM V M) (ha : a ∉ M) : ∀ i ∈ L, ∀ j, V i j ≠ some a := fun i _ j e => ha (h i j a e)
theorem vM.mono {V : Nat → Nat → Option Nat} {M M' : List Nat} (h : vM V M) (hs : ∀ i ∈ M, i ∈ M') : vM V M' := fun i j b e => hs b (h i j b e)
def aj_nv (a : Nat) (v : Value) : Bool := match v with | .ref b => b != a | _ => true
def aj_nob (a : Nat) (lv : List (Option Value)) (st : List Value) : Bool := st.all (aj_nv a) && lv.all (fun o => match o with | none => true | some v => aj_nv a v)
theorem aj_nv_ne {a : Nat} {v : Value} (h : aj_nv a v = true) : v ≠ .ref a := by
  intro e; subst e
  simp [aj_nv] at h
theorem aj_no.of {a : Nat} {lv : List (Option Value)} {st : List Value} (h : aj_nob a lv st = true) : aj_no a lv st := by
  unfold aj_nob at h
  rw [Bool.and_eq_true] at h
  refine ⟨fun v hv => aj_nv_ne (List.all_eq_true.mp h.1 v hv), fun o ho e => ?_⟩
  subst e
  exact aj_nv_ne (List.all_eq_true.mp h.2 _ ho) rfl
end
section
def t_J5_init_d00df : List (Nat × Instr × Nat) := [(0, .aload_n 0, 1), (1, .invokespecial 3, 3), (4, .getstatic 18, 3), (7, .ifCond .eq 18, 3), (10, .aload_n 0, 1), (11, .iload_n 1, 1), (12, .newarray .byte, 2), (14, .putfield 15, 3), (17, .aload_n 0, 1), (18, .iconst 0, 1), (19, .putfield 22, 3), (22, .goto 16, 3), (25, .aload_n 0, 1), (26, .iload_n 1, 1), (27, .invokestatic 26, 3), (30, .putfield 15, 3), (33, .aload_n 0, 1), (34, .iconst 1, 1), (35, .putfield 22, 3), (38, .return_, 1)]
set_option maxRecDepth 100000 in
theorem T_J5_init_d00df : ∀ e ∈ t_J5_init_d00df, decode cJ5_init_d00df e.1 = .ok e.2 := by decide +kernel
theorem cd_J5_init_d00df : aj_cd yJ5_init_d00df cJ5_init_d00df 2 none 1 := ⟨(aj_in 301 (by decide +kernel) rfl), (aj_in 71 (by decide +kernel) rfl), by decide +kernel⟩
theorem iv_J5_init_d00df : Cond.instanceMethod yJ5_init_d00df ∈ aj_TB := (aj_in 300 (by decide +kernel) rfl)
theorem ml_RJ5_3 : Cond.methodLink RJ5 3 Lib.objectInit ∈ aj_TB := (aj_in 302 (by decide +kernel) rfl)
theorem fl_RJ5_15 : aj_FL RJ5 15 1 0 := ⟨by decide, by decide, (aj_in 312 (by decide +kernel) rfl)⟩
theorem fl_RJ5_22 : aj_FL RJ5 22 1 1 := ⟨by decide, by decide, (aj_in 313 (by decide +kernel) rfl)⟩
theorem ml_RJ5_26 : Cond.methodLink RJ5 26 yJ2_newBytesFor_77867 ∈ aj_TB := (aj_in 305 (by decide +kernel) rfl)
def t_J5_append_3fe6f : List (Nat × Instr × Nat) := [(0, .aload_n 0, 1), (1, .aload_n 0, 1), (2, .getfield 79, 3), (5, .iconst 1, 1), (6, .iadd, 1), (7, .invokevirtual 100, 3), (10, .aload_n 0, 1), (11, .invokevirtual 83, 3), (14, .ifCond .eq 31, 3), (17, .iload_n 1, 1), (18, .invokestatic 191, 3), (21, .ifCond .eq 24, 3), (24, .aload_n 0, 1), (25, .getfield 15, 3), (28, .aload_n 0, 1), (29, .dup, 1), (30, .getfield 79, 3), (33, .dup_x1, 1), (34, .iconst 1, 1), (35, .iadd, 1), (36, .putfield 79, 3), (39, .iload_n 1, 1), (40, .i2b, 1), (41, .bastore, 1), (42, .goto 33, 3), (45, .aload_n 0, 1), (46, .invokevirtual 83, 3), (49, .ifCond .eq 7, 3), (52, .aload_n 0, 1), (53, .invokevirtual 195, 3), (56, .aload_n 0, 1), (57, .getfield 15, 3), (60, .aload_n 0, 1), (61, .dup, 1), (62, .getfield 79, 3), (65, .dup_x1, 1), (66, .iconst 1, 1), (67, .iadd, 1), (68, .putfield 79, 3), (71, .iload_n 1, 1), (72, .invokestatic 197, 3), (75, .aload_n 0, 1), (76, .areturn, 1)]
set_option maxRecDepth 100000 in
theorem T_J5_append_3fe6f : ∀ e ∈ t_J5_append_3fe6f, decode cJ5_append_3fe6f e.1 = .ok e.2 := by decide +kernel
theorem cd_J5_append_3fe6f : aj_cd yJ5_append_3fe6f cJ5_append_3fe6f 2 (some (.object "java/lang/AbstractStringBuilder")) 1 := ⟨(aj_in 332 (by decide +kernel) rfl), (aj_in 71 (by decide +kernel) rfl), by decide +kernel⟩
theorem fl_RJ5_79 : aj_FL RJ5 79 1 3 := ⟨by decide, by decide, (aj_in 315 (by decide +kernel) rfl)⟩
theorem ml_RJ5_100 : Cond.methodLink RJ5 100 yJ5_ensureCapacityInternal_d00df ∈ aj_TB := (aj_in 333 (by decide +kernel) rfl)
theorem ml_RJ5_83 : Cond.methodLink RJ5 83 yJ5_isLatin1_aae02 ∈ aj_TB := (aj_in 368 (by decide +kernel) rfl)
theorem ml_RJ5_191 : Cond.methodLink RJ5 191 yJ1_canEncode_fc78d ∈ aj_TB := (aj_in 373 (by decide +kernel) rfl)
theorem ml_RJ5_195 : Cond.methodLink RJ5 195 yJ5_inflate_da8c8 ∈ aj_TB := (aj_in 376 (by decide +kernel) rfl)
theorem ml_RJ5_197 : Cond.methodLink RJ5 197 yJ2_putCharSB_b72d1 ∈ aj_TB := (aj_in 409 (by decide +kernel) rfl)
def t_J5_append_c97b9 : List (Nat × Instr × Nat) := [(0, .aload_n 0, 1), (1, .getfield 79, 3), (4, .istore_n 2, 1), (5, .iload_n 2, 1), (6, .iload_n 1, 1), (7, .invokestatic 245, 3), (10, .iadd, 1), (11, .istore_n 3, 1), (12, .aload_n 0, 1), (13, .iload_n 3, 1), (14, .invokevirtual 100, 3), (17, .aload_n 0, 1), (18, .invokevirtual 83, 3), (21, .ifCond .eq 16, 3), (24, .iload_n 1, 1), (25, .iload_n 3, 1), (26, .aload_n 0, 1), (27, .getfield 15, 3), (30, .invokestatic 248, 3), (33, .pop, 1), (34, .goto 14, 3), (37, .iload_n 1, 1), (38, .iload_n 2, 1), (39, .iload_n 3, 1), (40, .aload_n 0, 1), (41, .getfield 15, 3), (44, .invokestatic 251, 3), (47, .pop, 1), (48, .aload_n 0, 1), (49, .iload_n 3, 1), (50, .putfield 79, 3), (53, .aload_n 0, 1), (54, .areturn, 1)]
set_option maxRecDepth 100000 in
theorem T_J5_append_c97b9 : ∀ e ∈ t_J5_append_c97b9, decode cJ5_append_c97b9 e.1 = .ok e.2 := by decide +kernel
theorem cd_J5_append_c97b9 : aj_cd yJ5_append_c97b9 cJ5_append_c97b9 4 (some (.object "java/lang/AbstractStringBuilder")) 1 := ⟨(aj_in 427 (by decide +kernel) rfl), (aj_in 71 (by decide +kernel) rfl), by decide +kernel⟩
theorem ml_RJ5_245 : Cond.methodLink RJ5 245 yJ6_stringSize_0f7a4 ∈ aj_TB := (aj_in 428 (by decide +kernel) rfl)
theorem ml_RJ5_248 : Cond.methodLink RJ5 248 yJ6_getChars_ba4f3 ∈ aj_TB := (aj_in 431 (by decide +kernel) rfl)
theorem ml_RJ5_251 : Cond.methodLink RJ5 251 yJ2_getChars_46870 ∈ aj_TB := (aj_in 438 (by decide +kernel) rfl)
def t_J5_append_cf1ce : List (Nat × Instr × Nat) := [(0, .aload_n 1, 1), (1, .ifnonnull 8, 3), (4, .aload_n 0, 1), (5, .invokevirtual 204, 3), (8, .areturn, 1), (9, .aload_n 1, 1), (10, .invokevirtual 32, 3), (13, .istore_n 2, 1), (14, .aload_n 0, 1), (15, .aload_n 0, 1), (16, .getfield 79, 3), (19, .iload_n 2, 1), (20, .iadd, 1), (21, .invokevirtual 100, 3), (24, .aload_n 0, 1), (25, .aload_n 0, 1), (26, .getfield 79, 3), (29, .aload_n 1, 1), (30, .invokevirtual 208, 3), (33, .aload_n 0, 1), (34, .dup, 1), (35, .getfield 79, 3), (38, .iload_n 2, 1), (39, .iadd, 1), (40, .putfield 79, 3), (43, .aload_n 0, 1), (44, .areturn, 1)]
set_option maxRecDepth 100000 in
theorem T_J5_append_cf1ce : ∀ e ∈ t_J5_append_cf1ce, decode cJ5_append_cf1ce e.1 = .ok e.2 := by decide +kernel
theorem cd_J5_append_cf1ce : aj_cd yJ5_append_cf1ce cJ5_append_cf1ce 3 (some (.object "java/lang/AbstractStringBuilder")) 1 := ⟨(aj_in 541 (by decide +kernel) rfl), (aj_in 71 (by decide +kernel) rfl), by decide +kernel⟩
theorem ml_RJ5_204 : Cond.methodLink RJ5 204 yJ5_appendNull_278bc ∈ aj_TB := (aj_in 542 (by decide +kernel) rfl)
theorem ml_RJ5_32 : Cond.methodLink RJ5 32 yJ0_length_8abf5 ∈ aj_TB := (aj_in 549 (by decide +kernel) rfl)
theorem ml_RJ5_208 : Cond.methodLink RJ5 208 yJ5_putStringAt_47b60 ∈ aj_TB := (aj_in 558 (by decide +kernel) rfl)
def t_J5_ensureCapacityInternal_d00df : List (Nat × Instr × Nat) := [(0, .aload_n 0, 1), (1, .getfield 15, 3), (4, .arraylength, 1), (5, .aload_n 0, 1), (6, .getfield 22, 3), (9, .ishr, 1), (10, .istore_n 2, 1), (11, .iload_n 1, 1), (12, .iload_n 2, 1), (13, .isub, 1), (14, .ifCond .le 24, 3), (17, .aload_n 0, 1), (18, .aload_n 0, 1), (19, .getfield 15, 3), (22, .aload_n 0, 1), (23, .iload_n 1, 1), (24, .invokevirtual 104, 3), (27, .aload_n 0, 1), (28, .getfield 22, 3), (31, .ishl, 1), (32, .invokestatic 108, 3), (35, .putfield 15, 3), (38, .return_, 1)]
set_option maxRecDepth 100000 in
theorem T_J5_ensureCapacityInternal_d00df : ∀ e ∈ t_J5_ensureCapacityInternal_d00df, decode cJ5_ensureCapacityInternal_d00df e.1 = .ok e.2 := by decide +kernel
theorem cd_J5_ensureCapacityInternal_d00df : aj_cd yJ5_ensureCapacityInternal_d00df cJ5_ensureCapacityInternal_d00df 3 none 1 := ⟨(aj_in 336 (by decide +kernel) rfl), (aj_in 71 (by decide +kernel) rfl), by decide +kernel⟩
theorem ml_RJ5_104 : Cond.methodLink RJ5 104 yJ5_newCapacity_0f7a4 ∈ aj_TB := (aj_in 337 (by decide +kernel) rfl)
theorem ml_RJ5_108 : Cond.methodLink RJ5 108 yJ7_copyOf_9075b ∈ aj_TB := (aj_in 352 (by decide +kernel) rfl)
def t_J5_getValue_6d5f1 : List (Nat × Instr × Nat) := [(0, .aload_n 0, 1), (1, .getfield 15, 3), (4, .areturn, 1)]
set_option maxRecDepth 100000 in
theorem T_J5_getValue_6d5f1 : ∀ e ∈ t_J5_getValue_6d5f1, decode cJ5_getValue_6d5f1 e.1 = .ok e.2 := by decide +kernel
theorem cd_J5_getValue_6d5f1 : aj_cd yJ5_getValue_6d5f1 cJ5_getValue_6d5f1 1 (some (.array .byte)) 0 := ⟨(aj_in 472 (by decide +kernel) rfl), (aj_in 71 (by decide +kernel) rfl), by decide +kernel⟩
def t_J5_inflateIfNeededFor_a7421 : List (Nat × Instr × Nat) := [(0, .getstatic 18, 3), (3, .ifCond .eq 18, 3), (6, .aload_n 0, 1), (7, .getfield 22, 3), (10, .aload_n 1, 1), (11, .invokevirtual 40, 3), (14, .if_icmp .eq 7, 3), (17, .aload_n 0, 1), (18, .invokevirtual 195, 3), (21, .return_, 1)]
set_option maxRecDepth 100000 in
theorem T_J5_inflateIfNeededFor_a7421 : ∀ e ∈ t_J5_inflateIfNeededFor_a7421, decode cJ5_inflateIfNeededFor_a7421 e.1 = .ok e.2 := by decide +kernel
theorem cd_J5_inflateIfNeededFor_a7421 : aj_cd yJ5_inflateIfNeededFor_a7421 cJ5_inflateIfNeededFor_a7421 2 none 1 := ⟨(aj_in 565 (by decide +kernel) rfl), (aj_in 71 (by decide +kernel) rfl), by decide +kernel⟩
theorem ml_RJ5_40 : Cond.methodLink RJ5 40 yJ0_coder_7d493 ∈ aj_TB := (aj_in 566 (by decide +kernel) rfl)
def t_J5_isLatin1_aae02 : List (Nat × Instr × Nat) := [(0, .getstatic 18, 3), (3, .ifCond .eq 14, 3), (6, .aload_n 0, 1), (7, .getfield 22, 3), (10, .ifCond .ne 7, 3), (13, .iconst 1, 1), (14, .goto 4, 3), (17, .iconst 0, 1), (18, .ireturn, 1)]
set_option maxRecDepth 100000 in
theorem T_J5_isLatin1_aae02 : ∀ e ∈ t_J5_isLatin1_aae02, decode cJ5_isLatin1_aae02 e.1 = .ok e.2 := by decide +kernel
theorem cd_J5_isLatin1_aae02 : aj_cd yJ5_isLatin1_aae02 cJ5_isLatin1_aae02 1 (some .boolean) 0 := ⟨(aj_in 372 (by decide +kernel) rfl), (aj_in 71 (by decide +kernel) rfl), by decide +kernel⟩
def t_J5_length_8abf5 : List (Nat × Instr × Nat) := [(0, .aload_n 0, 1), (1, .getfield 79, 3), (4, .ireturn, 1)]
set_option maxRecDepth 100000 in
theorem T_J5_length_8abf5 : ∀ e ∈ t_J5_length_8abf5, decode cJ5_length_8abf5 e.1 = .ok e.2 := by decide +kernel
theorem cd_J5_length_8abf5 : aj_cd yJ5_length_8abf5 cJ5_length_8abf5 1 (some .int) 0 := ⟨(aj_in 480 (by decide +kernel) rfl), (aj_in 71 (by decide +kernel) rfl), by decide +kernel⟩
def t_J5_newCapacity_0f7a4 : List (Nat × Instr × Nat) := [(0, .aload_n 0, 1), (1, .getfield 15, 3), (4, .arraylength, 1), (5, .istore_n 2, 1), (6, .iload_n 1, 1), (7, .aload_n 0, 1), (8, .getfield 22, 3), (11, .ishl, 1), (12, .istore_n 3, 1), (13, .iload_n 3, 1), (14, .iload_n 2, 1), (15, .isub, 1), (16, .istore 4, 2), (18, .iload_n 2, 1), (19, .iload 4, 2), (21, .iload_n 2, 1), (22, .iconst 2, 1), (23, .aload_n 0, 1), (24, .getfield 22, 3), (27, .ishl, 1), (28, .iadd, 1), (29, .invokestatic 114, 3), (32, .istore 5, 2), (34, .iload 5, 2), (36, .ldc 39, 2), (38, .if_icmp .ne 13, 3), (41, .new 120, 3), (44, .dup, 1), (45, .ldc 122, 2), (47, .invokespecial 124, 3), (50, .athrow, 1), (51, .iload 5, 2), (53, .aload_n 0, 1), (54, .getfield 22, 3), (57, .ishr, 1), (58, .ireturn, 1)]
set_option maxRecDepth 100000 in
theorem T_J5_newCapacity_0f7a4 : ∀ e ∈ t_J5_newCapacity_0f7a4, decode cJ5_newCapacity_0f7a4 e.1 = .ok e.2 := by decide +kernel
theorem cd_J5_newCapacity_0f7a4 : aj_cd yJ5_newCapacity_0f7a4 cJ5_newCapacity_0f7a4 6 (some .int) 1 := ⟨(aj_in 340 (by decide +kernel) rfl), (aj_in 71 (by decide +kernel) rfl), by decide +kernel⟩
theorem ml_RJ5_114 : Cond.methodLink RJ5 114 yJ8_newLength_cabcc ∈ aj_TB := (aj_in 341 (by decide +kernel) rfl)
theorem kc_RJ5_39 : Cond.constant RJ5 39 (2147483647) ∈ aj_TB := (aj_in 351 (by decide +kernel) rfl)
def t_J5_putStringAt_47b60 : List (Nat × Instr × Nat) := [(0, .aload_n 0, 1), (1, .aload_n 2, 1), (2, .invokevirtual 397, 3), (5, .aload_n 2, 1), (6, .aload_n 0, 1), (7, .getfield 15, 3), (10, .iload_n 1, 1), (11, .aload_n 0, 1), (12, .getfield 22, 3), (15, .invokevirtual 399, 3), (18, .return_, 1)]
set_option maxRecDepth 100000 in
theorem T_J5_putStringAt_47b60 : ∀ e ∈ t_J5_putStringAt_47b60, decode cJ5_putStringAt_47b60 e.1 = .ok e.2 := by decide +kernel
theorem cd_J5_putStringAt_47b60 : aj_cd yJ5_putStringAt_47b60 cJ5_putStringAt_47b60 3 none 2 := ⟨(aj_in 561 (by decide +kernel) rfl), (aj_in 71 (by decide +kernel) rfl), by decide +kernel⟩
theorem ml_RJ5_397 : Cond.methodLink RJ5 397 yJ5_inflateIfNeededFor_a7421 ∈ aj_TB := (aj_in 562 (by decide +kernel) rfl)
theorem ml_RJ5_399 : Cond.methodLink RJ5 399 yJ0_getBytes_840e7 ∈ aj_TB := (aj_in 567 (by decide +kernel) rfl)
def t_J6_bitCount_0f7a4 : List (Nat × Instr × Nat) := [(0, .iload_n 0, 1), (1, .iload_n 0, 1), (2, .iconst 1, 1), (3, .iushr, 1), (4, .ldc_w 265, 3), (7, .iand, 1), (8, .isub, 1), (9, .istore_n 0, 1), (10, .iload_n 0, 1), (11, .ldc_w 266, 3), (14, .iand, 1), (15, .iload_n 0, 1), (16, .iconst 2, 1), (17, .iushr, 1), (18, .ldc_w 266, 3), (21, .iand, 1), (22, .iadd, 1), (23, .istore_n 0, 1), (24, .iload_n 0, 1), (25, .iload_n 0, 1), (26, .iconst 4, 1), (27, .iushr, 1), (28, .iadd, 1), (29, .ldc_w 267, 3), (32, .iand, 1), (33, .istore_n 0, 1), (34, .iload_n 0, 1), (35, .iload_n 0, 1), (36, .bipush 8, 2), (38, .iushr, 1), (39, .iadd, 1), (40, .istore_n 0, 1), (41, .iload_n 0, 1), (42, .iload_n 0, 1), (43, .bipush 16, 2), (45, .iushr, 1), (46, .iadd, 1), (47, .istore_n 0, 1), (48, .iload_n 0, 1), (49, .bipush 63, 2), (51, .iand, 1), (52, .ireturn, 1)]
set_option maxRecDepth 100000 in
theorem T_J6_bitCount_0f7a4 : ∀ e ∈ t_J6_bitCount_0f7a4, decode cJ6_bitCount_0f7a4 e.1 = .ok e.2 := by decide +kernel
theorem cd_J6_bitCount_0f7a4 : aj_cd yJ6_bitCount_0f7a4 cJ6_bitCount_0f7a4 1 (some .int) 1 := ⟨(aj_in 1399 (by decide +kernel) rfl), (aj_in 70 (by decide +kernel) rfl), by decide +kernel⟩
theorem sv_J6_bitCount_0f7a4 : Cond.static yJ6_bitCount_0f7a4 ∈ aj_TB := (aj_in 1398 (by decide +kernel) rfl)
theorem kc_RJ6_265 : Cond.constant RJ6 265 (1431655765) ∈ aj_TB := (aj_in 1400 (by decide +kernel) rfl)
theorem kc_RJ6_266 : Cond.constant RJ6 266 (858993459) ∈ aj_TB := (aj_in 1401 (by decide +kernel) rfl)
theorem kc_RJ6_267 : Cond.constant RJ6 267 (252645135) ∈ aj_TB := (aj_in 1402 (by decide +kernel) rfl)
def t_J6_getChars_ba4f3 : List (Nat × Instr × Nat) := [(0, .iload_n 1, 1), (1, .istore 5, 2), (3, .iload_n 0, 1), (4, .ifCond .ge 7, 3), (7, .iconst 1, 1), (8, .goto 4, 3), (11, .iconst 0, 1), (12, .istore 6, 2), (14, .iload 6, 2), (16, .ifCond .ne 6, 3), (19, .iload_n 0, 1), (20, .ineg, 1), (21, .istore_n 0, 1), (22, .iload_n 0, 1), (23, .bipush (-100), 2), (25, .if_icmp .gt 47, 3), (28, .iload_n 0, 1), (29, .bipush 100, 2), (31, .idiv, 1), (32, .istore_n 3, 1), (33, .iload_n 3, 1), (34, .bipush 100, 2), (36, .imul, 1), (37, .iload_n 0, 1), (38, .isub, 1), (39, .istore 4, 2), (41, .iload_n 3, 1), (42, .istore_n 0, 1), (43, .aload_n 2, 1), (44, .iinc 5 (-1), 3), (47, .iload 5, 2), (49, .getstatic 83, 3), (52, .iload 4, 2), (54, .baload, 1), (55, .bastore, 1), (56, .aload_n 2, 1), (57, .iinc 5 (-1), 3), (60, .iload 5, 2), (62, .getstatic 87, 3), (65, .iload 4, 2), (67, .baload, 1), (68, .bastore, 1), (69, .goto (-47), 3), (72, .aload_n 2, 1), (73, .iinc 5 (-1), 3), (76, .iload 5, 2), (78, .getstatic 83, 3), (81, .iload_n 0, 1), (82, .ineg, 1), (83, .baload, 1), (84, .bastore, 1), (85, .iload_n 0, 1), (86, .bipush (-9), 2), (88, .if_icmp .ge 16, 3), (91, .aload_n 2, 1), (92, .iinc 5 (-1), 3), (95, .iload 5, 2), (97, .getstatic 87, 3), (100, .iload_n 0, 1), (101, .ineg, 1), (102, .baload, 1), (103, .bastore, 1), (104, .iload 6, 2), (106, .ifCond .eq 12, 3), (109, .aload_n 2, 1), (110, .iinc 5 (-1), 3), (113, .iload 5, 2), (115, .bipush 45, 2), (117, .bastore, 1), (118, .iload 5, 2), (120, .ireturn, 1)]
set_option maxRecDepth 100000 in
theorem T_J6_getChars_ba4f3 : ∀ e ∈ t_J6_getChars_ba4f3, decode cJ6_getChars_ba4f3 e.1 = .ok e.2 := by decide +kernel
theorem cd_J6_getChars_ba4f3 : aj_cd yJ6_getChars_ba4f3 cJ6_getChars_ba4f3 7 (some .int) 3 := ⟨(aj_in 433 (by decide +kernel) rfl), (aj_in 70 (by decide +kernel) rfl), by decide +kernel⟩
theorem sv_J6_getChars_ba4f3 : Cond.static yJ6_getChars_ba4f3 ∈ aj_TB := (aj_in 432 (by decide +kernel) rfl)
def t_J6_signum_0f7a4 : List (Nat × Instr × Nat) := [(0, .iload_n 0, 1), (1, .bipush 31, 2), (3, .ishr, 1), (4, .iload_n 0, 1), (5, .ineg, 1), (6, .bipush 31, 2), (8, .iushr, 1), (9, .ior, 1), (10, .ireturn, 1)]
set_option maxRecDepth 100000 in
theorem T_J6_signum_0f7a4 : ∀ e ∈ t_J6_signum_0f7a4, decode cJ6_signum_0f7a4 e.1 = .ok e.2 := by decide +kernel
theorem cd_J6_signum_0f7a4 : aj_cd yJ6_signum_0f7a4 cJ6_signum_0f7a4 1 (some .int) 1 := ⟨(aj_in 1329 (by decide +kernel) rfl), (aj_in 70 (by decide +kernel) rfl), by decide +kernel⟩
theorem sv_J6_signum_0f7a4 : Cond.static yJ6_signum_0f7a4 ∈ aj_TB := (aj_in 1328 (by decide +kernel) rfl)
def t_J6_stringSize_0f7a4 : List (Nat × Instr × Nat) := [(0, .iconst 1, 1), (1, .istore_n 1, 1), (2, .iload_n 0, 1), (3, .ifCond .lt 8, 3), (6, .iconst 0, 1), (7, .istore_n 1, 1), (8, .iload_n 0, 1), (9, .ineg, 1), (10, .istore_n 0, 1), (11, .bipush (-10), 2), (13, .istore_n 2, 1), (14, .iconst 1, 1), (15, .istore_n 3, 1), (16, .iload_n 3, 1), (17, .bipush 10, 2), (19, .if_icmp .ge 23, 3), (22, .iload_n 0, 1), (23, .iload_n 2, 1), (24, .if_icmp .le 7, 3), (27, .iload_n 3, 1), (28, .iload_n 1, 1), (29, .iadd, 1), (30, .ireturn, 1), (31, .bipush 10, 2), (33, .iload_n 2, 1), (34, .imul, 1), (35, .istore_n 2, 1), (36, .iinc 3 1, 3), (39, .goto (-23), 3), (42, .bipush 10, 2), (44, .iload_n 1, 1), (45, .iadd, 1), (46, .ireturn, 1)]
set_option maxRecDepth 100000 in
theorem T_J6_stringSize_0f7a4 : ∀ e ∈ t_J6_stringSize_0f7a4, decode cJ6_stringSize_0f7a4 e.1 = .ok e.2 := by decide +kernel
theorem cd_J6_stringSize_0f7a4 : aj_cd yJ6_stringSize_0f7a4 cJ6_stringSize_0f7a4 4 (some .int) 1 := ⟨(aj_in 430 (by decide +kernel) rfl), (aj_in 70 (by decide +kernel) rfl), by decide +kernel⟩
theorem sv_J6_stringSize_0f7a4 : Cond.static yJ6_stringSize_0f7a4 ∈ aj_TB := (aj_in 429 (by decide +kernel) rfl)
def t_J0_init_db425 : List (Nat × Instr × Nat) := [(0, .aload_n 0, 1), (1, .invokespecial 1, 3), (4, .aload_n 1, 1), (5, .invokevirtual 552, 3), (8, .astore_n 3, 1), (9, .aload_n 1, 1), (10, .invokevirtual 549, 3), (13, .istore 4, 2), (15, .aload_n 1, 1), (16, .invokevirtual 1047, 3), (19, .ifCond .eq 22, 3), (22, .aload_n 0, 1), (23, .iconst 0, 1), (24, .putfield 15, 3), (27, .aload_n 0, 1), (28, .aload_n 3, 1), (29, .iconst 0, 1), (30, .iload 4, 2), (32, .invokestatic 54, 3), (35, .putfield 9, 3), (38, .goto 59, 3), (41, .getstatic 38, 3), (44, .ifCond .eq 35, 3), (47, .aload_n 1, 1), (48, .getfield 1048, 3), (51, .ifCond .eq 28, 3), (54, .aload_n 0, 1), (55, .aload_n 3, 1), (56, .iconst 0, 1), (57, .iload 4, 2), (59, .invokestatic 1051, 3), (62, .putfield 9, 3), (65, .aload_n 0, 1), (66, .aload_n 0, 1), (67, .getfield 9, 3), (70, .iload 4, 2), (72, .invokestatic 47, 3), (75, .putfield 15, 3), (78, .return_, 1), (79, .aload_n 0, 1), (80, .iconst 1, 1), (81, .putfield 15, 3), (84, .aload_n 0, 1), (85, .aload_n 3, 1), (86, .iconst 0, 1), (87, .iload 4, 2), (89, .iconst 1, 1), (90, .ishl, 1), (91, .invokestatic 54, 3), (94, .putfield 9, 3), (97, .return_, 1)]
set_option maxRecDepth 100000 in
theorem T_J0_init_db425 : ∀ e ∈ t_J0_init_db425, decode cJ0_init_db425 e.1 = .ok e.2 := by decide +kernel
theorem cd_J0_init_db425 : aj_cd yJ0_init_db425 cJ0_init_db425 5 none 2 := ⟨(aj_in 466 (by decide +kernel) rfl), (aj_in 73 (by decide +kernel) rfl), by decide +kernel⟩
theorem iv_J0_init_db425 : Cond.instanceMethod yJ0_init_db425 ∈ aj_TB := (aj_in 465 (by decide +kernel) rfl)
theorem ml_RJ0_1 : Cond.methodLink RJ0 1 Lib.objectInit ∈ aj_TB := (aj_in 467 (by decide +kernel) rfl)
theorem ml_RJ0_552 : Cond.methodLink RJ0 552 yJ5_getValue_6d5f1 ∈ aj_TB := (aj_in 468 (by decide +kernel) rfl)
theorem ml_RJ0_549 : Cond.methodLink RJ0 549 yJ5_length_8abf5 ∈ aj_TB := (aj_in 473 (by decide +kernel) rfl)
theorem ml_RJ0_1047 : Cond.methodLink RJ0 1047 yJ5_isLatin1_aae02 ∈ aj_TB := (aj_in 481 (by decide +kernel) rfl)
theorem fl_RJ0_15 : aj_FL RJ0 15 0 1 := ⟨by decide, by decide, (aj_in 613 (by decide +kernel) rfl)⟩
theorem ml_RJ0_54 : Cond.methodLink RJ0 54 yJ7_copyOfRange_39247 ∈ aj_TB := (aj_in 482 (by decide +kernel) rfl)
theorem fl_RJ0_9 : aj_FL RJ0 9 0 0 := ⟨by decide, by decide, (aj_in 612 (by decide +kernel) rfl)⟩
theorem fl_RJ0_1048 : aj_FL RJ0 1048 1 2 := ⟨by decide, by decide, (aj_in 314 (by decide +kernel) rfl)⟩
theorem ml_RJ0_1051 : Cond.methodLink RJ0 1051 yJ2_compress_39247 ∈ aj_TB := (aj_in 599 (by decide +kernel) rfl)
theorem ml_RJ0_47 : Cond.methodLink RJ0 47 yJ2_coderFromArrayLen_85cad ∈ aj_TB := (aj_in 609 (by decide +kernel) rfl)
def t_J0_init_81219 : List (Nat × Instr × Nat) := [(0, .aload_n 0, 1), (1, .aload_n 1, 1), (2, .aconst_null, 1), (3, .invokespecial 489, 3), (6, .return_, 1)]
set_option maxRecDepth 100000 in
theorem T_J0_init_81219 : ∀ e ∈ t_J0_init_81219, decode cJ0_init_81219 e.1 = .ok e.2 := by decide +kernel
theorem cd_J0_init_81219 : aj_cd yJ0_init_81219 cJ0_init_81219 2 none 1 := ⟨(aj_in 463 (by decide +kernel) rfl), (aj_in 73 (by decide +kernel) rfl), by decide +kernel⟩
theorem iv_J0_init_81219 : Cond.instanceMethod yJ0_init_81219 ∈ aj_TB := (aj_in 462 (by decide +kernel) rfl)
theorem ml_RJ0_489 : Cond.methodLink RJ0 489 yJ0_init_db425 ∈ aj_TB := (aj_in 464 (by decide +kernel) rfl)
def t_J0_coder_7d493 : List (Nat × Instr × Nat) := [(0, .getstatic 38, 3), (3, .ifCond .eq 10, 3), (6, .aload_n 0, 1), (7, .getfield 15, 3), (10, .goto 4, 3), (13, .iconst 1, 1), (14, .ireturn, 1)]
set_option maxRecDepth 100000 in
theorem T_J0_coder_7d493 : ∀ e ∈ t_J0_coder_7d493, decode cJ0_coder_7d493 e.1 = .ok e.2 := by decide +kernel
theorem cd_J0_coder_7d493 : aj_cd yJ0_coder_7d493 cJ0_coder_7d493 1 (some .byte) 0 := ⟨(aj_in 556 (by decide +kernel) rfl), (aj_in 73 (by decide +kernel) rfl), by decide +kernel⟩
theorem cv_J0_coder_7d493 : aj_cv yJ0_coder_7d493 := ⟨(aj_in 554 (by decide +kernel) rfl), (aj_in 555 (by decide +kernel) rfl)⟩
def t_J0_getBytes_840e7 : List (Nat × Instr × Nat) := [(0, .aload_n 0, 1), (1, .invokevirtual 335, 3), (4, .iload_n 3, 1), (5, .if_icmp .ne 23, 3), (8, .aload_n 0, 1), (9, .getfield 9, 3), (12, .iconst 0, 1), (13, .aload_n 1, 1), (14, .iload_n 2, 1), (15, .iload_n 3, 1), (16, .ishl, 1), (17, .aload_n 0, 1), (18, .getfield 9, 3), (21, .arraylength, 1), (22, .invokestatic 212, 3), (25, .goto 18, 3), (28, .aload_n 0, 1), (29, .getfield 9, 3), (32, .iconst 0, 1), (33, .aload_n 1, 1), (34, .iload_n 2, 1), (35, .aload_n 0, 1), (36, .getfield 9, 3), (39, .arraylength, 1), (40, .invokestatic 106, 3), (43, .return_, 1)]
set_option maxRecDepth 100000 in
theorem T_J0_getBytes_840e7 : ∀ e ∈ t_J0_getBytes_840e7, decode cJ0_getBytes_840e7 e.1 = .ok e.2 := by decide +kernel
theorem cd_J0_getBytes_840e7 : aj_cd yJ0_getBytes_840e7 cJ0_getBytes_840e7 4 none 3 := ⟨(aj_in 570 (by decide +kernel) rfl), (aj_in 73 (by decide +kernel) rfl), by decide +kernel⟩
theorem cv_J0_getBytes_840e7 : aj_cv yJ0_getBytes_840e7 := ⟨(aj_in 568 (by decide +kernel) rfl), (aj_in 569 (by decide +kernel) rfl)⟩
theorem ml_RJ0_335 : Cond.methodLink RJ0 335 yJ0_coder_7d493 ∈ aj_TB := (aj_in 553 (by decide +kernel) rfl)
theorem ml_RJ0_106 : Cond.methodLink RJ0 106 yJ1_inflate_0e8fd ∈ aj_TB := (aj_in 572 (by decide +kernel) rfl)
def t_J0_length_8abf5 : List (Nat × Instr × Nat) := [(0, .aload_n 0, 1), (1, .getfield 9, 3), (4, .arraylength, 1), (5, .aload_n 0, 1), (6, .invokevirtual 335, 3), (9, .ishr, 1), (10, .ireturn, 1)]
set_option maxRecDepth 100000 in
theorem T_J0_length_8abf5 : ∀ e ∈ t_J0_length_8abf5, decode cJ0_length_8abf5 e.1 = .ok e.2 := by decide +kernel
theorem cd_J0_length_8abf5 : aj_cd yJ0_length_8abf5 cJ0_length_8abf5 1 (some .int) 0 := ⟨(aj_in 552 (by decide +kernel) rfl), (aj_in 73 (by decide +kernel) rfl), by decide +kernel⟩
theorem cv_J0_length_8abf5 : aj_cv yJ0_length_8abf5 := ⟨(aj_in 550 (by decide +kernel) rfl), (aj_in 551 (by decide +kernel) rfl)⟩
def t_J4_init_da8c8 : List (Nat × Instr × Nat) := [(0, .aload_n 0, 1), (1, .bipush 16, 2), (3, .invokespecial 1, 3), (6, .return_, 1)]
set_option maxRecDepth 100000 in
theorem T_J4_init_da8c8 : ∀ e ∈ t_J4_init_da8c8, decode cJ4_init_da8c8 e.1 = .ok e.2 := by decide +kernel
theorem cd_J4_init_da8c8 : aj_cd yJ4_init_da8c8 cJ4_init_da8c8 1 none 0 := ⟨(aj_in 298 (by decide +kernel) rfl), (aj_in 72 (by decide +kernel) rfl), by decide +kernel⟩
theorem iv_J4_init_da8c8 : Cond.instanceMethod yJ4_init_da8c8 ∈ aj_TB := (aj_in 297 (by decide +kernel) rfl)
theorem ml_RJ4_1 : Cond.methodLink RJ4 1 yJ5_init_d00df ∈ aj_TB := (aj_in 299 (by decide +kernel) rfl)
def t_J4_append_cf468 : List (Nat × Instr × Nat) := [(0, .aload_n 0, 1), (1, .iload_n 1, 1), (2, .invokespecial 50, 3), (5, .pop, 1), (6, .aload_n 0, 1), (7, .areturn, 1)]
set_option maxRecDepth 100000 in
theorem T_J4_append_cf468 : ∀ e ∈ t_J4_append_cf468, decode cJ4_append_cf468 e.1 = .ok e.2 := by decide +kernel
theorem cd_J4_append_cf468 : aj_cd yJ4_append_cf468 cJ4_append_cf468 2 (some (.object "java/lang/StringBuilder")) 1 := ⟨(aj_in 329 (by decide +kernel) rfl), (aj_in 72 (by decide +kernel) rfl), by decide +kernel⟩
theorem cv_J4_append_cf468 : aj_cv yJ4_append_cf468 := ⟨(aj_in 327 (by decide +kernel) rfl), (aj_in 328 (by decide +kernel) rfl)⟩
theorem ml_RJ4_50 : Cond.methodLink RJ4 50 yJ5_append_3fe6f ∈ aj_TB := (aj_in 330 (by decide +kernel) rfl)
def t_J4_append_bf812 : List (Nat × Instr × Nat) := [(0, .aload_n 0, 1), (1, .iload_n 1, 1), (2, .invokespecial 53, 3), (5, .pop, 1), (6, .aload_n 0, 1), (7, .areturn, 1)]
set_option maxRecDepth 100000 in
theorem T_J4_append_bf812 : ∀ e ∈ t_J4_append_bf812, decode cJ4_append_bf812 e.1 = .ok e.2 := by decide +kernel
theorem cd_J4_append_bf812 : aj_cd yJ4_append_bf812 cJ4_append_bf812 2 (some (.object "java/lang/StringBuilder")) 1 := ⟨(aj_in 424 (by decide +kernel) rfl), (aj_in 72 (by decide +kernel) rfl), by decide +kernel⟩
theorem cv_J4_append_bf812 : aj_cv yJ4_append_bf812 := ⟨(aj_in 422 (by decide +kernel) rfl), (aj_in 423 (by decide +kernel) rfl)⟩
theorem ml_RJ4_53 : Cond.methodLink RJ4 53 yJ5_append_c97b9 ∈ aj_TB := (aj_in 425 (by decide +kernel) rfl)
def t_J4_append_15ec4 : List (Nat × Instr × Nat) := [(0, .aload_n 0, 1), (1, .aload_n 1, 1), (2, .invokespecial 29, 3), (5, .pop, 1), (6, .aload_n 0, 1), (7, .areturn, 1)]
set_option maxRecDepth 100000 in
theorem T_J4_append_15ec4 : ∀ e ∈ t_J4_append_15ec4, decode cJ4_append_15ec4 e.1 = .ok e.2 := by decide +kernel
theorem cd_J4_append_15ec4 : aj_cd yJ4_append_15ec4 cJ4_append_15ec4 2 (some (.object "java/lang/StringBuilder")) 1 := ⟨(aj_in 538 (by decide +kernel) rfl), (aj_in 72 (by decide +kernel) rfl), by decide +kernel⟩
theorem cv_J4_append_15ec4 : aj_cv yJ4_append_15ec4 := ⟨(aj_in 536 (by decide +kernel) rfl), (aj_in 537 (by decide +kernel) rfl)⟩
theorem ml_RJ4_29 : Cond.methodLink RJ4 29 yJ5_append_cf1ce ∈ aj_TB := (aj_in 539 (by decide +kernel) rfl)
def t_J4_toString_0e30d : List (Nat × Instr × Nat) := [(0, .new 18, 3), (3, .dup, 1), (4, .aload_n 0, 1), (5, .invokespecial 137, 3), (8, .areturn, 1)]
set_option maxRecDepth 100000 in
theorem T_J4_toString_0e30d : ∀ e ∈ t_J4_toString_0e30d, decode cJ4_toString_0e30d e.1 = .ok e.2 := by decide +kernel
theorem cd_J4_toString_0e30d : aj_cd yJ4_toString_0e30d cJ4_toString_0e30d 1 (some (.object "java/lang/String")) 0 := ⟨(aj_in 458 (by decide +kernel) rfl), (aj_in 72 (by decide +kernel) rfl), by decide +kernel⟩
theorem cv_J4_toString_0e30d : aj_cv yJ4_toString_0e30d := ⟨(aj_in 456 (by decide +kernel) rfl), (aj_in 457 (by decide +kernel) rfl)⟩
theorem nw_RJ4_18 : aj_NW RJ4 18 0 := ⟨by decide, (aj_in 459 (by decide +kernel) rfl), (aj_in 460 (by decide +kernel) rfl), (aj_in 73 (by decide +kernel) rfl)⟩
theorem ml_RJ4_137 : Cond.methodLink RJ4 137 yJ0_init_81219 ∈ aj_TB := (aj_in 461 (by decide +kernel) rfl)
def t_J1_canEncode_fc78d : List (Nat × Instr × Nat) := [(0, .iload_n 0, 1), (1, .sipush 255, 3), (4, .if_icmp .gt 7, 3), (7, .iconst 1, 1), (8, .goto 4, 3), (11, .iconst 0, 1), (12, .ireturn, 1)]
set_option maxRecDepth 100000 in
theorem T_J1_canEncode_fc78d : ∀ e ∈ t_J1_canEncode_fc78d, decode cJ1_canEncode_fc78d e.1 = .ok e.2 := by decide +kernel
theorem cd_J1_canEncode_fc78d : aj_cd yJ1_canEncode_fc78d cJ1_canEncode_fc78d 1 (some .boolean) 1 := ⟨(aj_in 375 (by decide +kernel) rfl), (aj_in 78 (by decide +kernel) rfl), by decide +kernel⟩
theorem sv_J1_canEncode_fc78d : Cond.static yJ1_canEncode_fc78d ∈ aj_TB := (aj_in 374 (by decide +kernel) rfl)
def t_J7_checkLength_df160 : List (Nat × Instr × Nat) := [(0, .iload_n 1, 1), (1, .iload_n 0, 1), (2, .if_icmp .ge 35, 3), (5, .new 43, 3), (8, .dup, 1), (9, .new 45, 3), (12, .dup, 1), (13, .invokespecial 47, 3), (16, .iload_n 0, 1), (17, .invokevirtual 54, 3), (20, .ldc_w 337, 3), (23, .invokevirtual 50, 3), (26, .iload_n 1, 1), (27, .invokevirtual 54, 3), (30, .invokevirtual 61, 3), (33, .invokespecial 65, 3), (36, .athrow, 1), (37, .return_, 1)]
set_option maxRecDepth 100000 in
theorem T_J7_checkLength_df160 : ∀ e ∈ t_J7_checkLength_df160, decode cJ7_checkLength_df160 e.1 = .ok e.2 := by decide +kernel
theorem cd_J7_checkLength_df160 : aj_cd yJ7_checkLength_df160 cJ7_checkLength_df160 2 none 2 := ⟨(aj_in 490 (by decide +kernel) rfl), (aj_in 76 (by decide +kernel) rfl), by decide +kernel⟩
theorem sv_J7_checkLength_df160 : Cond.static yJ7_checkLength_df160 ∈ aj_TB := (aj_in 489 (by decide +kernel) rfl)
theorem nw_RJ7_45 : aj_NW RJ7 45 1 := ⟨by decide, (aj_in 531 (by decide +kernel) rfl), (aj_in 295 (by decide +kernel) rfl), (aj_in 72 (by decide +kernel) rfl)⟩
theorem ml_RJ7_47 : Cond.methodLink RJ7 47 yJ4_init_da8c8 ∈ aj_TB := (aj_in 532 (by decide +kernel) rfl)
theorem ml_RJ7_54 : Cond.methodLink RJ7 54 yJ4_append_bf812 ∈ aj_TB := (aj_in 533 (by decide +kernel) rfl)
theorem ml_RJ7_50 : Cond.methodLink RJ7 50 yJ4_append_15ec4 ∈ aj_TB := (aj_in 535 (by decide +kernel) rfl)
theorem ml_RJ7_61 : Cond.methodLink RJ7 61 yJ4_toString_0e30d ∈ aj_TB := (aj_in 573 (by decide +kernel) rfl)
def t_J7_copyOf_9075b : List (Nat × Instr × Nat) := [(0, .iload_n 1, 1), (1, .aload_n 0, 1), (2, .arraylength, 1), (3, .if_icmp .ne 11, 3), (6, .aload_n 0, 1), (7, .invokevirtual 310, 3), (10, .checkcast 311, 3), (13, .areturn, 1), (14, .iload_n 1, 1), (15, .newarray .byte, 2), (17, .astore_n 2, 1), (18, .aload_n 0, 1), (19, .iconst 0, 1), (20, .aload_n 2, 1), (21, .iconst 0, 1), (22, .aload_n 0, 1), (23, .arraylength, 1), (24, .iload_n 1, 1), (25, .invokestatic 304, 3), (28, .invokestatic 150, 3), (31, .aload_n 2, 1), (32, .areturn, 1)]
set_option maxRecDepth 100000 in
theorem T_J7_copyOf_9075b : ∀ e ∈ t_J7_copyOf_9075b, decode cJ7_copyOf_9075b e.1 = .ok e.2 := by decide +kernel
theorem cd_J7_copyOf_9075b : aj_cd yJ7_copyOf_9075b cJ7_copyOf_9075b 3 (some (.array .byte)) 2 := ⟨(aj_in 354 (by decide +kernel) rfl), (aj_in 76 (by decide +kernel) rfl), by decide +kernel⟩
theorem sv_J7_copyOf_9075b : Cond.static yJ7_copyOf_9075b ∈ aj_TB := (aj_in 353 (by decide +kernel) rfl)
theorem ml_RJ7_304 : Cond.methodLink RJ7 304 yJ9_min_7cf53 ∈ aj_TB := (aj_in 362 (by decide +kernel) rfl)
def t_J7_copyOfRange_39247 : List (Nat × Instr × Nat) := [(0, .iload_n 1, 1), (1, .ifCond .ne 9, 3), (4, .iload_n 2, 1), (5, .aload_n 0, 1), (6, .arraylength, 1), (7, .if_icmp .eq 10, 3), (10, .aload_n 0, 1), (11, .iload_n 1, 1), (12, .iload_n 2, 1), (13, .invokestatic 339, 3), (16, .areturn, 1), (17, .aload_n 0, 1), (18, .invokevirtual 310, 3), (21, .checkcast 311, 3), (24, .areturn, 1)]
set_option maxRecDepth 100000 in
theorem T_J7_copyOfRange_39247 : ∀ e ∈ t_J7_copyOfRange_39247, decode cJ7_copyOfRange_39247 e.1 = .ok e.2 := by decide +kernel
theorem cd_J7_copyOfRange_39247 : aj_cd yJ7_copyOfRange_39247 cJ7_copyOfRange_39247 3 (some (.array .byte)) 3 := ⟨(aj_in 484 (by decide +kernel) rfl), (aj_in 76 (by decide +kernel) rfl), by decide +kernel⟩
theorem sv_J7_copyOfRange_39247 : Cond.static yJ7_copyOfRange_39247 ∈ aj_TB := (aj_in 483 (by decide +kernel) rfl)
theorem ml_RJ7_339 : Cond.methodLink RJ7 339 yJ7_copyOfRangeByte_39247 ∈ aj_TB := (aj_in 485 (by decide +kernel) rfl)
def t_J7_copyOfRangeByte_39247 : List (Nat × Instr × Nat) := [(0, .iload_n 1, 1), (1, .iload_n 2, 1), (2, .invokestatic 343, 3), (5, .iload_n 2, 1), (6, .iload_n 1, 1), (7, .isub, 1), (8, .istore_n 3, 1), (9, .iload_n 3, 1), (10, .newarray .byte, 2), (12, .astore 4, 2), (14, .aload_n 0, 1), (15, .iload_n 1, 1), (16, .aload 4, 2), (18, .iconst 0, 1), (19, .aload_n 0, 1), (20, .arraylength, 1), (21, .iload_n 1, 1), (22, .isub, 1), (23, .iload_n 3, 1), (24, .invokestatic 304, 3), (27, .invokestatic 150, 3), (30, .aload 4, 2), (32, .areturn, 1)]
set_option maxRecDepth 100000 in
theorem T_J7_copyOfRangeByte_39247 : ∀ e ∈ t_J7_copyOfRangeByte_39247, decode cJ7_copyOfRangeByte_39247 e.1 = .ok e.2 := by decide +kernel
theorem cd_J7_copyOfRangeByte_39247 : aj_cd yJ7_copyOfRangeByte_39247 cJ7_copyOfRangeByte_39247 5 (some (.array .byte)) 3 := ⟨(aj_in 487 (by decide +kernel) rfl), (aj_in 76 (by decide +kernel) rfl), by decide +kernel⟩
theorem sv_J7_copyOfRangeByte_39247 : Cond.static yJ7_copyOfRangeByte_39247 ∈ aj_TB := (aj_in 486 (by decide +kernel) rfl)
theorem ml_RJ7_343 : Cond.methodLink RJ7 343 yJ7_checkLength_df160 ∈ aj_TB := (aj_in 488 (by decide +kernel) rfl)
def t_J8_newLength_cabcc : List (Nat × Instr × Nat) := [(0, .iload_n 0, 1), (1, .iload_n 1, 1), (2, .iload_n 2, 1), (3, .invokestatic 194, 3), (6, .iadd, 1), (7, .istore_n 3, 1), (8, .iconst 0, 1), (9, .iload_n 3, 1), (10, .if_icmp .ge 11, 3), (13, .iload_n 3, 1), (14, .ldc 200, 2), (16, .if_icmp .gt 5, 3), (19, .iload_n 3, 1), (20, .ireturn, 1), (21, .iload_n 0, 1), (22, .iload_n 1, 1), (23, .invokestatic 201, 3), (26, .ireturn, 1)]
set_option maxRecDepth 100000 in
theorem T_J8_newLength_cabcc : ∀ e ∈ t_J8_newLength_cabcc, decode cJ8_newLength_cabcc e.1 = .ok e.2 := by decide +kernel
theorem cd_J8_newLength_cabcc : aj_cd yJ8_newLength_cabcc cJ8_newLength_cabcc 4 (some .int) 3 := ⟨(aj_in 343 (by decide +kernel) rfl), (aj_in 75 (by decide +kernel) rfl), by decide +kernel⟩
theorem sv_J8_newLength_cabcc : Cond.static yJ8_newLength_cabcc ∈ aj_TB := (aj_in 342 (by decide +kernel) rfl)
theorem ml_RJ8_194 : Cond.methodLink RJ8 194 yJ9_max_7cf53 ∈ aj_TB := (aj_in 344 (by decide +kernel) rfl)
theorem kc_RJ8_200 : Cond.constant RJ8 200 (2147483639) ∈ aj_TB := (aj_in 347 (by decide +kernel) rfl)
theorem ml_RJ8_201 : Cond.methodLink RJ8 201 yJ8_hugeLength_7cf53 ∈ aj_TB := (aj_in 348 (by decide +kernel) rfl)
theorem kf_RJ0_9 : Cond.fieldLink RJ0 9 "java/lang/String" "value" "[B" ∈ aj_TB := (aj_in 612 (by decide +kernel) rfl)
theorem kf_RJ0_15 : Cond.fieldLink RJ0 15 "java/lang/String" "coder" "B" ∈ aj_TB := (aj_in 613 (by decide +kernel) rfl)
theorem gs_RJ5_18 : Cond.fieldLink RJ5 18 "java/lang/String" "COMPACT_STRINGS" "Z" ∈ aj_TB := (aj_in 303 (by decide +kernel) rfl)
theorem gs_RJ0_38 : Cond.fieldLink RJ0 38 "java/lang/String" "COMPACT_STRINGS" "Z" ∈ aj_TB := (aj_in 557 (by decide +kernel) rfl)
theorem gs_RJ6_83 : Cond.fieldLink RJ6 83 "java/lang/Integer" "DigitOnes" "[B" ∈ aj_TB := (aj_in 434 (by decide +kernel) rfl)
theorem gs_RJ6_87 : Cond.fieldLink RJ6 87 "java/lang/Integer" "DigitTens" "[B" ∈ aj_TB := (aj_in 436 (by decide +kernel) rfl)
theorem acp_RJ7_150 : aj_ac RJ7 150 := ⟨(aj_in 365 (by decide +kernel) rfl), (aj_in 367 (by decide +kernel) rfl), (aj_in 366 (by decide +kernel) rfl), (aj_in 77 (by decide +kernel) rfl)⟩
theorem acp_RJ0_212 : aj_ac RJ0 212 := ⟨(aj_in 571 (by decide +kernel) rfl), (aj_in 367 (by decide +kernel) rfl), (aj_in 366 (by decide +kernel) rfl), (aj_in 77 (by decide +kernel) rfl)⟩
theorem clo_RJ7_310 : aj_clo RJ7 310 := ⟨(aj_in 355 (by decide +kernel) rfl), (aj_in 356 (by decide +kernel) rfl), (aj_in 357 (by decide +kernel) rfl), (aj_in 358 (by decide +kernel) rfl), (aj_in 359 (by decide +kernel) rfl)⟩
theorem cl_RJ7_311 : Cond.classLink RJ7 311 "[B" ∈ aj_TB := (aj_in 361 (by decide +kernel) rfl)
theorem mw_RJ7_304 : aj_mw RJ7 304 Lib.Math.min.name Lib.Math.min.code := ⟨(aj_in 362 (by decide +kernel) rfl), (aj_in 363 (by decide +kernel) rfl), (aj_in 68 (by decide +kernel) rfl), (aj_in 364 (by decide +kernel) rfl)⟩
theorem mw_RJ8_194 : aj_mw RJ8 194 Lib.Math.max.name Lib.Math.max.code := ⟨(aj_in 344 (by decide +kernel) rfl), (aj_in 345 (by decide +kernel) rfl), (aj_in 68 (by decide +kernel) rfl), (aj_in 346 (by decide +kernel) rfl)⟩
theorem ac_byte : Cond.arrayClass .byte ∈ aj_TB := (aj_in 325 (by decide +kernel) rfl)
theorem cu_RJ5_83 : aj_cu RJ5 83 RJ4 RJ5 ⟨RJ5, "isLatin1", "()Z"⟩ yJ5_isLatin1_aae02 := ⟨⟨(aj_in 368 (by decide +kernel) rfl), (aj_in 370 (by decide +kernel) rfl), (aj_in 371 (by decide +kernel) rfl), (aj_in 369 (by decide +kernel) rfl), (aj_in 71 (by decide +kernel) rfl)⟩, rfl, by decide, by decide⟩
theorem cu_RJ0_552 : aj_cu RJ0 552 RJ4 RJ5 ⟨RJ5, "getValue", "()[B"⟩ yJ5_getValue_6d5f1 := ⟨⟨(aj_in 468 (by decide +kernel) rfl), (aj_in 470 (by decide +kernel) rfl), (aj_in 471 (by decide +kernel) rfl), (aj_in 469 (by decide +kernel) rfl), (aj_in 71 (by decide +kernel) rfl)⟩, rfl, by decide, by decide⟩
theorem cu_RJ0_1047 : aj_cu RJ0 1047 RJ4 RJ5 ⟨RJ5, "isLatin1", "()Z"⟩ yJ5_isLatin1_aae02 := ⟨⟨(aj_in 481 (by decide +kernel) rfl), (aj_in 370 (by decide +kernel) rfl), (aj_in 371 (by decide +kernel) rfl), (aj_in 369 (by decide +kernel) rfl), (aj_in 71 (by decide +kernel) rfl)⟩, rfl, by decide, by decide⟩
theorem cu_RJ5_100 : aj_cu RJ5 100 RJ4 RJ5 ⟨RJ5, "ensureCapacityInternal", "(I)V"⟩ yJ5_ensureCapacityInternal_d00df := ⟨⟨(aj_in 333 (by decide +kernel) rfl), (aj_in 1542 (by decide +kernel) rfl), aj_inx 0 rfl rfl, (aj_in 335 (by decide +kernel) rfl), (aj_in 71 (by decide +kernel) rfl)⟩, rfl, by decide, by decide⟩
theorem cu_RJ5_104 : aj_cu RJ5 104 RJ4 RJ5 ⟨RJ5, "newCapacity", "(I)I"⟩ yJ5_newCapacity_0f7a4 := ⟨⟨(aj_in 337 (by decide +kernel) rfl), (aj_in 1543 (by decide +kernel) rfl), aj_inx 1 rfl rfl, (aj_in 339 (by decide +kernel) rfl), (aj_in 71 (by decide +kernel) rfl)⟩, rfl, by decide, by decide⟩
theorem cu_RJ5_208 : aj_cu RJ5 208 RJ4 RJ5 ⟨RJ5, "putStringAt", "(ILjava/lang/String;)V"⟩ yJ5_putStringAt_47b60 := ⟨⟨(aj_in 558 (by decide +kernel) rfl), (aj_in 1549 (by decide +kernel) rfl), aj_inx 2 rfl rfl, (aj_in 560 (by decide +kernel) rfl), (aj_in 71 (by decide +kernel) rfl)⟩, rfl, by decide, by decide⟩
theorem cu_RJ5_397 : aj_cu RJ5 397 RJ4 RJ5 ⟨RJ5, "inflateIfNeededFor", "(Ljava/lang/String;)V"⟩ yJ5_inflateIfNeededFor_a7421 := ⟨⟨(aj_in 562 (by decide +kernel) rfl), (aj_in 1550 (by decide +kernel) rfl), aj_inx 3 rfl rfl, (aj_in 564 (by decide +kernel) rfl), (aj_in 71 (by decide +kernel) rfl)⟩, rfl, by decide, by decide⟩
theorem co_RJ0_549 : aj_co RJ0 549 RJ4 RJ5 ⟨RJ5, "length", "()I"⟩ yJ4_length_8abf5 cJ5_length_8abf5 1 (some .int) := ⟨⟨(aj_in 473 (by decide +kernel) rfl), (aj_in 475 (by decide +kernel) rfl), (aj_in 474 (by decide +kernel) rfl), (aj_in 476 (by decide +kernel) rfl), (aj_in 477 (by decide +kernel) rfl), (aj_in 72 (by decide +kernel) rfl)⟩, (aj_in 480 (by decide +kernel) rfl), by decide, by decide⟩
def t_J4_length_8abf5 : List (Nat × Instr × Nat) := [(0, .aload_n 0, 1), (1, .invokespecial 343, 3), (4, .ireturn, 1)]
theorem T_J4_length_8abf5 : ∀ e ∈ t_J4_length_8abf5, decode cJ4_length_8abf5 e.1 = .ok e.2 := by decide +kernel
theorem cd_J4_length_8abf5 : aj_cd yJ4_length_8abf5 cJ4_length_8abf5 1 (some .int) 0 := ⟨(aj_in 478 (by decide +kernel) rfl), (aj_in 72 (by decide +kernel) rfl), by decide +kernel⟩
theorem su_RJ4_50 : aj_su RJ4 50 yJ5_append_3fe6f := ⟨⟨(aj_in 330 (by decide +kernel) rfl), (aj_in 1541 (by decide +kernel) rfl), (aj_in 324 (by decide +kernel) rfl), (aj_in 331 (by decide +kernel) rfl), (aj_in 71 (by decide +kernel) rfl)⟩, by decide⟩
theorem su_RJ4_53 : aj_su RJ4 53 yJ5_append_c97b9 := ⟨⟨(aj_in 425 (by decide +kernel) rfl), (aj_in 1545 (by decide +kernel) rfl), (aj_in 324 (by decide +kernel) rfl), (aj_in 426 (by decide +kernel) rfl), (aj_in 71 (by decide +kernel) rfl)⟩, by decide⟩
theorem su_RJ4_29 : aj_su RJ4 29 yJ5_append_cf1ce := ⟨⟨(aj_in 539 (by decide +kernel) rfl), (aj_in 1547 (by decide +kernel) rfl), (aj_in 324 (by decide +kernel) rfl), (aj_in 540 (by decide +kernel) rfl), (aj_in 71 (by decide +kernel) rfl)⟩, by decide⟩
theorem su_RJ4_343 : aj_su RJ4 343 yJ5_length_8abf5 := ⟨⟨(aj_in 479 (by decide +kernel) rfl), (aj_in 475 (by decide +kernel) rfl), (aj_in 324 (by decide +kernel) rfl), (aj_in 474 (by decide +kernel) rfl), (aj_in 71 (by decide +kernel) rfl)⟩, by decide⟩
end
section
-- TEXTS: lemmas
theorem nd_of : ∀ {l : List Nat}, l.Nodup → va_nd l = true := by
  intro l
  induction l with
  | nil => intro _; rfl
  | cons a l ih =>
    intro h
    obtain ⟨h1, h2⟩ := List.nodup_cons.mp h
    simp [va_nd, h1, ih h2]
theorem keep_map (X Y : List Nat) : (List.range X.length).map (fun k => (X ++ Y)[k]?) = X.map some := by
  refine List.ext_getElem? (fun k => ?_)
  rw [List.getElem?_map, List.getElem?_map]
  by_cases h : k < X.length
  · rw [List.getElem?_range h, List.getElem?_eq_getElem h]
    show some ((X ++ Y)[k]?) = _
    rw [List.getElem?_append_left h, List.getElem?_eq_getElem h]; rfl
  · rw [List.getElem?_eq_none (by simpa using h), List.getElem?_eq_none (by simpa using h)]; rfl
theorem keep_pre (X Y : List Nat) : ∃ is : List Nat, va_nd is = true ∧ is.map (fun k => (X ++ Y)[k]?) = X.map some := ⟨List.range X.length, nd_of List.nodup_range, keep_map X Y⟩
theorem keep_mid (X : List Nat) (b c : Nat) : ∃ is : List Nat, va_nd is = true ∧ is.map (fun k => ((X ++ [b]) ++ [c])[k]?) = (X ++ [c]).map some := by
  refine ⟨List.range X.length ++ [X.length + 1], nd_of (List.nodup_append.mpr ⟨List.nodup_range, by simp, ?_⟩), ?_⟩
  · intro a ha b hb
    have := List.mem_range.mp ha
    simp at hb
    omega
  · rw [List.map_append, List.map_append, List.append_assoc, keep_map X ([b] ++ [c])]
    simp
theorem sbl : ∀ a, a < 71 → ∀ b, b < 71 → ((nI a - nI b ≤ 0) ↔ a ≤ b) := by decide +kernel
theorem sb_nI {a b : Nat} (h : b ≤ a) : nI a - nI b = nI (a - b) := by
  unfold nI
  rw [← Int32.ofNat_sub _ _ h]
theorem sr0 (x : Int32) : x >>> ((0 : Int32) &&& 31) = x := by
  have : ((0 : Int32) &&& 31) = 0 := rfl
  rw [this]; exact Int32.shiftRight_zero
theorem sl0 (x : Int32) : x <<< ((0 : Int32) &&& 31) = x := by
  have : ((0 : Int32) &&& 31) = 0 := rfl
  rw [this]; exact Int32.shiftLeft_zero
def sz (i : Nat) : Nat := if i < 10 then 1 else 2
theorem sz_le (i : Nat) : 1 ≤ sz i ∧ sz i ≤ 2 := by unfold sz; split <;> omega
theorem szA : ∀ i, i < 12 → (-nI i ≤ -10 ↔ 10 ≤ i) := by decide +kernel
theorem szB : ∀ i, i < 12 → ¬ (-nI i ≤ (10 * -10 : Int32)) := by decide +kernel
theorem szC : ∀ i, i < 12 → (-100 : Int32) < -nI i := by decide +kernel
theorem szD : ∀ i, i < 12 → ((-9 : Int32) ≤ -nI i ↔ i < 10) := by decide +kernel
theorem szN (i : Nat) : - - nI i = nI i := Int32.neg_neg
theorem mx_nI {a b : Nat} (h : a ≤ b) (hb : b < 2 ^ 31) : (if nI a < nI b then nI b else nI a) = nI b := by
  by_cases e : nI a < nI b
  · rw [if_pos e]
  · rw [if_neg e]
    have : ¬ a < b := fun z => e ((nI_ltI (by omega) hb).mpr z)
    rw [show a = b by omega]
theorem mn_nI {a b : Nat} (h : b ≤ a) (hb : a < 2 ^ 31) : (if nI b < nI a then nI b else nI a) = nI b := by
  by_cases e : nI b < nI a
  · rw [if_pos e]
  · rw [if_neg e]
    have : ¬ b < a := fun z => e ((nI_ltI (by omega) hb).mpr z)
    rw [show a = b by omega]
theorem p1_nI {p : Nat} (h : 1 ≤ p) : nI p + Int32.ofInt (-1) = nI (p - 1) := by
  have : nI p = nI (p - 1 + 1) := by rw [show p - 1 + 1 = p by omega]
  rw [this, nI_succ]
  show nI (p - 1) + 1 + (-1) = nI (p - 1)
  rw [Int32.add_assoc]
  show nI (p - 1) + 0 = _
  exact Int32.add_zero _
-- rows of bytes
def tF (I : Nat → Nat → Int32) (v : Nat) : Prop := ∀ j, fits .byte (.int (I v j)) = true
theorem nar_fits (x : Int32) : fits .byte (.int (vp_nar .byte x)) = true := by
  show fits .byte (.int x.toInt8.toInt32) = true
  have h1 := Int8.toInt_lt x.toInt8
  have h2 := Int8.le_toInt x.toInt8
  have e : x.toInt8.toInt32.toInt = x.toInt8.toInt := Int8.toInt_toInt32 _
  simp only [fits, Bool.and_eq_true, decide_eq_true_eq, Int32.le_iff_toInt_le, e]
  constructor
  · show (-128 : Int) ≤ _
    omega
  · show _ ≤ (127 : Int)
    omega
theorem tF.ur {I : Nat → Nat → Int32} {w : Nat} {g : Nat → Int32} (h : ∀ j, fits .byte (.int (g j)) = true) : tF (aj_ur I w g) w := fun j => by rw [aj_ur_s]; exact h j
theorem tF.u {I : Nat → Nat → Int32} {w k : Nat} {x : Int32} (h : tF I w) : tF (aj_u I w k (vp_nar .byte x)) w := fun j => by
  by_cases e : j = k
  · subst e; rw [aj_u_s]; exact nar_fits x
  · rw [aj_u_k _ _ _ e]; exact h j
theorem tF.o {I I1 : Nat → Nat → Int32} {w : Nat} (h : tF I w) (e : I1 w = I w) : tF I1 w := fun j => by rw [e]; exact h j
theorem tF.z {I : Nat → Nat → Int32} {w : Nat} : tF (aj_z I w 0) w := fun j => by rw [aj_z_s]; rfl
theorem cpy_fits {f g : Nat → Int32} {a b n : Nat} (hf : ∀ j, fits .byte (.int (f j)) = true) (hg : ∀ j, fits .byte (.int (g j)) = true) (j : Nat) : fits .byte (.int (va_cpy f g a b n j)) = true := by
  unfold va_cpy
  by_cases e : b ≤ j ∧ j < b + n
  · rw [if_pos e]; exact hf _
  · rw [if_neg e]; exact hg _
-- a builder B of Latin1 letters: n of them, in the row v
def tB (B v n : Nat) (I : Nat → Nat → Int32) (V : Nat → Nat → Option Nat) (N : Nat → Nat) (L : List Nat) : Prop :=
  (B ∈ L ∧ v ∈ L ∧ v ≠ B) ∧ V B 0 = some v ∧ (∀ j, j ≠ 0 → V B j = none) ∧ I B 1 = 0 ∧ I B 3 = nI n ∧ n ≤ N v ∧ (N v = 16 ∨ N v = 34 ∨ N v = 70) ∧ tF I v
def tA (B v w n m : Nat) (I : Nat → Nat → Int32) (V : Nat → Nat → Option Nat) (N : Nat → Nat) (L : List Nat) (I1 : Nat → Nat → Int32) (V1 : Nat → Nat → Option Nat) (N1 : Nat → Nat) (L1 : List Nat) : Prop :=
  ∃ v1, (v1 = v ∧ L1 = L ∨ v1 = w ∧ L1 = L ++ [w]) ∧ tB B v1 n I1 V1 N1 L1 ∧ m ≤ N1 v1 ∧ (∀ a, a ≠ B → a ≠ v → a ≠ w → I1 a = I a) ∧ (∀ a, a ≠ B → V1 a = V a) ∧ (∀ a, a ≠ w → N1 a = N a)
section TT
variable {B v w n m v1 k : Nat} {I I1 I2 : Nat → Nat → Int32} {V V1 : Nat → Nat → Option Nat} {N N1 : Nat → Nat} {L L1 : List Nat}
theorem tA.rf (h : tB B v n I V N L) (hm : m ≤ N v) : tA B v w n m I V N L I V N L := ⟨v, Or.inl ⟨rfl, rfl⟩, h, hm, fun _ _ _ _ => rfl, fun _ _ => rfl, fun _ _ => rfl⟩
theorem tA.gr (h : tB B v n I V N L) (hBw : B ≠ w) (h34 : N v ≤ 34) (hm : m ≤ N v + (N v + 2)) (e1 : ∀ a, a ≠ w → I1 a = I a) (f1 : tF I1 w) : tA B v w n m I V N L I1 (aj_u V B 0 (some w)) (aj_ur N w (N v + (N v + 2))) (L ++ [w]) := by
  obtain ⟨⟨hBL, hvL, hvB⟩, hV0, hVn, hc, hn, hnN, hN, hF⟩ := h
  refine ⟨w, Or.inr ⟨rfl, rfl⟩, ⟨⟨List.mem_append_left _ hBL, List.mem_append_right _ (List.mem_singleton_self _), Ne.symm hBw⟩, aj_u_s _ _ _ _, fun j hj => (aj_u_k _ _ _ hj).trans (hVn j hj), by rw [e1 B hBw]; exact hc, by rw [e1 B hBw]; exact hn, by rw [aj_ur_s]; omega, by rw [aj_ur_s]; omega, f1⟩, by rw [aj_ur_s]; exact hm, fun a _ _ h3 => e1 a h3, fun a ha => aj_u_o _ _ ha, fun a ha => aj_ur_n _ _ ha⟩
theorem tA.put (hA : tA B v w n m I V N L I1 V1 N1 L1) (hx : ∀ v1, tB B v1 n I1 V1 N1 L1 → m ≤ N1 v1 → (v1 = v ∨ v1 = w) → k ≤ N1 v1 ∧ (∀ a, a ≠ B → a ≠ v1 → I2 a = I1 a) ∧ I2 B 1 = 0 ∧ I2 B 3 = nI k ∧ tF I2 v1) : tA B v w k k I V N L I2 V1 N1 L1 := by
  obtain ⟨v1, hc, hT, hm, hI, hV, hN⟩ := hA
  obtain ⟨x1, x2, x3, x4, x5⟩ := hx v1 hT hm (hc.elim (fun z => Or.inl z.1) (fun z => Or.inr z.1))
  refine ⟨v1, hc, ⟨hT.1, hT.2.1, hT.2.2.1, x3, x4, x1, hT.2.2.2.2.2.2.1, x5⟩, x1, fun a h1 h2 h3 => ?_, hV, hN⟩
  rw [x2 a h1 (by rcases hc with z | z <;> rw [z.1] <;> assumption)]
  exact hI a h1 h2 h3
theorem tA.row (hA : tA B v w n m I V N L I1 V1 N1 L1) (hv : v % 16 = 10) (hw : w % 16 = 10) : ∃ v1, v1 % 16 = 10 ∧ tB B v1 n I1 V1 N1 L1 ∧ m ≤ N1 v1 ∧ (v1 = v ∨ v1 = w) := by
  obtain ⟨v1, hc, hT, hm, -⟩ := hA
  refine ⟨v1, ?_, hT, hm, hc.elim (fun z => Or.inl z.1) (fun z => Or.inr z.1)⟩
  rcases hc with z | z <;> rw [z.1] <;> assumption
theorem tB.u1 (hT : tB B v n I V N L) : V B 0 = some v := hT.2.1
theorem tA.V0 (hT1 : tB B v1 n I1 V1 N1 L1) (hT2 : tB B v n I1 V1 N1 L1) : v = v1 := Option.some.inj (hT2.2.1.symm.trans hT1.2.1)
end TT
end
section
set_option maxRecDepth 100000 in
set_option maxHeartbeats 800000 in
theorem s_J1_canEncode_fc78d {l : Launch} {I : Nat → Nat → Int32} {J : Nat → Nat → Int64} {V : Nat → Nat → Option Nat} {N : Nat → Nat} {L : List Nat} {K : aj_K} (hK : K (.inl (some (.int 1))) I J V N L) : aj_M l yJ1_canEncode_fc78d (aj_wc yJ1_canEncode_fc78d cJ1_canEncode_fc78d 1 (some .boolean)) (aj_rm 1 0 0) [] [.int 32] I J V N L K := by
  refine aj_intro (tbl := t_J1_canEncode_fc78d) (lv0 := [some (.int 32)]) (by decide) T_J1_canEncode_fc78d aj_f0 (Nat.le_of_ble_eq_true rfl) rfl ?_
  intro G hl C Z NX hnm hGL hGF
  have C : aj_C G cJ1_canEncode_fc78d t_J1_canEncode_fc78d RJ1 (aj_rm 1 0 0) 1 := C
  refine y_iload0 (q := 1) C 0 rfl rfl ?_
  refine x_sipush (q := 4) C 1 (n := (255)) (v := (255)) rfl rfl rfl ?_
  refine x_icmp_gt (q := 7) (t := 11) C 2 rfl (by decide) rfl (fun c1 => ?_) (fun c1 => ?_)
  · skip
    exact absurd c1 (by decide)
  · skip
    refine x_iconst (q := 8) C 3 (n := (1)) (v := (1)) rfl rfl rfl ?_
    refine x_goto (t := 12) C 4 rfl (by decide) ?_
    exact x_ireturn C Z 6 rfl rfl rfl (hK)
set_option maxRecDepth 100000 in
set_option maxHeartbeats 800000 in
theorem s_J5_isLatin1_aae02 {l : Launch} {I : Nat → Nat → Int32} {J : Nat → Nat → Int64} {V : Nat → Nat → Option Nat} {N : Nat → Nat} {L : List Nat} {K : aj_K} {B : Nat} (hBk : B % 16 = 1) (hBL : B ∈ L) (hc : I B 1 = 0) (hK : K (.inl (some (.int 1))) I J V N L) : aj_M l yJ5_isLatin1_aae02 (aj_wc yJ5_isLatin1_aae02 cJ5_isLatin1_aae02 1 (some .boolean)) (aj_rm 1 0 0) [] [.ref B] I J V N L K := by
  refine aj_intro (tbl := t_J5_isLatin1_aae02) (lv0 := [some (.ref B)]) (by decide) T_J5_isLatin1_aae02 aj_f0 (Nat.le_of_ble_eq_true rfl) rfl ?_
  intro G hl C Z NX hnm hGL hGF
  have C : aj_C G cJ5_isLatin1_aae02 t_J5_isLatin1_aae02 RJ5 (aj_rm 1 0 0) 1 := C
  refine x_getCS (q := 3) C 0 rfl rfl gs_RJ5_18 ?_
  refine x_if_eq (q := 6) (t := 17) C 1 rfl (by decide) rfl (fun c1 => ?_) (fun c1 => ?_)
  · skip
    exact absurd c1 (by decide)
  · skip
    refine y_aload0 (q := 7) C 2 rfl rfl ?_
    refine x_getI (q := 10) C 3 rfl rfl fl_RJ5_22 (fun _ _ => rfl) (by first | assumption | rfl | decide | exact hB _ (by decide)) (by first | assumption | rfl | decide | exact hB _ (by decide)) ?_
    rw [hc]
    refine x_if_ne (q := 13) (t := 17) C 4 rfl (by decide) rfl (fun c2 => ?_) (fun c2 => ?_)
    · skip
      exact absurd rfl c2
    · skip
      refine x_iconst (q := 14) C 5 (n := (1)) (v := (1)) rfl rfl rfl ?_
      refine x_goto (t := 18) C 6 rfl (by decide) ?_
      exact x_ireturn C Z 8 rfl rfl rfl (hK)
set_option maxRecDepth 100000 in
set_option maxHeartbeats 800000 in
theorem s_J5_length_8abf5 {l : Launch} {I : Nat → Nat → Int32} {J : Nat → Nat → Int64} {V : Nat → Nat → Option Nat} {N : Nat → Nat} {L : List Nat} {K : aj_K} {B : Nat} (hBk : B % 16 = 1) (hBL : B ∈ L) (hK : K (.inl (some (.int (I B 3)))) I J V N L) : aj_M l yJ5_length_8abf5 (aj_wc yJ5_length_8abf5 cJ5_length_8abf5 1 (some .int)) (aj_rm 1 0 0) [] [.ref B] I J V N L K := by
  refine aj_intro (tbl := t_J5_length_8abf5) (lv0 := [some (.ref B)]) (by decide) T_J5_length_8abf5 aj_f0 (Nat.le_of_ble_eq_true rfl) rfl ?_
  intro G hl C Z NX hnm hGL hGF
  have C : aj_C G cJ5_length_8abf5 t_J5_length_8abf5 RJ5 (aj_rm 1 0 0) 1 := C
  refine y_aload0 (q := 1) C 0 rfl rfl ?_
  refine x_getI (q := 4) C 1 rfl rfl fl_RJ5_79 (fun _ _ => rfl) (by first | assumption | rfl | decide | exact hB _ (by decide)) (by first | assumption | rfl | decide | exact hB _ (by decide)) ?_
  exact x_ireturn C Z 2 rfl rfl rfl (hK)
set_option maxRecDepth 100000 in
set_option maxHeartbeats 800000 in
theorem s_J5_getValue_6d5f1 {l : Launch} {I : Nat → Nat → Int32} {J : Nat → Nat → Int64} {V : Nat → Nat → Option Nat} {N : Nat → Nat} {L : List Nat} {K : aj_K} {B v : Nat} (hBk : B % 16 = 1) (hBL : B ∈ L) (hV0 : V B 0 = some v) (hK : K (.inl (some (.ref v))) I J V N L) : aj_M l yJ5_getValue_6d5f1 (aj_wc yJ5_getValue_6d5f1 cJ5_getValue_6d5f1 1 (some (.array .byte))) (aj_rm 1 0 0) [] [.ref B] I J V N L K := by
  refine aj_intro (tbl := t_J5_getValue_6d5f1) (lv0 := [some (.ref B)]) (by decide) T_J5_getValue_6d5f1 aj_f0 (Nat.le_of_ble_eq_true rfl) rfl ?_
  intro G hl C Z NX hnm hGL hGF
  have C : aj_C G cJ5_getValue_6d5f1 t_J5_getValue_6d5f1 RJ5 (aj_rm 1 0 0) 1 := C
  refine y_aload0 (q := 1) C 0 rfl rfl ?_
  refine x_getR (q := 4) C 1 rfl rfl fl_RJ5_15 hV0 (fun _ _ => rfl) (by first | assumption | rfl | decide | exact hB _ (by decide)) (by first | assumption | rfl | decide | exact hB _ (by decide)) ?_
  exact x_areturn C Z 2 rfl rfl (by first | exact Or.inl ⟨_, rfl⟩ | exact Or.inr ⟨_, rfl⟩) (hK)
set_option maxRecDepth 100000 in
theorem s_J4_length_8abf5 {l : Launch} {I : Nat → Nat → Int32} {J : Nat → Nat → Int64} {V : Nat → Nat → Option Nat} {N : Nat → Nat} {L : List Nat} {K : aj_K} {B : Nat} (hBk : B % 16 = 1) (hBL : B ∈ L) (hK : K (.inl (some (.int (I B 3)))) I J V N L) : aj_M l yJ4_length_8abf5 (aj_wc yJ4_length_8abf5 cJ4_length_8abf5 1 (some .int)) (aj_rm 2 0 0) [] [.ref B] I J V N L K := by
  refine aj_intro (tbl := t_J4_length_8abf5) (lv0 := [some (.ref B)]) (by decide) T_J4_length_8abf5 aj_f0 (Nat.le_of_ble_eq_true rfl) rfl ?_
  intro G hl C Z NX hnm hGL hGF
  have C : aj_C G cJ4_length_8abf5 t_J4_length_8abf5 RJ4 (aj_rm 2 0 0) 1 := C
  refine y_aload0 (q := 1) C 0 rfl rfl ?_
  refine y_P0 (q := 4) C 1 rfl rfl su_RJ4_343 cd_J5_length_8abf5 ⟨by rw [hBk]; decide, by rw [hBk]; rfl⟩ hBL (by decide) (by decide) (Nat.le_of_ble_eq_true rfl) (Nat.zero_add _).symm (Nat.zero_add _).symm aj_f0 aj_f0 (s_J5_length_8abf5 hBk hBL ?_)
  show aj_X G 4 _ _ _ _ _ _ _ _ _
  exact x_ireturn C Z 2 rfl rfl rfl (hK)
set_option maxRecDepth 100000 in
set_option maxHeartbeats 800000 in
theorem s_J8_newLength_cabcc {l : Launch} {I : Nat → Nat → Int32} {J : Nat → Nat → Int64} {V : Nat → Nat → Option Nat} {N : Nat → Nat} {L : List Nat} {K : aj_K} {o g p : Nat} (ho : o ≤ 100) (hg : g ≤ p) (hp : 0 < p ∧ p ≤ 100) (hK : K (.inl (some (.int (nI (o + p))))) I J V N L) : aj_M l yJ8_newLength_cabcc (aj_wc yJ8_newLength_cabcc cJ8_newLength_cabcc 4 (some .int)) (aj_rm 1 0 0) [] [.int (nI o), .int (nI g), .int (nI p)] I J V N L K := by
  refine aj_intro (tbl := t_J8_newLength_cabcc) (lv0 := [some (.int (nI o)), some (.int (nI g)), some (.int (nI p)), none]) (by decide) T_J8_newLength_cabcc aj_f0 (Nat.le_of_ble_eq_true rfl) rfl ?_
  intro G hl C Z NX hnm hGL hGF
  have C : aj_C G cJ8_newLength_cabcc t_J8_newLength_cabcc RJ8 (aj_rm 1 0 0) 4 := C
  refine y_iload0 (q := 1) C 0 rfl rfl ?_
  refine y_iload1 (q := 2) C 1 rfl rfl ?_
  refine y_iload2 (q := 3) C 2 rfl rfl ?_
  refine x_max (q := 6) C 3 rfl rfl mw_RJ8_194 ⟨by decide, Nat.le_of_ble_eq_true rfl⟩ ?_
  rw [mx_nI hg (by omega)]
  refine x_iadd (q := 7) C 4 rfl rfl ?_
  rw [nI_add]
  refine y_istore3 (q := 8) C 5 rfl rfl (Nat.le_of_ble_eq_true rfl) rfl ?_
  refine x_iconst (q := 9) C 6 (n := (0)) (v := (0)) rfl rfl rfl ?_
  refine y_iload3 (q := 10) C 7 rfl rfl ?_
  refine x_icmp_ge (q := 13) (t := 21) C 8 rfl (by decide) rfl (fun c1 => ?_) (fun c1 => ?_)
  · skip
    exact absurd c1 (nI_nle (by omega) (by omega))
  · skip
    refine y_iload3 (q := 14) C 9 rfl rfl ?_
    refine x_ldc (q := 16) C 10 kc_RJ8_200 rfl rfl ?_
    refine x_icmp_gt (q := 19) (t := 21) C 11 rfl (by decide) rfl (fun c2 => ?_) (fun c2 => ?_)
    · skip
      exact absurd ((nI_ltI (a := 2147483639) (b := o + p) (by omega) (by omega)).mp c2) (by omega)
    · skip
      refine y_iload3 (q := 20) C 12 rfl rfl ?_
      exact x_ireturn C Z 13 rfl rfl rfl (hK)
set_option maxRecDepth 100000 in
set_option maxHeartbeats 800000 in
theorem s_J5_newCapacity_0f7a4 {l : Launch} {I : Nat → Nat → Int32} {J : Nat → Nat → Int64} {V : Nat → Nat → Option Nat} {N : Nat → Nat} {L : List Nat} {K : aj_K} {B v n : Nat} (hBk : B % 16 = 1) (hvk : v % 16 = 10) (hT : tB B v n I V N L) {m : Nat} (hm : N v < m ∧ m ≤ 70 ∧ m ≤ N v + 2) (hK : K (.inl (some (.int (nI (N v + (N v + 2)))))) I J V N L) : aj_M l yJ5_newCapacity_0f7a4 (aj_wc yJ5_newCapacity_0f7a4 cJ5_newCapacity_0f7a4 6 (some .int)) (aj_rm 2 0 0) [] [.ref B, .int (nI m)] I J V N L K := by
  refine aj_intro (tbl := t_J5_newCapacity_0f7a4) (lv0 := [some (.ref B), some (.int (nI m)), none, none, none, none]) (by decide) T_J5_newCapacity_0f7a4 aj_f0 (Nat.le_of_ble_eq_true rfl) rfl ?_
  intro G hl C Z NX hnm hGL hGF
  have C : aj_C G cJ5_newCapacity_0f7a4 t_J5_newCapacity_0f7a4 RJ5 (aj_rm 2 0 0) 6 := C
  have hT0 := hT
  obtain ⟨⟨hBL, hvL, hvB⟩, hV0, hVn, hc, hn, hnN, hN, hF⟩ := hT
  refine y_aload0 (q := 1) C 0 rfl rfl ?_
  refine x_getR (q := 4) C 1 rfl rfl fl_RJ5_15 hV0 (fun _ _ => rfl) (by first | assumption | rfl | decide | exact hB _ (by decide)) (by first | assumption | rfl | decide | exact hB _ (by decide)) ?_
  refine x_alenB (q := 5) C 2 rfl rfl (by first | assumption | rfl | decide | exact hB _ (by decide)) (by first | assumption | rfl | decide | exact hB _ (by decide)) ?_
  show aj_X G 5 _ (.int (nI (N v)) :: _) _ _ _ _ _ _ _
  refine y_istore2 (q := 6) C 3 rfl rfl (Nat.le_of_ble_eq_true rfl) rfl ?_
  refine y_iload1 (q := 7) C 4 rfl rfl ?_
  refine y_aload0 (q := 8) C 5 rfl rfl ?_
  refine x_getI (q := 11) C 6 rfl rfl fl_RJ5_22 (fun _ _ => rfl) (by first | assumption | rfl | decide | exact hB _ (by decide)) (by first | assumption | rfl | decide | exact hB _ (by decide)) ?_
  rw [hc]
  refine x_ishl (q := 12) C 7 rfl rfl ?_
  rw [sl0]
  refine y_istore3 (q := 13) C 8 rfl rfl (Nat.le_of_ble_eq_true rfl) rfl ?_
  refine y_iload3 (q := 14) C 9 rfl rfl ?_
  refine y_iload2 (q := 15) C 10 rfl rfl ?_
  refine x_isub (q := 16) C 11 rfl rfl ?_
  rw [sb_nI (Nat.le_of_lt hm.1)]
  refine y_istore4 (q := 18) C 12 rfl rfl (Nat.le_of_ble_eq_true rfl) rfl ?_
  refine y_iload2 (q := 19) C 13 rfl rfl ?_
  refine y_iload4 (q := 21) C 14 rfl rfl ?_
  refine y_iload2 (q := 22) C 15 rfl rfl ?_
  refine x_iconst (q := 23) C 16 (n := (2)) (v := (2)) rfl rfl rfl ?_
  refine y_aload0 (q := 24) C 17 rfl rfl ?_
  refine x_getI (q := 27) C 18 rfl rfl fl_RJ5_22 (fun _ _ => rfl) (by first | assumption | rfl | decide | exact hB _ (by decide)) (by first | assumption | rfl | decide | exact hB _ (by decide)) ?_
  rw [hc]
  refine x_ishl (q := 28) C 19 rfl rfl ?_
  rw [sl0]
  refine x_iadd (q := 29) C 20 rfl rfl ?_
  rw [show nI (N v) + 2 = nI (N v + 2) from nI_add _ 2]
  refine y_cS3 (q := 32) C 21 rfl rfl ml_RJ5_114 cd_J8_newLength_cabcc sv_J8_newLength_cabcc (by decide) (by decide) (Nat.le_of_ble_eq_true rfl) (s_J8_newLength_cabcc (o := N v) (g := m - N v) (p := N v + 2) (by omega) (by omega) (by omega) ?_)
  show aj_X G 32 _ _ _ _ _ _ _ _ _
  refine y_istore5 (q := 34) C 22 rfl rfl (Nat.le_of_ble_eq_true rfl) rfl ?_
  refine y_iload5 (q := 36) C 23 rfl rfl ?_
  refine x_ldc (q := 38) C 24 kc_RJ5_39 rfl rfl ?_
  refine x_icmp_ne (q := 41) (t := 51) C 25 rfl (by decide) rfl (fun c1 => ?_) (fun c1 => ?_)
  · skip
    refine y_iload5 (q := 53) C 31 rfl rfl ?_
    refine y_aload0 (q := 54) C 32 rfl rfl ?_
    refine x_getI (q := 57) C 33 rfl rfl fl_RJ5_22 (fun _ _ => rfl) (by first | assumption | rfl | decide | exact hB _ (by decide)) (by first | assumption | rfl | decide | exact hB _ (by decide)) ?_
    rw [hc]
    refine x_ishr (q := 58) C 34 rfl rfl ?_
    rw [sr0]
    exact x_ireturn C Z 35 rfl rfl rfl (hK)
  · skip
    exact absurd ((nI_eq (a := N v + (N v + 2)) (b := 2147483647) (by omega) (by omega)).mp c1) (by omega)
set_option maxRecDepth 100000 in
set_option maxHeartbeats 800000 in
theorem s_J7_copyOf_9075b {l : Launch} {I : Nat → Nat → Int32} {J : Nat → Nat → Int64} {V : Nat → Nat → Option Nat} {N : Nat → Nat} {L : List Nat} {K : aj_K} {v w m : Nat} (hvk : v % 16 = 10) (hwk : w % 16 = 10) (hvL : v ∈ L) (hwL : w ∉ L) (hwV : ∀ i ∈ L, ∀ j, V i j ≠ some w) (hm : N v < m ∧ m ≤ 70) (hF : tF I v) (hK : ∀ I1, (∀ a, a ≠ w → I1 a = I a) → tF I1 w → K (.inl (some (.ref w))) I1 J V (aj_ur N w m) (L ++ [w])) : aj_M l yJ7_copyOf_9075b (aj_wc yJ7_copyOf_9075b cJ7_copyOf_9075b 3 (some (.array .byte))) (aj_rm 1 1 70) [w] [.ref v, .int (nI m)] I J V N L K := by
  refine aj_intro (tbl := t_J7_copyOf_9075b) (lv0 := [some (.ref v), some (.int (nI m)), none]) (by decide) T_J7_copyOf_9075b (fun i h => by cases List.mem_singleton.mp h; unfold aj_sp; omega) (Nat.le_of_ble_eq_true rfl) rfl ?_
  intro G hl C Z NX hnm hGL hGF
  have C : aj_C G cJ7_copyOf_9075b t_J7_copyOf_9075b RJ7 (aj_rm 1 1 70) 3 := C
  have hvw : v ≠ w := fun e => hwL (e ▸ hvL)
  refine y_iload1 (q := 1) C 0 rfl rfl ?_
  refine y_aload0 (q := 2) C 1 rfl rfl ?_
  refine x_alenB (q := 3) C 2 rfl rfl (by first | assumption | rfl | decide | exact List.mem_append_left _ hvL) (by first | assumption | rfl | decide | exact List.mem_append_left _ hvL) ?_
  show aj_X G 3 _ (.int (nI (N v)) :: _) _ _ _ _ _ _ _
  refine x_icmp_ne (q := 6) (t := 14) C 3 rfl (by decide) rfl (fun c1 => ?_) (fun c1 => ?_)
  · skip
    refine y_iload1 (q := 15) C 8 rfl rfl ?_
    refine x_newB (q := 17) (bc' := 0) (bs' := 0) C 9 w (n' := m) (m := 70) rfl rfl ac_byte (nI_pos (by omega)) (nI_clamp (by omega)) (by omega) (by decide) hwk (by rw [hGF]; exact List.mem_singleton_self _) hwL hwV (by refine ⟨?_, ?_⟩ <;> simp [*]) rfl rfl ?_
    refine y_astore2 (q := 18) C 10 rfl rfl (Nat.le_of_ble_eq_true rfl) rfl ?_
    refine y_aload0 (q := 19) C 11 rfl rfl ?_
    refine x_iconst (q := 20) C 12 (n := (0)) (v := (0)) rfl rfl rfl ?_
    refine y_aload2 (q := 21) C 13 rfl rfl ?_
    refine x_iconst (q := 22) C 14 (n := (0)) (v := (0)) rfl rfl rfl ?_
    refine y_aload0 (q := 23) C 15 rfl rfl ?_
    refine x_alenB (q := 24) C 16 rfl rfl (by first | assumption | rfl | decide | exact List.mem_append_left _ hvL) (by first | assumption | rfl | decide | exact List.mem_append_left _ hvL) ?_
    rw [aj_ur_n N m hvw]
    show aj_X G 24 _ (.int (nI (N v)) :: _) _ _ _ _ _ _ _
    refine y_iload1 (q := 25) C 17 rfl rfl ?_
    refine x_min (q := 28) C 18 rfl rfl mw_RJ7_304 ⟨by decide, Nat.le_of_ble_eq_true rfl⟩ ?_
    rw [if_neg (nI_nlt (a := m) (b := N v) (by omega) (by omega))]
    refine x_copyB (q := 31) C 19 rfl rfl acp_RJ7_150 ⟨by decide, Nat.le_of_ble_eq_true rfl⟩ hvk (List.mem_append_left _ hvL) hwk (List.mem_append_right _ (List.mem_singleton_self _)) (by decide) (by decide) (nI_pos (by omega)) (by rw [aj_ur_n N m hvw, nI_clamp (by omega)]; exact Nat.le_of_eq (Nat.zero_add _)) (by rw [aj_ur_s, nI_clamp (by omega)]; exact Nat.le_trans (Nat.le_of_eq (Nat.zero_add _)) (by omega)) (fun t => by rw [aj_z_o I 0 hvw]; exact hF t) ?_
    refine y_aload2 (q := 32) C 20 rfl rfl ?_
    exact x_areturn C Z 21 rfl rfl (by first | exact Or.inl ⟨_, rfl⟩ | exact Or.inr ⟨_, rfl⟩) (hK _ (fun a ha => by rw [aj_ur_n _ _ ha, aj_z_o I 0 ha]) (tF.ur (cpy_fits (fun j => by rw [aj_z_o I 0 hvw]; exact hF j) (tF.z))))
  · skip
    exact absurd ((nI_eq (by omega) (by omega)).mp c1) (by omega)
set_option maxRecDepth 100000 in
set_option maxHeartbeats 800000 in
theorem s_J5_ensureCapacityInternal_d00df {l : Launch} {I : Nat → Nat → Int32} {J : Nat → Nat → Int64} {V : Nat → Nat → Option Nat} {N : Nat → Nat} {L : List Nat} {K : aj_K} {B v w n : Nat} (hBk : B % 16 = 1) (hvk : v % 16 = 10) (hwk : w % 16 = 10) (hwL : w ∉ L) (hwV : ∀ i ∈ L, ∀ j, V i j ≠ some w) (hT : tB B v n I V N L) {m : Nat} (hm : n ≤ m ∧ m ≤ 70 ∧ m ≤ n + 2) (hK : ∀ I1 V1 N1 L1, tA B v w n m I V N L I1 V1 N1 L1 → K (.inl none) I1 J V1 N1 L1) : aj_M l yJ5_ensureCapacityInternal_d00df (aj_wc yJ5_ensureCapacityInternal_d00df cJ5_ensureCapacityInternal_d00df 3 none) (aj_rm 3 1 70) [w] [.ref B, .int (nI m)] I J V N L K := by
  refine aj_intro (tbl := t_J5_ensureCapacityInternal_d00df) (lv0 := [some (.ref B), some (.int (nI m)), none]) (by decide) T_J5_ensureCapacityInternal_d00df (fun i h => by cases List.mem_singleton.mp h; unfold aj_sp; omega) (Nat.le_of_ble_eq_true rfl) rfl ?_
  intro G hl C Z NX hnm hGL hGF
  have C : aj_C G cJ5_ensureCapacityInternal_d00df t_J5_ensureCapacityInternal_d00df RJ5 (aj_rm 3 1 70) 3 := C
  have hT0 := hT
  obtain ⟨⟨hBL, hvL, hvB⟩, hV0, hVn, hc, hn, hnN, hN, hF⟩ := hT
  have hBw : B ≠ w := fun e => hwL (e ▸ hBL)
  have hvw : v ≠ w := fun e => hwL (e ▸ hvL)
  refine y_aload0 (q := 1) C 0 rfl rfl ?_
  refine x_getR (q := 4) C 1 rfl rfl fl_RJ5_15 hV0 (fun _ _ => rfl) (by first | assumption | rfl | decide | exact List.mem_append_left _ hBL) (by first | assumption | rfl | decide | exact List.mem_append_left _ hBL) ?_
  refine x_alenB (q := 5) C 2 rfl rfl (by first | assumption | rfl | decide | exact List.mem_append_left _ hBL) (by first | assumption | rfl | decide | exact List.mem_append_left _ hBL) ?_
  show aj_X G 5 _ (.int (nI (N v)) :: _) _ _ _ _ _ _ _
  refine y_aload0 (q := 6) C 3 rfl rfl ?_
  refine x_getI (q := 9) C 4 rfl rfl fl_RJ5_22 (fun _ _ => rfl) (by first | assumption | rfl | decide | exact List.mem_append_left _ hBL) (by first | assumption | rfl | decide | exact List.mem_append_left _ hBL) ?_
  rw [hc]
  refine x_ishr (q := 10) C 5 rfl rfl ?_
  rw [sr0]
  refine y_istore2 (q := 11) C 6 rfl rfl (Nat.le_of_ble_eq_true rfl) rfl ?_
  refine y_iload1 (q := 12) C 7 rfl rfl ?_
  refine y_iload2 (q := 13) C 8 rfl rfl ?_
  refine x_isub (q := 14) C 9 rfl rfl ?_
  refine x_if_le (q := 17) (t := 38) C 10 rfl (by decide) rfl (fun c1 => ?_) (fun c1 => ?_)
  · skip
    exact x_return C Z 22 rfl rfl (hK _ _ _ _ (tA.rf hT0 ((sbl m (by omega) (N v) (by omega)).mp ‹_›)))
  · skip
    have hlt : N v < m := Nat.not_le.mp (fun z => absurd ((sbl m (by omega) (N v) (by omega)).mpr z) ‹_›)
    refine y_aload0 (q := 18) C 11 rfl rfl ?_
    refine y_aload0 (q := 19) C 12 rfl rfl ?_
    refine x_getR (q := 22) C 13 rfl rfl fl_RJ5_15 hV0 (fun _ _ => rfl) (by first | assumption | rfl | decide | exact List.mem_append_left _ hBL) (by first | assumption | rfl | decide | exact List.mem_append_left _ hBL) ?_
    refine y_aload0 (q := 23) C 14 rfl rfl ?_
    refine y_iload1 (q := 24) C 15 rfl rfl ?_
    refine y_U1 (q := 27) C 16 rfl rfl cu_RJ5_104 cd_J5_newCapacity_0f7a4 ⟨by rw [hBk]; decide, by rw [hBk]; rfl⟩ hBL (by decide) (by decide) (Nat.le_of_ble_eq_true rfl) (Nat.zero_add _).symm (Nat.zero_add _).symm aj_f0 aj_f0 (s_J5_newCapacity_0f7a4 hBk hvk hT0 ⟨hlt, hm.2.1, by omega⟩ ?_)
    show aj_X G 27 _ _ _ _ _ _ _ _ _
    refine y_aload0 (q := 28) C 17 rfl rfl ?_
    refine x_getI (q := 31) C 18 rfl rfl fl_RJ5_22 (fun _ _ => rfl) (by first | assumption | rfl | decide | exact List.mem_append_left _ hBL) (by first | assumption | rfl | decide | exact List.mem_append_left _ hBL) ?_
    rw [hc]
    refine x_ishl (q := 32) C 19 rfl rfl ?_
    rw [sl0]
    refine y_T2 (q := 35) (bc' := 0) (bs' := 0) C 20 rfl rfl ml_RJ5_108 cd_J7_copyOf_9075b sv_J7_copyOf_9075b (by decide) (by decide) (Nat.le_of_ble_eq_true rfl) rfl rfl (by rw [hGF]; exact fun i h => h) (by intro i h; cases List.mem_singleton.mp h; refine ⟨?_, ?_⟩ <;> simp [*]) (s_J7_copyOf_9075b hvk hwk hvL hwL hwV ⟨by omega, by omega⟩ hF ?_)
    intro I1 e1 f1
    show aj_X G 35 _ _ _ _ _ _ _ _ _
    refine x_putR (q := 38) C 21 rfl rfl fl_RJ5_15 rfl (fun _ _ _ => rfl) (fun _ => rfl) (fun _ => rfl) (by first | assumption | rfl | decide | exact List.mem_append_left _ hBL) (by first | assumption | rfl | decide | exact List.mem_append_left _ hBL) ?_
    exact x_return C Z 22 rfl rfl (hK _ _ _ _ (tA.gr hT0 hBw (by omega) (by omega) e1 f1))
end
