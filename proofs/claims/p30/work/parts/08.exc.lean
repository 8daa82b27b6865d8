section AJ5
variable {G : aj_G} {cc : ByteArray} {tbl : List (Nat × Instr × Nat)} {own : String} {R0 : Room} {nL : Nat} {pc q : Nat} {lv lv' : List (Option Value)} {st st' : List Value} {I : Nat → Nat → Int32} {J : Nat → Nat → Int64} {V : Nat → Nat → Option Nat} {N : Nat → Nat} {L : List Nat} {bc bs : Nat}
-- THROWING: new X(text), in Raywalk
def aj_TH : List (String × Nat × Nat × Nat × String) := [("java/lang/IndexOutOfBoundsException", 327, 329, 331, "no such cell"), ("java/lang/IndexOutOfBoundsException", 327, 334, 331, "no such place"), ("java/lang/IllegalArgumentException", 336, 338, 340, "out of its range")]
def aj_sup : List String := ["java/lang/RuntimeException", "java/lang/Exception"]
def aj_B (E : String) : List Cond := .castable E E :: aj_DC.map Cond.declares
theorem aj_th_ok : ∀ x ∈ aj_TH, Bundle.fit x.1 = true ∧ Cond.classLink "Raywalk" x.2.1 x.1 ∈ aj_TB ∧ Cond.initialized x.1 ∈ aj_TB ∧ x.1 ∈ aj_ex ∧ ("Raywalk", x.2.2.1, x.2.2.2.2) ∈ aj_SR := by decide +kernel
theorem aj_th_atS : ∀ x ∈ aj_TH, (∀ w ∈ (vx_atS "Raywalk" x.2.2.2.1 x.1 aj_sup).filter goodWord, w ∈ aj_TB) ∧ (∀ w ∈ (vx_atS "Raywalk" x.2.2.2.1 x.1 aj_sup).filter (fun w => !goodWord w), w ∈ aj_B x.1) ∧ (∀ w ∈ Cond.classLink "Raywalk" x.2.1 x.1 :: Cond.initialized x.1 :: vx_atS "Raywalk" x.2.2.2.1 x.1 aj_sup, vx_ot w = true) := by decide +kernel
theorem aj_sup_fit : ∀ n ∈ aj_sup, Bundle.fit n = true := by decide +kernel
theorem aj_GW.B {r : Nat → Nat} {A : Nat → Prop} {U : State} {H : Heap} (h : aj_GW r A U H) {E : String} (hE : E ∈ aj_ex) (a : Array Value) : ∀ w ∈ aj_B E, w.before a U = true := by
  intro w hw
  rcases List.mem_cons.mp hw with e | e
  · subst e; exact va_Nw.use rfl (h.2.2.2.2.1 E hE)
  · obtain ⟨x, hx, rfl⟩ := List.mem_map.mp e
    exact va_Nw.use rfl (h.2.2.2.2.2.1 x hx)
theorem x_throw {ret : Option FieldType} {K : aj_K} {E : String} {ik is ic bc' bs' : Nat} {text : String} (C : aj_C G cc tbl "Raywalk" R0 nL) (Z : aj_Z G ret K) (NX : aj_NX G) (k : Nat) (hx : (E, ik, is, ic, text) ∈ aj_TH) (h0 : tbl[k]? = some (pc, .new ik, 3)) (h1 : tbl[k + 1]? = some (pc + 3, .dup, 1)) (h2 : tbl[k + 2]? = some (pc + 4, .ldc_w is, 3)) (h3 : tbl[k + 3]? = some (pc + 7, .invokespecial ic, 3)) (h4 : tbl[k + 4]? = some (pc + 10, .athrow, 1))
    (hroom : 5 < R0.frames ∧ (st.map fun v => v.category).sum + 82 ≤ R0.locals) (hbc : bc = bc' + 1) (hbs : bs = bs' + 6) (hk : K (.inr E) I J V N L) : aj_X G pc lv st I J V N L bc bs := by
  intro r H locs cells slots ls hP hD hS hLL hF hc hs hl
  obtain ⟨o1, o2, o3, o4, o5⟩ := aj_th_ok _ hx
  obtain ⟨a1, a2, a3⟩ := aj_th_atS _ hx
  obtain ⟨sa, hsa⟩ := C.gw.2.2.2.2.2.2.1 _ o5
  show W _ _ _ _ _ _ _ _ _ _ H locs cells slots (gQ G) _
  rw [Z.2]
  refine vx_throwSW (cls := E) (text := text) (names := aj_sup) (sa := sa) C.x C.b C.st C.o o1 aj_sup_fit (C.ts _ o2) (C.ts _ o3) hsa (vx_hat (fun w hw => C.ts _ (a1 w hw)) a2 (C.gw.B o4 _)) a3 C.gw.1.1 C.gw.1.2.1 hS (hl.1.trans C.ml.symm) (C.d h0) (C.d h1) (C.d h2) (C.d h3) (C.d h4) (fun x hx => (NX x hx).elim) (by rw [C.r]; exact hroom.1) (by rw [aj_st_cat, C.r]; show _ + 82 ≤ _; exact hroom.2) (by omega) (by omega) C.lk (fun t hvm hz hk2 => ?_) hS.2.2 (by omega) (by omega)
  exact ⟨r, I, J, V, N, L, hk, hLL, hF, hP.kept (fun k q hq => hk2 q.1 (hP k q hq).lt), hD, Nat.le_trans hS.1 hz, fun q h1 h2 => (hk2 q (Nat.lt_of_lt_of_le h1 hS.1)).trans (hS.2.1 q h1 h2)⟩
-- CATCHING
theorem aj_caught {hp : Nat} (h15 : 15 ∈ gF G) (hL : 15 ∉ L) (hV : ∀ i ∈ L, ∀ j, V i j ≠ some 15) (hno : ∀ v ∈ lv, v ≠ some (.ref 15)) {r : Nat → Nat} {H : Heap} {locs : List Loc} {cells slots : Nat} {ls : Array Slot} {q9 : Addr} (hP : va_P (gD G) vwCl (aj_ws (gcs G) r I J V N L) H) (hD : va_D (gA G) (aj_ws (gcs G) r I J V N L)) (hS : va_S (gA G) (gs G).heap H locs) (hLL : ∀ i ∈ gL G, i ∈ L) (hF : ∀ i, i ∉ gF G → r i = gr G i) (hc : cells + bc ≤ (gR G).cells) (hs : slots + bs ≤ (gR G).slots) (hl : lv_has ls (gn G) (aj_lvs r 0 lv))
    (kk : aj_X G hp lv [.ref 15] I J V N L bc bs) : aj_W G H locs cells slots (F0 (gm G) hp ls [.ref q9]) := by
  have hws : aj_ws (gcs G) (aj_ur r 15 q9) I J V N L = aj_ws (gcs G) r I J V N L := aj_ws_congr (fun i hi => ⟨aj_ur_n r q9 (fun e => hL (e ▸ hi)), aj_el_ur (hV i hi) rfl rfl rfl rfl⟩)
  have hk := kk (aj_ur r 15 q9) H locs cells slots ls (by rw [hws]; exact hP) (by rw [hws]; exact hD) hS hLL (fun i hi => (aj_ur_n r q9 (fun e => hi (by rw [e]; exact h15))).trans (hF i hi)) hc hs (by rw [aj_lvs_ur hno]; exact hl)
  have e : ([Value.ref 15] : List Value).map (aj_v (aj_ur r 15 q9)) = [Value.ref q9] := by
    show [Value.ref (aj_ur r 15 q9 15)] = _
    rw [aj_ur_s]
  rw [e] at hk
  exact hk
/-- by the first row of the table -/
theorem x_catch1 {E : String} {a b hp ct : Nat} {suf : List (Nat × Nat × Nat × Nat)} (C : aj_C G cc tbl own R0 nL) (ht : (gc G).exceptionTable.toList = tableOf ((a, b, hp, ct) :: suf)) (hcv : a ≤ pc ∧ pc < b) (h0 : ct ≠ 0) (hw : Cond.classLink own ct E ∈ aj_TB) (hE : E ∈ aj_ex) (h15 : 15 ∈ gF G) (hL : 15 ∉ L) (hV : ∀ i ∈ L, ∀ j, V i j ≠ some 15) (hno : ∀ v ∈ lv, v ≠ some (.ref 15)) (kk : aj_X G hp lv [.ref 15] I J V N L bc bs) : aj_XT G pc lv E I J V N L bc bs := by
  intro r H locs cells slots ls st q9 ce hP hD hS hLL hF hc hs hl h1 h2 h3
  refine vx_catch C.o [] ⟨a, b, hp, ct⟩ (tableOf suf) ht (fun z hz => nomatch hz) ?_ h0 (C.ts _ hw) (va_Nw.use rfl (C.gw.2.2.2.2.1 E hE)) h1 h2 h3 (aj_caught h15 hL hV hno hP hD hS hLL hF hc hs hl kk)
  simp [covers, hcv.1, hcv.2]
/-- an IllegalArgumentException, by the second row, behind one that takes an IndexOutOfBoundsException -/
theorem x_catch2 {a b hp ct a1 b1 hp1 ct1 : Nat} {suf : List (Nat × Nat × Nat × Nat)} (C : aj_C G cc tbl own R0 nL) (ht : (gc G).exceptionTable.toList = tableOf ((a1, b1, hp1, ct1) :: (a, b, hp, ct) :: suf)) (hcv : a ≤ pc ∧ pc < b) (h0 : ct ≠ 0 ∧ ct1 ≠ 0) (hw : Cond.classLink own ct "java/lang/IllegalArgumentException" ∈ aj_TB) (hw1 : Cond.classLink own ct1 "java/lang/IndexOutOfBoundsException" ∈ aj_TB) (h15 : 15 ∈ gF G) (hL : 15 ∉ L) (hV : ∀ i ∈ L, ∀ j, V i j ≠ some 15) (hno : ∀ v ∈ lv, v ≠ some (.ref 15)) (kk : aj_X G hp lv [.ref 15] I J V N L bc bs) : aj_XT G pc lv "java/lang/IllegalArgumentException" I J V N L bc bs := by
  intro r H locs cells slots ls st q9 ce hP hD hS hLL hF hc hs hl h1 h2 h3
  refine vx_catch C.o [⟨a1, b1, hp1, ct1⟩] ⟨a, b, hp, ct⟩ (tableOf suf) ht (fun z hz => ?_) ?_ h0.1 (C.ts _ hw) (va_Nw.use rfl (C.gw.2.2.2.2.1 _ (by decide))) h1 h2 h3 (aj_caught h15 hL hV hno hP hD hS hLL hF hc hs hl kk)
  · rcases List.mem_cons.mp hz with e | e
    · subst e; exact Or.inr ⟨h0.2, _, C.ts _ hw1, C.gw.2.2.2.2.2.2.2⟩
    · cases e
  · simp [covers, hcv.1, hcv.2]
-- METHODS WITH A TABLE OF HANDLERS
set_option maxHeartbeats 1000000 in
theorem aj_introW {l : Launch} {y : MethodName} {maxL : Nat} {ret : Option FieldType} {hh : List (Nat × Nat × Nat × Nat)} {rm : Room} {F : List Nat} {av : List Value} {K : aj_K} {lv0 : List (Option Value)} (hy : plainName y.cls = true) (htbl : ∀ e ∈ tbl, decode cc e.1 = .ok e.2) (hF : ∀ i ∈ F, ¬ aj_sp i) (hlen : (lg_sl av).length ≤ maxL) (hlv : aj_ini av ++ List.replicate (maxL - (lg_sl av).length) none = lv0)
    (body : ∀ G : aj_G, gl G = l → aj_C G cc tbl y.cls rm maxL → aj_Z G ret K → (gc G).exceptionTable.toList = tableOf hh → gL G = L → gF G = F → aj_X G 0 lv0 [] I J V N L rm.cells rm.slots) : aj_M l y (Cond.codeWith y cc maxL ret hh :: aj_TB) rm F av I J V N L K := by
  intro hst D cs r sz
  refine vx_ofWH hy rfl ?_
  intro p e s m args below meth c s₁ B hml hv
  obtain ⟨hA, hsz, hP, hK, hD, hGW⟩ := hv
  subst hsz
  have hts := atoms_spec (ws := Cond.codeWith y cc maxL ret hh :: aj_TB) B.pre
  refine aj_start (D := D) (cs := cs) (r := r) (F := F) (R := rm) hlen hlv hA hP hD (body _ rfl ?_ ⟨B.returns, rfl⟩ (vx_table (x := y) B (hts _ List.mem_cons_self)) rfl rfl)
  exact ⟨B.exec, B.bytes, hml, findClass_of_methodNamed B.named, fun w hw => hts w (List.mem_cons_of_mem _ hw), hK, fun q hq => Or.inr hq, htbl, rfl, rfl, hst, hF, hGW, B.notSynchronized⟩
def aj_cw (y : MethodName) (bytes : ByteArray) (maxL : Nat) (ret : Option FieldType) (hh : List (Nat × Nat × Nat × Nat)) (n : Nat) : Prop :=
  Cond.codeWith y bytes maxL ret hh ∈ aj_TB ∧ Cond.initialized y.cls ∈ aj_TB ∧ Cond.static y ∈ aj_TB ∧ (y.cls ≠ "java/lang/invoke/MethodHandle" ∧ y.cls ≠ "java/lang/invoke/VarHandle" ∧ (parseMethodDescriptor y.desc).map (fun d => d.parameters.length) = some n)
theorem x_invSW {idx maxL n bc' bs' : Nat} {y : MethodName} {bytes : ByteArray} {ret : Option FieldType} {hh : List (Nat × Nat × Nat × Nat)} {rm : Room} {F' : List Nat} {As : List Value} (C : aj_C G cc tbl own R0 nL) (k : Nat) (h : tbl[k]? = some (pc, .invokestatic idx, 3)) (hq : pc + 3 = q) (hl : Cond.methodLink own idx y ∈ aj_TB) (cd : aj_cw y bytes maxL ret hh n)
    (hn : As.length = n) (hroom : rm.frames + 1 ≤ R0.frames ∧ 8 + (maxL + 11) + rm.locals ≤ R0.locals) (hst : (st.map fun v => v.category).sum ≤ 8) (hF' : ∀ i ∈ F', i ∈ gF G) (hno : ∀ i ∈ F', aj_no i lv st) (hbc : bc = rm.cells + bc') (hbs : bs = rm.slots + bs')
    (hM : aj_M (gl G) y (Cond.codeWith y bytes maxL ret hh :: aj_TB) rm F' As I J V N L (aj_kont G pc q lv st bc' bs')) : aj_X G pc lv (As.reverse ++ st) I J V N L bc bs := by
  intro r H locs cells slots ls hP hD hS hLL hF hc hs hlv
  have hG := aj_goodIn cd.1
  have cw : vx_CSW (gR G) (gs G) (ga G) own idx y bytes maxL ret hh (Cond.codeWith y bytes maxL ret hh :: aj_TB) rm rm.cells rm.slots n := vx_cwSW n C.ts (fun w hw => by
    rcases List.mem_append.mp hw with e | e
    · rcases List.mem_cons.mp e with e | e
      · subst e; exact aj_good _ hl
      · rcases List.mem_cons.mp e with e | e
        · subst e; exact aj_good _ cd.2.2.1
        · rcases List.mem_cons.mp e with e | e
          · subst e; exact aj_good _ cd.2.1
          · cases e
    · exact hG w e) rfl rfl rfl cd.2.2.2 (by rw [C.r]; exact hroom)
  refine aj_after (rm := rm) (F' := F') (av := As) (bc' := bc') (bs' := bs') hq hP hD hS hLL hF (by omega) (by omega) hlv (aj_subA C hD hS) hF' hno (vx_runSX (As := As.map (aj_v r)) ⟨C.x, C.b, C.ml, C.o, C.ts⟩ (hM C.st (gD G) (gcs G) r H.size) cw ⟨aj_blind, fun U hU hW => aj_pre (av := As) C hP hD hS hF U hU hW⟩ rfl (by rw [List.length_map]; exact hn) hlv.1 ?_ (by rw [aj_st_cat]; exact lv_room hst) (C.d h) ⟨by omega, by omega⟩)
  show (As.reverse ++ st).map (aj_v r) = (As.map (aj_v r)).reverse ++ st.map (aj_v r)
  rw [List.map_append, List.map_reverse]
-- OTHER ROWS
theorem x_objInit {idx i : Nat} (C : aj_C G cc tbl own R0 nL) (k : Nat) (h : tbl[k]? = some (pc, .invokespecial idx, 3)) (hq : pc + 3 = q) (hw : Cond.methodLink own idx Lib.objectInit ∈ aj_TB) (hw2 : Cond.instanceMethod Lib.objectInit ∈ aj_TB ∧ Cond.code Lib.objectInit ⟨#[0xb1]⟩ 1 none ∈ aj_TB) (hroom : 1 ≤ R0.frames ∧ (st.map fun v => v.category).sum + 12 ≤ R0.locals) (kk : aj_X G q lv st I J V N L bc bs) : aj_X G pc lv (.ref i :: st) I J V N L bc bs := by
  subst hq
  intro r H locs cells slots ls hP hD hS hLL hF hc hs hl
  exact W.objInit C.x C.b C.o (C.ts _ hw) (C.ts _ hw2.1) (C.ts _ hw2.2) rfl (hl.1.trans C.ml.symm) rfl (C.d h) (by rw [C.r]; exact hroom.1) (by rw [aj_st_cat, C.r]; show 0 + _ + 12 ≤ _; have := hroom.2; omega) (kk r H locs cells slots ls hP hD hS hLL hF hc hs hl)
theorem x_abs {idx : Nat} {x : Int32} (C : aj_C G cc tbl own R0 nL) (k : Nat) (h : tbl[k]? = some (pc, .invokestatic idx, 3)) (hq : pc + 3 = q) (hw : Cond.methodLink own idx Lib.Math.abs.name ∈ aj_TB) (hw2 : Cond.static Lib.Math.abs.name ∈ aj_TB ∧ Cond.initialized "java/lang/Math" ∈ aj_TB ∧ Cond.code Lib.Math.abs.name Lib.Math.abs.code 1 (some .int) ∈ aj_TB) (hroom : 1 ≤ R0.frames ∧ (st.map fun v => v.category).sum + 13 ≤ R0.locals) (kk : aj_X G q lv (.int (if 0 ≤ x then x else 0 - x) :: st) I J V N L bc bs) : aj_X G pc lv (.int x :: st) I J V N L bc bs := by
  subst hq
  intro r H locs cells slots ls hP hD hS hLL hF hc hs hl
  exact va_mabs C.x C.b (C.ml.trans hl.1.symm) C.o (C.ts _ hw) (C.ts _ hw2.1) (C.ts _ hw2.2.1) (C.ts _ hw2.2.2) (by rw [C.r]; exact hroom.1) (by rw [aj_st_cat, C.r]; exact hroom.2) (by omega) (by omega) (C.d h) (kk r H locs cells slots ls hP hD hS hLL hF hc hs hl)
theorem x_marks {idx : Nat} (C : aj_C G cc tbl own R0 nL) (k : Nat) (h : tbl[k]? = some (pc, .getstatic idx, 3)) (hq : pc + 3 = q) (hw : Cond.fieldLink own idx "Raywalk" "MARKS" "[I" ∈ aj_TB) (kk : aj_X G q lv (.ref 12 :: st) I J V N L bc bs) : aj_X G pc lv st I J V N L bc bs := by
  subst hq
  intro r H locs cells slots ls hP hD hS hLL hF hc hs hl
  have e : r 12 = gr G 12 := hF 12 (fun h => C.f 12 h (Or.inl rfl))
  refine va_gets C.x C.b (v := .ref (r 12)) ?_ hS C.o (C.ts _ hw) (fun _ z => z) (C.d h) (kk r H locs cells slots ls hP hD hS hLL hF hc hs hl)
  rw [e]; exact C.gw.1.2.2.1
theorem x_mald {j : Int32} {v : Value} (C : aj_C G cc tbl own R0 nL) (k : Nat) (h : tbl[k]? = some (pc, .iaload, 1)) (hq : pc + 1 = q) (hin : vp_in j 16) (hv : aj_mk j.toNatClampNeg = v) (kk : aj_X G q lv (v :: st) I J V N L bc bs) : aj_X G pc lv (.int j :: .ref 12 :: st) I J V N L bc bs := by
  subst hq
  subst hv
  intro r H locs cells slots ls hP hD hS hLL hF hc hs hl
  have e : r 12 = gr G 12 := hF 12 (fun h => C.f 12 h (Or.inl rfl))
  refine va_ti C.x C.b (t := r 12) (N := 16) (f := aj_mk) ?_ hS hin rfl (C.d h) ?_
  · rw [e]; exact C.gw.1.2.2.2.1
  · exact kk r H locs cells slots ls hP hD hS hLL hF hc hs hl
theorem x_mlen (C : aj_C G cc tbl own R0 nL) (k : Nat) (h : tbl[k]? = some (pc, .arraylength, 1)) (hq : pc + 1 = q) (kk : aj_X G q lv (.int 16 :: st) I J V N L bc bs) : aj_X G pc lv (.ref 12 :: st) I J V N L bc bs := by
  subst hq
  intro r H locs cells slots ls hP hD hS hLL hF hc hs hl
  have e : r 12 = gr G 12 := hF 12 (fun h => C.f 12 h (Or.inl rfl))
  refine va_tlen C.x C.b (t := r 12) (N := 16) (f := aj_mk) (ty := .int) ?_ hS rfl (C.d h) (kk r H locs cells slots ls hP hD hS hLL hF hc hs hl)
  rw [e]; exact C.gw.1.2.2.2.1
theorem x_swIn {dflt lo hi : Int} {offs : Array Int} {len : Nat} {x : Int32} {off : Int} {t : Nat} (C : aj_C G cc tbl own R0 nL) (k : Nat) (h : tbl[k]? = some (pc, .tableswitch dflt lo hi offs, len)) (h1 : ¬ x.toInt < lo) (h2 : ¬ hi < x.toInt) (ho : offs[(x.toInt - lo).toNat]? = some off) (ht : (pc : Int) + off = (t : Int)) (kk : aj_X G t lv st I J V N L bc bs) : aj_X G pc lv (.int x :: st) I J V N L bc bs :=
  fun r H locs cells slots ls hP hD hS hLL hF hc hs hl => lv_tableIn C.x C.b (C.d h) h1 h2 ho ht (kk r H locs cells slots ls hP hD hS hLL hF hc hs hl)
theorem x_swOut {dflt lo hi : Int} {offs : Array Int} {len : Nat} {x : Int32} {t : Nat} (C : aj_C G cc tbl own R0 nL) (k : Nat) (h : tbl[k]? = some (pc, .tableswitch dflt lo hi offs, len)) (h1 : x.toInt < lo ∨ hi < x.toInt) (ht : (pc : Int) + dflt = (t : Int)) (kk : aj_X G t lv st I J V N L bc bs) : aj_X G pc lv (.int x :: st) I J V N L bc bs :=
  fun r H locs cells slots ls hP hD hS hLL hF hc hs hl => lv_tableOut C.x C.b (C.d h) h1 ht (kk r H locs cells slots ls hP hD hS hLL hF hc hs hl)
theorem x_iinc {i : Nat} {n : Int} {x v : Int32} (C : aj_C G cc tbl own R0 nL) (k : Nat) (h : tbl[k]? = some (pc, .iinc i n, 3)) (hq : pc + 3 = q) (hi : lv[i]? = some (some (.int x))) (hv : x + Int32.ofInt n = v) (hn : i < nL) (hnl : aj_nl lv i) (hlv : lv.set i (some (.int v)) = lv') (kk : aj_X G q lv' st I J V N L bc bs) : aj_X G pc lv st I J V N L bc bs := by
  subst hq
  subst hlv
  subst hv
  intro r H locs cells slots ls hP hD hS hLL hF hc hs hl
  obtain ⟨k0, hk0⟩ := List.getElem?_of_mem ((aj_lvs_mem r lv 0 (i, .int x)).mpr ⟨i, .int x, hi, by rw [Nat.zero_add]; rfl⟩)
  exact lv_iinc C.x C.b (C.d h) hl hk0 rfl (by rw [C.n]; exact hn) rfl (fun ls' hl' => kk r H locs cells slots ls' hP hD hS hLL hF hc hs (aj_set1 hnl hl'))
end AJ5
