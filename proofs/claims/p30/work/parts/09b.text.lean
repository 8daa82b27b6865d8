section AJT
variable {G : aj_G} {cc : ByteArray} {tbl : List (Nat × Instr × Nat)} {own : String} {R0 : Room} {nL : Nat} {pc q : Nat} {lv lv' : List (Option Value)} {st st' : List Value} {I : Nat → Nat → Int32} {J : Nat → Nat → Int64} {V : Nat → Nat → Option Nat} {N : Nat → Nat} {L : List Nat} {bc bs : Nat}
-- ROWS FOR TEXTS
/-- DigitTens, DigitOnes, COMPACT_STRINGS -/
theorem x_getCS {idx : Nat} (C : aj_C G cc tbl own R0 nL) (k : Nat) (h : tbl[k]? = some (pc, .getstatic idx, 3)) (hq : pc + 3 = q) (hw : Cond.fieldLink own idx "java/lang/String" "COMPACT_STRINGS" "Z" ∈ aj_TB) (kk : aj_X G q lv (.int 1 :: st) I J V N L bc bs) : aj_X G pc lv st I J V N L bc bs := by
  subst hq
  intro r H locs cells slots ls hP hD hS hLL hF hc hs hl
  exact va_gets C.x C.b (v := .int 1) C.gw.1.2.2.2.2.1.1.1 hS C.o (C.ts _ hw) (fun _ z => z) (C.d h) (kk r H locs cells slots ls hP hD hS hLL hF hc hs hl)
theorem x_dgT {idx : Nat} (C : aj_C G cc tbl own R0 nL) (k : Nat) (h : tbl[k]? = some (pc, .getstatic idx, 3)) (hq : pc + 3 = q) (hw : Cond.fieldLink own idx "java/lang/Integer" "DigitTens" "[B" ∈ aj_TB) (kk : aj_X G q lv (.ref 13 :: st) I J V N L bc bs) : aj_X G pc lv st I J V N L bc bs := by
  subst hq
  intro r H locs cells slots ls hP hD hS hLL hF hc hs hl
  have e : r 13 = gr G 13 := hF 13 (fun h => C.f 13 h (Or.inr (Or.inl rfl)))
  refine va_gets C.x C.b (v := .ref (r 13)) ?_ hS C.o (C.ts _ hw) (fun _ z => z) (C.d h) (kk r H locs cells slots ls hP hD hS hLL hF hc hs hl)
  rw [e]; exact C.gw.1.2.2.2.2.1.1.2.1
theorem x_dgO {idx : Nat} (C : aj_C G cc tbl own R0 nL) (k : Nat) (h : tbl[k]? = some (pc, .getstatic idx, 3)) (hq : pc + 3 = q) (hw : Cond.fieldLink own idx "java/lang/Integer" "DigitOnes" "[B" ∈ aj_TB) (kk : aj_X G q lv (.ref 14 :: st) I J V N L bc bs) : aj_X G pc lv st I J V N L bc bs := by
  subst hq
  intro r H locs cells slots ls hP hD hS hLL hF hc hs hl
  have e : r 14 = gr G 14 := hF 14 (fun h => C.f 14 h (Or.inr (Or.inr rfl)))
  refine va_gets C.x C.b (v := .ref (r 14)) ?_ hS C.o (C.ts _ hw) (fun _ z => z) (C.d h) (kk r H locs cells slots ls hP hD hS hLL hF hc hs hl)
  rw [e]; exact C.gw.1.2.2.2.2.1.1.2.2
theorem x_dglT {j : Int32} (C : aj_C G cc tbl own R0 nL) (k : Nat) (h : tbl[k]? = some (pc, .baload, 1)) (hq : pc + 1 = q) (hin : vp_in j 100) (kk : aj_X G q lv (.int (Int32.ofNat (48 + j.toNatClampNeg / 10)) :: st) I J V N L bc bs) : aj_X G pc lv (.int j :: .ref 13 :: st) I J V N L bc bs := by
  subst hq
  intro r H locs cells slots ls hP hD hS hLL hF hc hs hl
  have e : r 13 = gr G 13 := hF 13 (fun h => C.f 13 h (Or.inr (Or.inl rfl)))
  refine va_tb C.x C.b (t := r 13) (N := 100) (f := aj_dg true) ?_ hS hin rfl (C.d h) ?_
  · rw [e]; exact C.gw.1.2.2.2.2.1.2.1
  · exact kk r H locs cells slots ls hP hD hS hLL hF hc hs hl
theorem x_dglO {j : Int32} (C : aj_C G cc tbl own R0 nL) (k : Nat) (h : tbl[k]? = some (pc, .baload, 1)) (hq : pc + 1 = q) (hin : vp_in j 100) (kk : aj_X G q lv (.int (Int32.ofNat (48 + j.toNatClampNeg % 10)) :: st) I J V N L bc bs) : aj_X G pc lv (.int j :: .ref 14 :: st) I J V N L bc bs := by
  subst hq
  intro r H locs cells slots ls hP hD hS hLL hF hc hs hl
  have e : r 14 = gr G 14 := hF 14 (fun h => C.f 14 h (Or.inr (Or.inr rfl)))
  refine va_tb C.x C.b (t := r 14) (N := 100) (f := aj_dg false) ?_ hS hin rfl (C.d h) ?_
  · rw [e]; exact C.gw.1.2.2.2.2.1.2.2.1
  · exact kk r H locs cells slots ls hP hD hS hLL hF hc hs hl
-- byte rows
theorem x_bast (C : aj_C G cc tbl own R0 nL) (k : Nat) {i : Nat} {j x : Int32} (h : tbl[k]? = some (pc, .bastore, 1)) (hq : pc + 1 = q) (hi : i % 16 = 10) (hL : i ∈ L) (hin : vp_in j (N i)) (kk : aj_X G q lv st (aj_u I i j.toNatClampNeg (vp_nar .byte x)) J V N L bc bs) : aj_X G pc lv (.int x :: .int j :: .ref i :: st) I J V N L bc bs := by
  subst hq
  intro r H locs cells slots ls hP hD hS hLL hF hc hs hl
  obtain ⟨k0, hk0, he⟩ := aj_ws_at (cs := gcs G) (r := r) (I := I) (J := J) (V := V) (N := N) hL
  rw [aj_el_byte hi] at he
  have hws : (aj_ws (gcs G) r I J V N L).set k0 (r i, .inl (gcs G 2, N i, .inl (upd (I i) j.toNatClampNeg (vp_nar .byte x)))) = aj_ws (gcs G) r (aj_u I i j.toNatClampNeg (vp_nar .byte x)) J V N L := by
    rw [← aj_ws_set (I' := aj_u I i j.toNatClampNeg (vp_nar .byte x)) hD hk0 (fun a ha => aj_el_congr (aj_u_o I _ ha) rfl rfl rfl), aj_el_byte hi, aj_upd_u I i j.toNatClampNeg (vp_nar .byte x) (upd (I i) j.toNatClampNeg (vp_nar .byte x)) (fun b => rfl)]
  refine va_bast C.x C.b C.k hP hD hS k0 2 he rfl hin (C.d h) (fun H1 locs1 hP1 hD1 hS1 => ?_)
  rw [hws] at hP1 hD1
  exact kk r H1 locs1 cells slots ls hP1 hD1 hS1 hLL hF hc hs hl
theorem x_alenB (C : aj_C G cc tbl own R0 nL) (k : Nat) {i : Nat} (h : tbl[k]? = some (pc, .arraylength, 1)) (hq : pc + 1 = q) (hi : i % 16 = 10) (hL : i ∈ L) (kk : aj_X G q lv (.int (Int32.ofNat (N i)) :: st) I J V N L bc bs) : aj_X G pc lv (.ref i :: st) I J V N L bc bs := by
  subst hq
  intro r H locs cells slots ls hP hD hS hLL hF hc hs hl
  obtain ⟨k0, hk0, he⟩ := aj_ws_at (cs := gcs G) (r := r) (I := I) (J := J) (V := V) (N := N) hL
  rw [aj_el_byte hi] at he
  exact va_alen C.x C.b C.k hP k0 2 he rfl rfl (C.d h) (kk r H locs cells slots ls hP hD hS hLL hF hc hs hl)
theorem x_newB (C : aj_C G cc tbl own R0 nL) (k a : Nat) {n : Int32} {n' m bc' bs' : Nat} (h : tbl[k]? = some (pc, .newarray .byte, 2)) (hq : pc + 2 = q) (hw : Cond.arrayClass .byte ∈ aj_TB) (hn : ¬ n < 0) (hn' : n.toNatClampNeg = n') (hm : n' ≤ m) (hm2 : m ≤ 1000000) (ha : a % 16 = 10) (haF : a ∈ gF G) (haL : a ∉ L) (hV : ∀ i ∈ L, ∀ j, V i j ≠ some a) (hno : aj_no a lv st) (hbc : bc = bc' + 1) (hbs : bs = bs' + m)
    (kk : aj_X G q lv (.ref a :: st) (aj_z I a 0) J V (aj_ur N a n') (L ++ [a]) bc' bs') : aj_X G pc lv (.int n :: st) I J V N L bc bs := by
  subst hq
  intro r H locs cells slots ls hP hD hS hLL hF hc hs hl
  refine va_newa (atype := .byte) (ty := .byte) (a0 := (n', .inl (fun _ => 0))) C.x C.b (C.ts _ hw) rfl C.k hP hD hS C.a (fun cA => rfl) hn hn' (by show n' * 1 ≤ _; omega) (by omega) (by omega) (C.d h) (fun b cA H1 hK1 hP1 hD1 hS1 => ?_)
  have hcA : cA = gcs G 2 := by
    have h1 := aj_ra_prim (ty := .byte) (fun _ => by simp) (hK1.2 4 (cA, .byte) rfl).2
    have h2 := aj_ra_prim (ty := .byte) (fun _ => by simp) (C.k.2 2 (gcs G 2, .byte) rfl).2
    exact Option.some.inj (h1.symm.trans h2)
  subst hcA
  have hws := aj_new_ws (cs := gcs G) (r := r) (I := I) (J := J) (V := V) (N := N) (b := b) (I' := aj_z I a 0) (J' := J) (V' := V) (N' := aj_ur N a n') haL hV (fun i hi => aj_z_o I 0 hi) (fun i hi => rfl) (fun i hi => rfl) (fun i hi => aj_ur_n N n' hi)
  rw [aj_el_byte ha, aj_z_s, aj_ur_s] at hws
  rw [← hws] at hP1 hD1
  refine W.widen (k := cells + 1) (n := slots + m) (Nat.le_refl _) (by omega) ?_
  have hk := kk (aj_ur r a b) H1 locs (cells + 1) (slots + m) ls hP1 hD1 hS1 (fun i hi => List.mem_append_left _ (hLL i hi)) (fun i hi => (aj_ur_n r b (fun e => hi (by rw [e]; exact haF))).trans (hF i hi)) (by omega) (by omega) (by rw [aj_lvs_ur hno.2]; exact hl)
  have e : (Value.ref a :: st).map (aj_v (aj_ur r a b)) = Value.ref b :: st.map (aj_v r) := by
    show aj_v _ (.ref a) :: st.map _ = _
    rw [aj_st_ur hno.1]
    show Value.ref (aj_ur r a b a) :: _ = _
    rw [aj_ur_s]
  rw [e] at hk
  exact hk
/-- the machine's arraycopy -/
def aj_ac (own : String) (idx : Nat) : Prop := Cond.methodLink own idx arraycopyName ∈ aj_TB ∧ Cond.native arraycopyName ∈ aj_TB ∧ Cond.static arraycopyName ∈ aj_TB ∧ Cond.initialized "java/lang/System" ∈ aj_TB
theorem aj_copy_ws {cs : Nat → ClassId} {r : Nat → Nat} {A : Nat → Prop} {a k1 : Nat} {g : Nat → Int32} (hD : va_D A (aj_ws cs r I J V N L)) (hk1 : L[k1]? = some a) (ha : a % 16 = 10) : (aj_ws cs r I J V N L).set k1 (r a, .inl (cs 2, N a, .inl g)) = aj_ws cs r (aj_ur I a g) J V N L := by
  rw [← aj_ws_set (I' := aj_ur I a g) hD hk1 (fun b hb => aj_el_congr (aj_ur_n I g hb) rfl rfl rfl), aj_el_byte ha, aj_ur_s]
theorem x_copyB (C : aj_C G cc tbl own R0 nL) (k : Nat) {idx i a : Nat} {sp dp n : Int32} (h : tbl[k]? = some (pc, .invokestatic idx, 3)) (hq : pc + 3 = q) (hw : aj_ac own idx) (hroom : 1 ≤ R0.frames ∧ (st.map fun v => v.category).sum + 30 ≤ R0.locals) (hi : i % 16 = 10) (hL : i ∈ L) (ha : a % 16 = 10) (haL : a ∈ L) (h1 : ¬ sp < 0) (h2 : ¬ dp < 0) (h3 : ¬ n < 0) (h4 : sp.toNatClampNeg + n.toNatClampNeg ≤ N i) (h5 : dp.toNatClampNeg + n.toNatClampNeg ≤ N a) (hfit : ∀ t, fits .byte (.int (I i t)) = true)
    (kk : aj_X G q lv st (aj_ur I a (va_cpy (I i) (I a) sp.toNatClampNeg dp.toNatClampNeg n.toNatClampNeg)) J V N L bc bs) : aj_X G pc lv (.int n :: .int dp :: .ref a :: .int sp :: .ref i :: st) I J V N L bc bs := by
  subst hq
  intro r H locs cells slots ls hP hD hS hLL hF hc hs hl
  obtain ⟨k0, hk0, he⟩ := aj_ws_at (cs := gcs G) (r := r) (I := I) (J := J) (V := V) (N := N) hL
  obtain ⟨k1, hk1, he1⟩ := aj_ws_at (cs := gcs G) (r := r) (I := I) (J := J) (V := V) (N := N) haL
  rw [aj_el_byte hi] at he
  rw [aj_el_byte ha] at he1
  refine va_copyi C.x C.b (C.ml.trans hl.1.symm) C.o (C.ts _ hw.1) (C.ts _ hw.2.1) (C.ts _ hw.2.2.1) (C.ts _ hw.2.2.2) C.k hP hD hS k0 k1 2 2 (ty := .byte) he he1 rfl rfl rfl h1 h2 h3 h4 h5 (fun t _ => hfit _) (by rw [C.r]; exact hroom.1) (by rw [aj_st_cat, C.r]; refine Nat.le_trans ?_ hroom.2; exact Nat.add_le_add_left (by decide) _) (C.d h) (fun H1 locs1 hP1 hD1 hS1 => ?_)
  rw [aj_copy_ws hD hk1 ha] at hP1 hD1
  exact kk r H1 locs1 cells slots ls hP1 hD1 hS1 hLL hF hc hs hl
theorem aj_kb (i z : Nat) : (([[], [32]] : List (List Int32)).getD i []).getD z 0 = 0 ∨ (([[], [32]] : List (List Int32)).getD i []).getD z 0 = 32 := by
  rcases i with _ | _ | i
  · left; simp
  · rcases z with _ | z
    · right; simp
    · left; simp
  · left; simp
def aj_kl (i : Nat) : Nat := ([0, 1] : List Nat).getD i 0
/-- out of a constant's row -/
theorem x_copyK (C : aj_C G cc tbl own R0 nL) (k : Nat) {idx i a : Nat} {sp dp n : Int32} (h : tbl[k]? = some (pc, .invokestatic idx, 3)) (hq : pc + 3 = q) (hw : aj_ac own idx) (hroom : 1 ≤ R0.frames ∧ (st.map fun v => v.category).sum + 30 ≤ R0.locals) (hi : i < 2) (ha : a % 16 = 10) (haL : a ∈ L) (h1 : ¬ sp < 0) (h2 : ¬ dp < 0) (h3 : ¬ n < 0) (h4 : sp.toNatClampNeg + n.toNatClampNeg ≤ aj_kl i) (h5 : dp.toNatClampNeg + n.toNatClampNeg ≤ N a)
    (kk : aj_X G q lv st (aj_ur I a (va_cpy (fun j => (([[], [32]] : List (List Int32)).getD i []).getD j 0) (I a) sp.toNatClampNeg dp.toNatClampNeg n.toNatClampNeg)) J V N L bc bs) : aj_X G pc lv (.int n :: .int dp :: .ref a :: .int sp :: .ref (60 + 16 * i) :: st) I J V N L bc bs := by
  subst hq
  intro r H locs cells slots ls hP hD hS hLL hF hc hs hl
  obtain ⟨k1, hk1, he1⟩ := aj_ws_at (cs := gcs G) (r := r) (I := I) (J := J) (V := V) (N := N) haL
  rw [aj_el_byte ha] at he1
  have e : r (60 + 16 * i) = gr G (60 + 16 * i) := hF _ (fun h => C.f _ h (Or.inl (by omega)))
  have hX := (C.gw.1.2.2.2.2.1.2.2.2.1 i hi).2.2.2
  refine vk_copyt C.x C.b (C.ml.trans hl.1.symm) C.o (C.ts _ hw.1) (C.ts _ hw.2.1) (C.ts _ hw.2.2.1) (C.ts _ hw.2.2.2) C.k hP hD hS (b0 := r (60 + 16 * i)) (n0 := aj_kl i) (f := fun j => (([[], [32]] : List (List Int32)).getD i []).getD j 0) ?_ k1 2 he1 rfl h1 h2 h3 h4 h5 (fun t _ => ?_) (by rw [C.r]; exact hroom.1) (by rw [aj_st_cat, C.r]; refine Nat.le_trans ?_ hroom.2; exact Nat.add_le_add_left (by decide) _) (C.d h) (fun H1 locs1 hP1 hD1 hS1 => ?_)
  · rw [e]; exact hX
  · rcases aj_kb i (sp.toNatClampNeg + t) with e | e <;> rw [e] <;> rfl
  · rw [aj_copy_ws hD hk1 ha] at hP1 hD1
    exact kk r H1 locs1 cells slots ls hP1 hD1 hS1 hLL hF hc hs hl
def aj_clo (own : String) (idx : Nat) : Prop := Cond.methodLink own idx ⟨"[B", "clone", "()Ljava/lang/Object;"⟩ ∈ aj_TB ∧ Cond.sameMethod "[B" "java/lang/Object" "clone" "()Ljava/lang/Object;" ∈ aj_TB ∧ Cond.native ⟨"java/lang/Object", "clone", "()Ljava/lang/Object;"⟩ ∈ aj_TB ∧ Cond.instanceMethod ⟨"java/lang/Object", "clone", "()Ljava/lang/Object;"⟩ ∈ aj_TB ∧ Cond.selects "[B" ⟨"[B", "clone", "()Ljava/lang/Object;"⟩ ⟨"java/lang/Object", "clone", "()Ljava/lang/Object;"⟩ ∈ aj_TB
theorem x_clone (C : aj_C G cc tbl own R0 nL) (k a : Nat) {idx i m bc' bs' : Nat} (h : tbl[k]? = some (pc, .invokevirtual idx, 3)) (hq : pc + 3 = q) (hw : aj_clo own idx) (hroom : 1 ≤ R0.frames ∧ (st.map fun v => v.category).sum + 14 ≤ R0.locals) (hi : i % 16 = 10) (hL : i ∈ L) (hm : N i ≤ m) (hfit : ∀ t, fits .byte (.int (I i t)) = true) (ha : a % 16 = 10) (haF : a ∈ gF G) (haL : a ∉ L) (hV : ∀ i ∈ L, ∀ j, V i j ≠ some a) (hno : aj_no a lv st) (hbc : bc = bc' + 1) (hbs : bs = bs' + m)
    (kk : aj_X G q lv (.ref a :: st) (aj_ur I a (I i)) J V (aj_ur N a (N i)) (L ++ [a]) bc' bs') : aj_X G pc lv (.ref i :: st) I J V N L bc bs := by
  subst hq
  intro r H locs cells slots ls hP hD hS hLL hF hc hs hl
  obtain ⟨k0, hk0, he⟩ := aj_ws_at (cs := gcs G) (r := r) (I := I) (J := J) (V := V) (N := N) hL
  rw [aj_el_byte hi] at he
  refine va_clone C.x C.b (C.ml.trans hl.1.symm) C.o (C.ts _ hw.1) (C.ts _ hw.2.1) (C.ts _ hw.2.2.1) (C.ts _ hw.2.2.2.1) (C.ts _ hw.2.2.2.2) C.gw.1.2.2.2.2.2.2.2 C.k hP hD hS C.a k0 2 he rfl (va_nm_byte (C.k.2 2 (gcs G 2, .byte) rfl).2) (va_fit (F := fun j => .int (I i j)) (fun t _ => hfit t)) (by rw [C.r]; exact hroom.1) (by rw [aj_st_cat, C.r]; exact hroom.2) (by omega) (by show slots + N i ≤ _; omega) (C.d h) (fun b H1 hK1 hP1 hD1 hS1 => ?_)
  have hws := aj_new_ws (cs := gcs G) (r := r) (I := I) (J := J) (V := V) (N := N) (b := b) (I' := aj_ur I a (I i)) (J' := J) (V' := V) (N' := aj_ur N a (N i)) haL hV (fun i hi => aj_ur_n I _ hi) (fun i hi => rfl) (fun i hi => rfl) (fun i hi => aj_ur_n N _ hi)
  rw [aj_el_byte ha, aj_ur_s, aj_ur_s] at hws
  rw [← hws] at hP1 hD1
  refine W.widen (k := cells + 1) (n := slots + m) (Nat.le_refl _) (by show slots + N i ≤ _; omega) ?_
  have hk := kk (aj_ur r a b) H1 locs (cells + 1) (slots + m) ls hP1 hD1 hS1 (fun i hi => List.mem_append_left _ (hLL i hi)) (fun i hi => (aj_ur_n r b (fun e => hi (by rw [e]; exact haF))).trans (hF i hi)) (by omega) (by omega) (by rw [aj_lvs_ur hno.2]; exact hl)
  have e : (Value.ref a :: st).map (aj_v (aj_ur r a b)) = Value.ref b :: st.map (aj_v r) := by
    show aj_v _ (.ref a) :: st.map _ = _
    rw [aj_st_ur hno.1]
    show Value.ref (aj_ur r a b a) :: _ = _
    rw [aj_ur_s]
  rw [e] at hk
  exact hk
theorem x_castB (C : aj_C G cc tbl own R0 nL) (k : Nat) {idx i : Nat} (h : tbl[k]? = some (pc, .checkcast idx, 3)) (hq : pc + 3 = q) (hw : Cond.classLink own idx "[B" ∈ aj_TB) (hi : i % 16 = 10) (hL : i ∈ L) (kk : aj_X G q lv (.ref i :: st) I J V N L bc bs) : aj_X G pc lv (.ref i :: st) I J V N L bc bs := by
  subst hq
  intro r H locs cells slots ls hP hD hS hLL hF hc hs hl
  obtain ⟨k0, hk0, he⟩ := aj_ws_at (cs := gcs G) (r := r) (I := I) (J := J) (V := V) (N := N) hL
  rw [aj_el_byte hi] at he
  exact va_castA C.x C.b C.o (C.ts _ hw) hP k0 he (va_nm_byte (C.k.2 2 (gcs G 2, .byte) rfl).2) (C.d h) (kk r H locs cells slots ls hP hD hS hLL hF hc hs hl)
def aj_mw (own : String) (idx : Nat) (y : MethodName) (bytes : ByteArray) : Prop := Cond.methodLink own idx y ∈ aj_TB ∧ Cond.static y ∈ aj_TB ∧ Cond.initialized "java/lang/Math" ∈ aj_TB ∧ Cond.code y bytes 2 (some .int) ∈ aj_TB
theorem x_min {idx : Nat} {x y : Int32} (C : aj_C G cc tbl own R0 nL) (k : Nat) (h : tbl[k]? = some (pc, .invokestatic idx, 3)) (hq : pc + 3 = q) (hw : aj_mw own idx Lib.Math.min.name Lib.Math.min.code) (hroom : 1 ≤ R0.frames ∧ (st.map fun v => v.category).sum + 13 ≤ R0.locals) (kk : aj_X G q lv (.int (if y < x then y else x) :: st) I J V N L bc bs) : aj_X G pc lv (.int y :: .int x :: st) I J V N L bc bs := by
  subst hq
  intro r H locs cells slots ls hP hD hS hLL hF hc hs hl
  exact va_mmin C.x C.b (C.ml.trans hl.1.symm) C.o (C.ts _ hw.1) (C.ts _ hw.2.1) (C.ts _ hw.2.2.1) (C.ts _ hw.2.2.2) (by rw [C.r]; exact hroom.1) (by rw [aj_st_cat, C.r]; exact hroom.2) (by omega) (by omega) (C.d h) (kk r H locs cells slots ls hP hD hS hLL hF hc hs hl)
theorem x_max {idx : Nat} {x y : Int32} (C : aj_C G cc tbl own R0 nL) (k : Nat) (h : tbl[k]? = some (pc, .invokestatic idx, 3)) (hq : pc + 3 = q) (hw : aj_mw own idx Lib.Math.max.name Lib.Math.max.code) (hroom : 1 ≤ R0.frames ∧ (st.map fun v => v.category).sum + 13 ≤ R0.locals) (kk : aj_X G q lv (.int (if x < y then y else x) :: st) I J V N L bc bs) : aj_X G pc lv (.int y :: .int x :: st) I J V N L bc bs := by
  subst hq
  intro r H locs cells slots ls hP hD hS hLL hF hc hs hl
  exact va_mmax C.x C.b (C.ml.trans hl.1.symm) C.o (C.ts _ hw.1) (C.ts _ hw.2.1) (C.ts _ hw.2.2.1) (C.ts _ hw.2.2.2) (by rw [C.r]; exact hroom.1) (by rw [aj_st_cat, C.r]; exact hroom.2) (by omega) (by omega) (C.d h) (kk r H locs cells slots ls hP hD hS hLL hF hc hs hl)
-- a final byte or int, in a constructor; a byte that isn't final
theorem x_putFI (C : aj_C G cc tbl own R0 nL) (k : Nat) {idx i ci kf : Nat} {x : Int32} (h : tbl[k]? = some (pc, .putfield idx, 3)) (hq : pc + 3 = q) (hw : aj_FL own idx ci kf) (hfin : (aj_T ci kf).2.2.2 = true) (hin : (gt G).name = "<init>") (hdecl : (aj_T ci kf).1 = own) (hty : ∀ r I i, aj_fv r I J V i kf (aj_ty ci kf) = .int (I i kf)) (hnar : narrow (aj_ty ci kf) (.int x) = .int x) (hfit : fits (aj_ty ci kf) (.int x) = true) (hi : i % 16 = ci) (hL : i ∈ L) (kk : aj_X G q lv st (aj_u I i kf x) J V N L bc bs) : aj_X G pc lv (.int x :: .ref i :: st) I J V N L bc bs := by
  subst hq
  intro r H locs cells slots ls hP hD hS hLL hF hc hs hl
  obtain ⟨k0, hk0, he⟩ := aj_ws_at (cs := gcs G) (r := r) (I := I) (J := J) (V := V) (N := N) hL
  rw [aj_el_obj hi hw.1] at he
  have hws := aj_put_ws (r := r) (cs := gcs G) (I' := aj_u I i kf x) (J' := J) (V' := V) (v := .int x) hD hk0 hi hw.1 (fun a b z => aj_u_n I x z) (fun a b z => rfl) (fun a b z => rfl) (by rw [hty, aj_u_s])
  refine va_putF C.x C.b C.ts (aj_cl_in ci hw.1) (aj_ty ci) (aj_tyok ci hw.1) (aj_nm ci hw.1) C.o C.k hP hD hS k0 he (aj_cl ci hw.1) kf hw.2.1 (C.ts _ hw.2.2) (fun _ z => z) hfin hin hdecl (ty := aj_ty ci kf) (aj_tyok ci hw.1 kf hw.2.1) hnar hfit (by rw [List.length_map, List.length_range]; exact hw.2.1) (C.d h) (fun H1 locs1 hP1 hD1 hS1 => ?_)
  have hP1 : va_P (gD G) vwCl (aj_ws (gcs G) r (aj_u I i kf x) J V N L) H1 := by rw [← hws]; exact hP1
  have hD1 : va_D (gA G) (aj_ws (gcs G) r (aj_u I i kf x) J V N L) := by rw [← hws]; exact hD1
  exact kk r H1 locs1 cells slots ls hP1 hD1 hS1 hLL hF hc hs hl
theorem x_putB (C : aj_C G cc tbl own R0 nL) (k : Nat) {idx i ci kf : Nat} {x : Int32} (h : tbl[k]? = some (pc, .putfield idx, 3)) (hq : pc + 3 = q) (hw : aj_FL own idx ci kf) (hfin : (aj_T ci kf).2.2.2 = false) (hty : ∀ r I i, aj_fv r I J V i kf (aj_ty ci kf) = .int (I i kf)) (hnar : narrow (aj_ty ci kf) (.int x) = .int x) (hfit : fits (aj_ty ci kf) (.int x) = true) (hi : i % 16 = ci) (hL : i ∈ L) (kk : aj_X G q lv st (aj_u I i kf x) J V N L bc bs) : aj_X G pc lv (.int x :: .ref i :: st) I J V N L bc bs := by
  subst hq
  intro r H locs cells slots ls hP hD hS hLL hF hc hs hl
  obtain ⟨k0, hk0, he⟩ := aj_ws_at (cs := gcs G) (r := r) (I := I) (J := J) (V := V) (N := N) hL
  rw [aj_el_obj hi hw.1] at he
  have hws := aj_put_ws (r := r) (cs := gcs G) (I' := aj_u I i kf x) (J' := J) (V' := V) (v := .int x) hD hk0 hi hw.1 (fun a b z => aj_u_n I x z) (fun a b z => rfl) (fun a b z => rfl) (by rw [hty, aj_u_s])
  refine va_put C.x C.b C.ts (aj_cl_in ci hw.1) (aj_ty ci) (aj_tyok ci hw.1) (aj_nm ci hw.1) C.o C.k hP hD hS k0 he (aj_cl ci hw.1) kf hw.2.1 (C.ts _ hw.2.2) (fun _ z => z) hfin (ty := aj_ty ci kf) (aj_tyok ci hw.1 kf hw.2.1) hnar hfit (by rw [List.length_map, List.length_range]; exact hw.2.1) (C.d h) (fun H1 locs1 hP1 hD1 hS1 => ?_)
  have hP1 : va_P (gD G) vwCl (aj_ws (gcs G) r (aj_u I i kf x) J V N L) H1 := by rw [← hws]; exact hP1
  have hD1 : va_D (gA G) (aj_ws (gcs G) r (aj_u I i kf x) J V N L) := by rw [← hws]; exact hD1
  exact kk r H1 locs1 cells slots ls hP1 hD1 hS1 hLL hF hc hs hl
-- constants
theorem x_ldcS0 (C : aj_C G cc tbl "RaywalkModel" R0 nL) (k : Nat) (h : tbl[k]? = some (pc, .ldc 220, 2)) (hq : pc + 2 = q) (kk : aj_X G q lv (.ref 28 :: st) I J V N L bc bs) : aj_X G pc lv st I J V N L bc bs := by
  subst hq
  intro r H locs cells slots ls hP hD hS hLL hF hc hs hl
  have e : r 28 = gr G 28 := hF 28 (fun h => C.f 28 h (Or.inl rfl))
  refine va_ldcS C.x C.b C.o (tx := "") (q := r 28) ?_ (C.d h) (kk r H locs cells slots ls hP hD hS hLL hF hc hs hl)
  rw [e]; exact C.gw.1.2.2.2.2.2.1
theorem x_ldcS1 (C : aj_C G cc tbl "RaywalkModel" R0 nL) (k : Nat) (h : tbl[k]? = some (pc, .ldc 222, 2)) (hq : pc + 2 = q) (kk : aj_X G q lv (.ref 44 :: st) I J V N L bc bs) : aj_X G pc lv st I J V N L bc bs := by
  subst hq
  intro r H locs cells slots ls hP hD hS hLL hF hc hs hl
  have e : r 44 = gr G 44 := hF 44 (fun h => C.f 44 h (Or.inl rfl))
  refine va_ldcS C.x C.b C.o (tx := " ") (q := r 44) ?_ (C.d h) (kk r H locs cells slots ls hP hD hS hLL hF hc hs hl)
  rw [e]; exact C.gw.1.2.2.2.2.2.2.1
theorem aj_kr {r : Nat → Nat} (C : aj_C G cc tbl own R0 nL) (hF : ∀ i, i ∉ gF G → r i = gr G i) (i : Nat) : r (28 + 16 * i) = gr G (28 + 16 * i) ∧ r (60 + 16 * i) = gr G (60 + 16 * i) := ⟨hF _ (fun h => C.f _ h (Or.inl (by omega))), hF _ (fun h => C.f _ h (Or.inl (by omega)))⟩
theorem x_kgetV (C : aj_C G cc tbl own R0 nL) (k : Nat) {idx i : Nat} (h : tbl[k]? = some (pc, .getfield idx, 3)) (hq : pc + 3 = q) (hw : Cond.fieldLink own idx "java/lang/String" "value" "[B" ∈ aj_TB) (hi : i < 2) (kk : aj_X G q lv (.ref (60 + 16 * i) :: st) I J V N L bc bs) : aj_X G pc lv (.ref (28 + 16 * i) :: st) I J V N L bc bs := by
  subst hq
  intro r H locs cells slots ls hP hD hS hLL hF hc hs hl
  have e := aj_kr C hF i
  refine vk_getf C.x C.b (q := r (28 + 16 * i)) (v := .ref (r (60 + 16 * i))) ?_ hS C.o (C.ts _ hw) (fun _ z => z) (C.d h) (kk r H locs cells slots ls hP hD hS hLL hF hc hs hl)
  rw [e.1, e.2]; exact (C.gw.1.2.2.2.2.1.2.2.2.1 i hi).2.2.1
theorem x_kgetC (C : aj_C G cc tbl own R0 nL) (k : Nat) {idx i : Nat} (h : tbl[k]? = some (pc, .getfield idx, 3)) (hq : pc + 3 = q) (hw : Cond.fieldLink own idx "java/lang/String" "coder" "B" ∈ aj_TB) (hi : i < 2) (kk : aj_X G q lv (.int 0 :: st) I J V N L bc bs) : aj_X G pc lv (.ref (28 + 16 * i) :: st) I J V N L bc bs := by
  subst hq
  intro r H locs cells slots ls hP hD hS hLL hF hc hs hl
  have e := aj_kr C hF i
  refine vk_getf C.x C.b (q := r (28 + 16 * i)) (v := .int 0) ?_ hS C.o (C.ts _ hw) (fun _ z => z) (C.d h) (kk r H locs cells slots ls hP hD hS hLL hF hc hs hl)
  rw [e.1]; exact (C.gw.1.2.2.2.2.1.2.2.2.1 i hi).2.1
theorem x_klen (C : aj_C G cc tbl own R0 nL) (k : Nat) {i : Nat} (h : tbl[k]? = some (pc, .arraylength, 1)) (hq : pc + 1 = q) (hi : i < 2) (kk : aj_X G q lv (.int (Int32.ofNat (aj_kl i)) :: st) I J V N L bc bs) : aj_X G pc lv (.ref (60 + 16 * i) :: st) I J V N L bc bs := by
  subst hq
  intro r H locs cells slots ls hP hD hS hLL hF hc hs hl
  have e := aj_kr C hF i
  refine va_tlen C.x C.b (t := r (60 + 16 * i)) (N := aj_kl i) (f := fun j => .int ((([[], [32]] : List (List Int32)).getD i []).getD j 0)) (ty := .byte) ?_ hS rfl (C.d h) (kk r H locs cells slots ls hP hD hS hLL hF hc hs hl)
  rw [e.2]; exact (C.gw.1.2.2.2.2.1.2.2.2.1 i hi).2.2.2
-- CALLS
section IT
variable {idx maxL n bc' bs' : Nat} {y : MethodName} {bytes : ByteArray} {ret : Option FieldType} {rm : Room} {F' : List Nat} {As : List Value} {a : Nat}
/-- of a constant -/
theorem x_invK {i : Nat} (C : aj_C G cc tbl own R0 nL) (k : Nat) (h : tbl[k]? = some (pc, .invokevirtual idx, 3)) (hq : pc + 3 = q) (hl : Cond.methodLink own idx y ∈ aj_TB) (cd : aj_cd y bytes maxL ret n) (cv : Cond.instanceMethod y ∈ aj_TB ∧ Cond.selects y.cls y y ∈ aj_TB) (hy : y.cls = "java/lang/String") (hi : i < 2)
    (hn : As.length = n) (hroom : rm.frames + 1 ≤ R0.frames ∧ 8 + (maxL + 11) + rm.locals ≤ R0.locals) (hst : (st.map fun v => v.category).sum ≤ 8) (hF' : ∀ i ∈ F', i ∈ gF G) (hno : ∀ i ∈ F', aj_no i lv st) (hbc : bc = rm.cells + bc') (hbs : bs = rm.slots + bs')
    (hM : aj_M (gl G) y (Cond.code y bytes maxL ret :: aj_TB) rm F' (.ref (28 + 16 * i) :: As) I J V N L (aj_kont G pc q lv st bc' bs')) : aj_X G pc lv (As.reverse ++ .ref (28 + 16 * i) :: st) I J V N L bc bs := by
  intro r H locs cells slots ls hP hD hS hLL hF hc hs hlv
  have hrec : ∃ cell : Cell, H[r (28 + 16 * i)]? = some cell ∧ cell.vm.isStatics = false ∧ (gs G).vm.findClass y.cls = some cell.cls := by
    rw [hy, (aj_kr C hF i).1]
    exact vk_recv (adK := fun i => gr G (28 + 16 * i)) (i := i) C.gw.1.2.2.2.2.1.2.2.2 hi hS
  have cw : CallW (gR G) (gs G) (ga G) own y.cls idx y bytes maxL ret (Cond.code y bytes maxL ret :: aj_TB) rm rm.cells rm.slots n := ⟨callB_of n C.ts (aj_goodIn cd.1) rfl rfl rfl (C.ts _ cd.2.1) (C.ts _ hl) cd.2.2 (by rw [C.r]; exact hroom), C.ts _ cv.1, C.ts _ cv.2⟩
  refine aj_after (rm := rm) (F' := F') (av := .ref (28 + 16 * i) :: As) (bc' := bc') (bs' := bs') hq hP hD hS hLL hF (by omega) (by omega) hlv (aj_subA C hD hS) hF' hno (vx_runV (As := As.map (aj_v r)) (b := r (28 + 16 * i)) ⟨C.x, C.b, C.ml, C.o, C.ts⟩ (hM C.st (gD G) (gcs G) r H.size) cw ⟨aj_blind, hrec, fun U hU hW => aj_pre (av := .ref (28 + 16 * i) :: As) C hP hD hS hF U hU hW⟩ rfl (by rw [List.length_map]; exact hn) hlv.1 ?_ (by rw [aj_st_cat]; exact lv_room hst) (C.d h) ⟨by omega, by omega⟩)
  show (As.reverse ++ .ref (28 + 16 * i) :: st).map (aj_v r) = (As.map (aj_v r)).reverse ++ .ref (r (28 + 16 * i)) :: st.map (aj_v r)
  rw [List.map_append, List.map_reverse]; rfl
def aj_cu (own : String) (idx : Nat) (C owner : String) (x y : MethodName) : Prop := (Cond.methodLink own idx x ∈ aj_TB ∧ Cond.sameMethod x.cls owner x.name x.desc ∈ aj_TB ∧ Cond.selects C x y ∈ aj_TB ∧ Cond.instanceMethod y ∈ aj_TB ∧ Cond.initialized y.cls ∈ aj_TB) ∧ y = ⟨owner, x.name, x.desc⟩ ∧ owner ≠ "java/lang/invoke/MethodHandle" ∧ owner ≠ "java/lang/invoke/VarHandle"
def aj_co (own : String) (idx : Nat) (C owner : String) (x y : MethodName) (b0 : ByteArray) (m0 : Nat) (r0 : Option FieldType) : Prop := (Cond.methodLink own idx x ∈ aj_TB ∧ Cond.sameMethod x.cls owner x.name x.desc ∈ aj_TB ∧ Cond.instanceMethod ⟨owner, x.name, x.desc⟩ ∈ aj_TB ∧ Cond.selects C x y ∈ aj_TB ∧ Cond.instanceMethod y ∈ aj_TB ∧ Cond.initialized y.cls ∈ aj_TB) ∧ Cond.code ⟨owner, x.name, x.desc⟩ b0 m0 r0 ∈ aj_TB ∧ owner ≠ "java/lang/invoke/MethodHandle" ∧ owner ≠ "java/lang/invoke/VarHandle"
theorem x_invCU {x : MethodName} {Cn owner : String} (C : aj_C G cc tbl own R0 nL) (k : Nat) (h : tbl[k]? = some (pc, .invokevirtual idx, 3)) (hq : pc + 3 = q)
    (cw : va_CU (gR G) (gs G) (ga G) own Cn owner idx x y bytes maxL ret (Cond.code y bytes maxL ret :: aj_TB) rm rm.cells rm.slots n) (ha : a % 16 < 7 ∧ aj_R (a % 16) = Cn) (haL : a ∈ L)
    (hn : As.length = n) (hst : (st.map fun v => v.category).sum ≤ 8) (hF' : ∀ i ∈ F', i ∈ gF G) (hno : ∀ i ∈ F', aj_no i lv st) (hbc : bc = rm.cells + bc') (hbs : bs = rm.slots + bs')
    (hM : aj_M (gl G) y (Cond.code y bytes maxL ret :: aj_TB) rm F' (.ref a :: As) I J V N L (aj_kont G pc q lv st bc' bs')) : aj_X G pc lv (As.reverse ++ .ref a :: st) I J V N L bc bs := by
  intro r H locs cells slots ls hP hD hS hLL hF hc hs hlv
  obtain ⟨k0, hk0, he⟩ := aj_ws_at (cs := gcs G) (r := r) (I := I) (J := J) (V := V) (N := N) haL
  rw [aj_el_obj rfl ha.1] at he
  have hrec := va_recv C.k hP (aj_cl (a % 16) ha.1) he
  rw [ha.2] at hrec
  refine aj_after (rm := rm) (F' := F') (av := .ref a :: As) (bc' := bc') (bs' := bs') hq hP hD hS hLL hF (by omega) (by omega) hlv (aj_subA C hD hS) hF' hno (vx_runU (As := As.map (aj_v r)) (b := r a) ⟨C.x, C.b, C.ml, C.o, C.ts⟩ (hM C.st (gD G) (gcs G) r H.size) cw ⟨aj_blind, hrec, fun U hU hW => aj_pre (av := .ref a :: As) C hP hD hS hF U hU hW⟩ rfl (by rw [List.length_map]; exact hn) hlv.1 ?_ (by rw [aj_st_cat]; exact lv_room hst) (C.d h) ⟨by omega, by omega⟩)
  show (As.reverse ++ .ref a :: st).map (aj_v r) = (As.map (aj_v r)).reverse ++ .ref (r a) :: st.map (aj_v r)
  rw [List.map_append, List.map_reverse]; rfl
theorem aj_cons_all {P : Cond → Prop} {w : Cond} {l : List Cond} (h : P w) (t : ∀ w ∈ l, P w) : ∀ w' ∈ w :: l, P w' := fun w' hw' => (List.mem_cons.mp hw').elim (fun e => e ▸ h) (t w')
theorem aj_nil_all {P : Cond → Prop} : ∀ w ∈ ([] : List Cond), P w := fun _ h => nomatch h
theorem x_invU {x : MethodName} {Cn owner : String} (C : aj_C G cc tbl own R0 nL) (k : Nat) (h : tbl[k]? = some (pc, .invokevirtual idx, 3)) (hq : pc + 3 = q) (hu : aj_cu own idx Cn owner x y) (cd : aj_cd y bytes maxL ret n) (ha : a % 16 < 7 ∧ aj_R (a % 16) = Cn) (haL : a ∈ L)
    (hn : As.length = n) (hroom : rm.frames + 1 ≤ R0.frames ∧ 8 + (maxL + 11) + rm.locals ≤ R0.locals) (hst : (st.map fun v => v.category).sum ≤ 8) (hF' : ∀ i ∈ F', i ∈ gF G) (hno : ∀ i ∈ F', aj_no i lv st) (hbc : bc = rm.cells + bc') (hbs : bs = rm.slots + bs')
    (hM : aj_M (gl G) y (Cond.code y bytes maxL ret :: aj_TB) rm F' (.ref a :: As) I J V N L (aj_kont G pc q lv st bc' bs')) : aj_X G pc lv (As.reverse ++ .ref a :: st) I J V N L bc bs :=
  x_invCU C k h hq (va_cwU n C.ts (fun w hw => by
    rcases List.mem_append.mp hw with e | e
    · exact aj_cons_all (P := fun w => w ∈ aj_TB ∧ ((w.onTables && w.keeps) = true ∨ ∃ ty, w = .arrayClass ty)) (aj_good _ hu.1.1) (aj_cons_all (aj_good _ hu.1.2.1) (aj_cons_all (aj_good _ hu.1.2.2.1) (aj_cons_all (aj_good _ hu.1.2.2.2.1) (aj_cons_all (aj_good _ hu.1.2.2.2.2) aj_nil_all)))) w e
    · exact aj_goodIn cd.1 w e) rfl rfl rfl hu.2.1 ⟨hu.2.2.1, hu.2.2.2, by have e := cd.2.2.2.2; rw [hu.2.1] at e; exact e⟩ (by rw [C.r]; exact hroom)) ha haL hn hst hF' hno hbc hbs hM
theorem x_invO {x : MethodName} {Cn owner : String} {b0 : ByteArray} {m0 : Nat} {r0 : Option FieldType} (C : aj_C G cc tbl own R0 nL) (k : Nat) (h : tbl[k]? = some (pc, .invokevirtual idx, 3)) (hq : pc + 3 = q) (hu : aj_co own idx Cn owner x y b0 m0 r0) (hd : (parseMethodDescriptor x.desc).map (fun d => d.parameters.length) = some n) (cd : aj_cd y bytes maxL ret n) (ha : a % 16 < 7 ∧ aj_R (a % 16) = Cn) (haL : a ∈ L)
    (hn : As.length = n) (hroom : rm.frames + 1 ≤ R0.frames ∧ 8 + (maxL + 11) + rm.locals ≤ R0.locals) (hst : (st.map fun v => v.category).sum ≤ 8) (hF' : ∀ i ∈ F', i ∈ gF G) (hno : ∀ i ∈ F', aj_no i lv st) (hbc : bc = rm.cells + bc') (hbs : bs = rm.slots + bs')
    (hM : aj_M (gl G) y (Cond.code y bytes maxL ret :: aj_TB) rm F' (.ref a :: As) I J V N L (aj_kont G pc q lv st bc' bs')) : aj_X G pc lv (As.reverse ++ .ref a :: st) I J V N L bc bs :=
  x_invCU C k h hq (va_cwO n C.ts (fun w hw => by
    rcases List.mem_append.mp hw with e | e
    · exact aj_cons_all (P := fun w => w ∈ aj_TB ∧ ((w.onTables && w.keeps) = true ∨ ∃ ty, w = .arrayClass ty)) (aj_good _ hu.1.1) (aj_cons_all (aj_good _ hu.1.2.1) (aj_cons_all (aj_good _ hu.1.2.2.1) (aj_cons_all (aj_good _ hu.1.2.2.2.1) (aj_cons_all (aj_good _ hu.1.2.2.2.2.1) (aj_cons_all (aj_good _ hu.1.2.2.2.2.2) aj_nil_all))))) w e
    · exact aj_goodIn cd.1 w e) rfl rfl rfl hu.2.1 ⟨hu.2.2.1, hu.2.2.2, hd⟩ (by rw [C.r]; exact hroom)) ha haL hn hst hF' hno hbc hbs hM
/-- private methods of the class above -/
theorem aj_selp {s : State} {args : Array Value} {Cn : String} {x0 y : MethodName} (h0 : (Cond.selects Cn x0 x0).before args s = true) (hc : x0.cls = y.cls) (hy : y.cls ≠ "java/lang/invoke/MethodHandle" ∧ y.cls ≠ "java/lang/invoke/VarHandle") (hpriv : (Cond.privateMethod y).before args s = true) (hinst : (Cond.instanceMethod y).before args s = true) : (Cond.selects Cn y y).before args s = true := by
  obtain ⟨c, r, m0, h1, -, h3, -, k0, h5, h6⟩ := Cond.selects_spec h0
  obtain ⟨mk, methM, hnamed, hmethM, -, -⟩ := Cond.instanceMethod_spec hinst
  have hfound : s.methodFound? y.cls y.name y.desc = some mk := State.methodFound?_of_named hnamed hy
  have hcls : mk.cls = m0.cls := Option.some.inj ((findClass_of_methodNamed hnamed).symm.trans (by rw [← hc]; exact findClass_of_methodNamed h3))
  have hsel : selectMethod {} s.vm c mk = .method mk := selectMethod_private hmethM (Cond.privateMethod_at hpriv mk methM hnamed hmethM)
  simp only [Cond.before, Cond.holds, Cond.value, h1, hfound, hnamed, hsel, hcls, h5]
  simp; exact h6
/-- super.m(..) -/
def aj_su (own : String) (idx : Nat) (y : MethodName) : Prop := (Cond.methodLink own idx y ∈ aj_TB ∧ Cond.sameMethod y.cls y.cls y.name y.desc ∈ aj_TB ∧ Cond.superclass own y.cls ∈ aj_TB ∧ Cond.instanceMethod y ∈ aj_TB ∧ Cond.initialized y.cls ∈ aj_TB) ∧ y.name ≠ "<init>"
theorem x_invSu (C : aj_C G cc tbl own R0 nL) (k : Nat) (h : tbl[k]? = some (pc, .invokespecial idx, 3)) (hq : pc + 3 = q) (hu : aj_su own idx y) (cd : aj_cd y bytes maxL ret n) (ha : a % 16 < 7 ∧ aj_R (a % 16) = own) (haL : a ∈ L)
    (hn : As.length = n) (hroom : rm.frames + 1 ≤ R0.frames ∧ 8 + (maxL + 11) + rm.locals ≤ R0.locals) (hst : (st.map fun v => v.category).sum ≤ 8) (hF' : ∀ i ∈ F', i ∈ gF G) (hno : ∀ i ∈ F', aj_no i lv st) (hbc : bc = rm.cells + bc') (hbs : bs = rm.slots + bs')
    (hM : aj_M (gl G) y (Cond.code y bytes maxL ret :: aj_TB) rm F' (.ref a :: As) I J V N L (aj_kont G pc q lv st bc' bs')) : aj_X G pc lv (As.reverse ++ .ref a :: st) I J V N L bc bs := by
  intro r H locs cells slots ls hP hD hS hLL hF hc hs hlv
  obtain ⟨k0, hk0, he⟩ := aj_ws_at (cs := gcs G) (r := r) (I := I) (J := J) (V := V) (N := N) haL
  rw [aj_el_obj rfl ha.1] at he
  have hrec := va_recv C.k hP (aj_cl (a % 16) ha.1) he
  have hat := (C.k.1 (a % 16) _ (aj_cl (a % 16) ha.1)).2
  rw [ha.2] at hrec
  have hat : ClassAt (gs G) own ((gD G).1 (a % 16)) := by rw [← ha.2]; exact hat
  have cw : va_CS (gR G) (gs G) (ga G) own idx y bytes maxL ret (Cond.code y bytes maxL ret :: aj_TB) rm rm.cells rm.slots n := va_cwSU n C.ts (fun w hw => by
    rcases List.mem_append.mp hw with e | e
    · exact aj_cons_all (P := fun w => w ∈ aj_TB ∧ ((w.onTables && w.keeps) = true ∨ ∃ ty, w = .arrayClass ty)) (aj_good _ hu.1.1) (aj_cons_all (aj_good _ hu.1.2.1) (aj_cons_all (aj_good _ hu.1.2.2.1) (aj_cons_all (aj_good _ hu.1.2.2.2.1) (aj_cons_all (aj_good _ hu.1.2.2.2.2) aj_nil_all)))) w e
    · exact aj_goodIn cd.1 w e) rfl rfl rfl ⟨hu.2, cd.2.2.2.2⟩ (by rw [C.r]; exact hroom)
  refine aj_after (rm := rm) (F' := F') (av := .ref a :: As) (bc' := bc') (bs' := bs') hq hP hD hS hLL hF (by omega) (by omega) hlv (aj_subA C hD hS) hF' hno (vx_runSU (As := As.map (aj_v r)) (b := r a) hat ⟨C.x, C.b, C.ml, C.o, C.ts⟩ (hM C.st (gD G) (gcs G) r H.size) cw ⟨aj_blind, hrec, fun U hU hW => aj_pre (av := .ref a :: As) C hP hD hS hF U hU hW⟩ rfl (by rw [List.length_map]; exact hn) hlv.1 ?_ (by rw [aj_st_cat]; exact lv_room hst) (C.d h) ⟨by omega, by omega⟩)
  show (As.reverse ++ .ref a :: st).map (aj_v r) = (As.map (aj_v r)).reverse ++ .ref (r a) :: st.map (aj_v r)
  rw [List.map_append, List.map_reverse]; rfl
end IT
theorem x_ifnonnull (C : aj_C G cc tbl own R0 nL) (k : Nat) {off : Int} {t x : Nat} (h : tbl[k]? = some (pc, .ifnonnull off, 3)) (ht : (pc : Int) + off = (t : Int)) (kk : aj_X G t lv st I J V N L bc bs) : aj_X G pc lv (.ref x :: st) I J V N L bc bs :=
  fun r H locs cells slots ls hP hD hS hLL hF hc hs hl => lv_ifnonnull C.x C.b (C.d h) ht (kk r H locs cells slots ls hP hD hS hLL hF hc hs hl)
theorem y_U0 {idx maxL r1 r2 c2 s2 c1 s1 bc' bs' : Nat} {y : MethodName} {bytes : ByteArray} {F' : List Nat} {ret : Option FieldType} {a : Nat} {x : MethodName} {Cn owner : String} (C : aj_C G cc tbl own (aj_rm r2 c2 s2) nL) (k : Nat) (h : tbl[k]? = some (pc, .invokevirtual idx, 3)) (hq : pc + 3 = q) (hu : aj_cu own idx Cn owner x y) (cd : aj_cd y bytes maxL ret 0) (ha : a % 16 < 7 ∧ aj_R (a % 16) = Cn) (haL : a ∈ L) (hr : r1 < r2) (hm : maxL ≤ 13) (hst : (st.map fun v => v.category).sum ≤ 8) (hbc : bc = c1 + bc') (hbs : bs = s1 + bs') (hF' : ∀ i ∈ F', i ∈ gF G) (hno : ∀ i ∈ F', aj_no i lv st) (hM : aj_M (gl G) y (aj_wc y bytes maxL ret) (aj_rm r1 c1 s1) F' (.ref a :: []) I J V N L (aj_kont G pc q lv st bc' bs')) : aj_X G pc lv (.ref a :: st) I J V N L bc bs := x_invU (As := []) C k h hq hu cd ha haL rfl (aj_hr hr hm) hst hF' hno hbc hbs hM
theorem y_U1 {idx maxL r1 r2 c2 s2 c1 s1 bc' bs' : Nat} {y : MethodName} {bytes : ByteArray} {F' : List Nat} {p0 : Value} {ret : Option FieldType} {a : Nat} {x : MethodName} {Cn owner : String} (C : aj_C G cc tbl own (aj_rm r2 c2 s2) nL) (k : Nat) (h : tbl[k]? = some (pc, .invokevirtual idx, 3)) (hq : pc + 3 = q) (hu : aj_cu own idx Cn owner x y) (cd : aj_cd y bytes maxL ret 1) (ha : a % 16 < 7 ∧ aj_R (a % 16) = Cn) (haL : a ∈ L) (hr : r1 < r2) (hm : maxL ≤ 13) (hst : (st.map fun v => v.category).sum ≤ 8) (hbc : bc = c1 + bc') (hbs : bs = s1 + bs') (hF' : ∀ i ∈ F', i ∈ gF G) (hno : ∀ i ∈ F', aj_no i lv st) (hM : aj_M (gl G) y (aj_wc y bytes maxL ret) (aj_rm r1 c1 s1) F' (.ref a :: [p0]) I J V N L (aj_kont G pc q lv st bc' bs')) : aj_X G pc lv (p0 :: .ref a :: st) I J V N L bc bs := x_invU (As := [p0]) C k h hq hu cd ha haL rfl (aj_hr hr hm) hst hF' hno hbc hbs hM
theorem y_U2 {idx maxL r1 r2 c2 s2 c1 s1 bc' bs' : Nat} {y : MethodName} {bytes : ByteArray} {F' : List Nat} {p0 p1 : Value} {ret : Option FieldType} {a : Nat} {x : MethodName} {Cn owner : String} (C : aj_C G cc tbl own (aj_rm r2 c2 s2) nL) (k : Nat) (h : tbl[k]? = some (pc, .invokevirtual idx, 3)) (hq : pc + 3 = q) (hu : aj_cu own idx Cn owner x y) (cd : aj_cd y bytes maxL ret 2) (ha : a % 16 < 7 ∧ aj_R (a % 16) = Cn) (haL : a ∈ L) (hr : r1 < r2) (hm : maxL ≤ 13) (hst : (st.map fun v => v.category).sum ≤ 8) (hbc : bc = c1 + bc') (hbs : bs = s1 + bs') (hF' : ∀ i ∈ F', i ∈ gF G) (hno : ∀ i ∈ F', aj_no i lv st) (hM : aj_M (gl G) y (aj_wc y bytes maxL ret) (aj_rm r1 c1 s1) F' (.ref a :: [p0, p1]) I J V N L (aj_kont G pc q lv st bc' bs')) : aj_X G pc lv (p1 :: p0 :: .ref a :: st) I J V N L bc bs := x_invU (As := [p0, p1]) C k h hq hu cd ha haL rfl (aj_hr hr hm) hst hF' hno hbc hbs hM
theorem y_O0 {idx maxL r1 r2 c2 s2 c1 s1 bc' bs' : Nat} {y : MethodName} {bytes : ByteArray} {F' : List Nat} {ret : Option FieldType} {a : Nat} {x : MethodName} {Cn owner : String} {b0 : ByteArray} {m0 : Nat} {r0 : Option FieldType} (C : aj_C G cc tbl own (aj_rm r2 c2 s2) nL) (k : Nat) (h : tbl[k]? = some (pc, .invokevirtual idx, 3)) (hq : pc + 3 = q) (hu : aj_co own idx Cn owner x y b0 m0 r0) (hd : (parseMethodDescriptor x.desc).map (fun d => d.parameters.length) = some 0) (cd : aj_cd y bytes maxL ret 0) (ha : a % 16 < 7 ∧ aj_R (a % 16) = Cn) (haL : a ∈ L) (hr : r1 < r2) (hm : maxL ≤ 13) (hst : (st.map fun v => v.category).sum ≤ 8) (hbc : bc = c1 + bc') (hbs : bs = s1 + bs') (hF' : ∀ i ∈ F', i ∈ gF G) (hno : ∀ i ∈ F', aj_no i lv st) (hM : aj_M (gl G) y (aj_wc y bytes maxL ret) (aj_rm r1 c1 s1) F' (.ref a :: []) I J V N L (aj_kont G pc q lv st bc' bs')) : aj_X G pc lv (.ref a :: st) I J V N L bc bs := x_invO (As := []) C k h hq hu hd cd ha haL rfl (aj_hr hr hm) hst hF' hno hbc hbs hM
theorem y_P0 {idx maxL r1 r2 c2 s2 c1 s1 bc' bs' : Nat} {y : MethodName} {bytes : ByteArray} {F' : List Nat} {ret : Option FieldType} {a : Nat} (C : aj_C G cc tbl own (aj_rm r2 c2 s2) nL) (k : Nat) (h : tbl[k]? = some (pc, .invokespecial idx, 3)) (hq : pc + 3 = q) (hu : aj_su own idx y) (cd : aj_cd y bytes maxL ret 0) (ha : a % 16 < 7 ∧ aj_R (a % 16) = own) (haL : a ∈ L) (hr : r1 < r2) (hm : maxL ≤ 13) (hst : (st.map fun v => v.category).sum ≤ 8) (hbc : bc = c1 + bc') (hbs : bs = s1 + bs') (hF' : ∀ i ∈ F', i ∈ gF G) (hno : ∀ i ∈ F', aj_no i lv st) (hM : aj_M (gl G) y (aj_wc y bytes maxL ret) (aj_rm r1 c1 s1) F' (.ref a :: []) I J V N L (aj_kont G pc q lv st bc' bs')) : aj_X G pc lv (.ref a :: st) I J V N L bc bs := x_invSu (As := []) C k h hq hu cd ha haL rfl (aj_hr hr hm) hst hF' hno hbc hbs hM
theorem y_P1 {idx maxL r1 r2 c2 s2 c1 s1 bc' bs' : Nat} {y : MethodName} {bytes : ByteArray} {F' : List Nat} {p0 : Value} {ret : Option FieldType} {a : Nat} (C : aj_C G cc tbl own (aj_rm r2 c2 s2) nL) (k : Nat) (h : tbl[k]? = some (pc, .invokespecial idx, 3)) (hq : pc + 3 = q) (hu : aj_su own idx y) (cd : aj_cd y bytes maxL ret 1) (ha : a % 16 < 7 ∧ aj_R (a % 16) = own) (haL : a ∈ L) (hr : r1 < r2) (hm : maxL ≤ 13) (hst : (st.map fun v => v.category).sum ≤ 8) (hbc : bc = c1 + bc') (hbs : bs = s1 + bs') (hF' : ∀ i ∈ F', i ∈ gF G) (hno : ∀ i ∈ F', aj_no i lv st) (hM : aj_M (gl G) y (aj_wc y bytes maxL ret) (aj_rm r1 c1 s1) F' (.ref a :: [p0]) I J V N L (aj_kont G pc q lv st bc' bs')) : aj_X G pc lv (p0 :: .ref a :: st) I J V N L bc bs := x_invSu (As := [p0]) C k h hq hu cd ha haL rfl (aj_hr hr hm) hst hF' hno hbc hbs hM
theorem y_K0 {idx maxL r1 r2 c2 s2 c1 s1 bc' bs' : Nat} {y : MethodName} {bytes : ByteArray} {F' : List Nat} {ret : Option FieldType} {i : Nat} (C : aj_C G cc tbl own (aj_rm r2 c2 s2) nL) (k : Nat) (h : tbl[k]? = some (pc, .invokevirtual idx, 3)) (hq : pc + 3 = q) (hl : Cond.methodLink own idx y ∈ aj_TB) (cd : aj_cd y bytes maxL ret 0) (cv : aj_cv y) (hy : y.cls = "java/lang/String") (hi : i < 2) (hr : r1 < r2) (hm : maxL ≤ 13) (hst : (st.map fun v => v.category).sum ≤ 8) (hbc : bc = c1 + bc') (hbs : bs = s1 + bs') (hF' : ∀ i ∈ F', i ∈ gF G) (hno : ∀ i ∈ F', aj_no i lv st) (hM : aj_M (gl G) y (aj_wc y bytes maxL ret) (aj_rm r1 c1 s1) F' (.ref (28 + 16 * i) :: []) I J V N L (aj_kont G pc q lv st bc' bs')) : aj_X G pc lv (.ref (28 + 16 * i) :: st) I J V N L bc bs := x_invK (As := []) C k h hq hl cd cv hy hi rfl (aj_hr hr hm) hst hF' hno hbc hbs hM
theorem y_K3 {idx maxL r1 r2 c2 s2 c1 s1 bc' bs' : Nat} {y : MethodName} {bytes : ByteArray} {F' : List Nat} {p0 p1 p2 : Value} {ret : Option FieldType} {i : Nat} (C : aj_C G cc tbl own (aj_rm r2 c2 s2) nL) (k : Nat) (h : tbl[k]? = some (pc, .invokevirtual idx, 3)) (hq : pc + 3 = q) (hl : Cond.methodLink own idx y ∈ aj_TB) (cd : aj_cd y bytes maxL ret 3) (cv : aj_cv y) (hy : y.cls = "java/lang/String") (hi : i < 2) (hr : r1 < r2) (hm : maxL ≤ 13) (hst : (st.map fun v => v.category).sum ≤ 8) (hbc : bc = c1 + bc') (hbs : bs = s1 + bs') (hF' : ∀ i ∈ F', i ∈ gF G) (hno : ∀ i ∈ F', aj_no i lv st) (hM : aj_M (gl G) y (aj_wc y bytes maxL ret) (aj_rm r1 c1 s1) F' (.ref (28 + 16 * i) :: [p0, p1, p2]) I J V N L (aj_kont G pc q lv st bc' bs')) : aj_X G pc lv (p2 :: p1 :: p0 :: .ref (28 + 16 * i) :: st) I J V N L bc bs := x_invK (As := [p0, p1, p2]) C k h hq hl cd cv hy hi rfl (aj_hr hr hm) hst hF' hno hbc hbs hM
theorem y_G0 {idx maxL r1 r2 c2 s2 c1 s1 bc' bs' : Nat} {y : MethodName} {bytes : ByteArray} {F' : List Nat} {ret : Option FieldType} {a : Nat} (C : aj_C G cc tbl own (aj_rm r2 c2 s2) nL) (k : Nat) (h : tbl[k]? = some (pc, .invokevirtual idx, 3)) (hq : pc + 3 = q) (hl : Cond.methodLink own idx y ∈ aj_TB) (cd : aj_cd y bytes maxL ret 0) (cv : aj_cv y) (ha : a % 16 < 7 ∧ aj_R (a % 16) = y.cls) (haL : a ∈ L) (hr : r1 < r2) (hm : maxL ≤ 13) (hst : (st.map fun v => v.category).sum ≤ 8) (hbc : bc = c1 + bc') (hbs : bs = s1 + bs') (hF' : ∀ i ∈ F', i ∈ gF G) (hno : ∀ i ∈ F', aj_no i lv st) (hM : aj_M (gl G) y (aj_wc y bytes maxL ret) (aj_rm r1 c1 s1) F' (.ref a :: []) I J V N L (aj_kont G pc q lv st bc' bs')) : aj_X G pc lv (.ref a :: st) I J V N L bc bs := x_invV (As := []) C k h hq hl cd cv ha haL rfl (aj_hr hr hm) hst hF' hno hbc hbs hM
theorem y_G1 {idx maxL r1 r2 c2 s2 c1 s1 bc' bs' : Nat} {y : MethodName} {bytes : ByteArray} {F' : List Nat} {p0 : Value} {ret : Option FieldType} {a : Nat} (C : aj_C G cc tbl own (aj_rm r2 c2 s2) nL) (k : Nat) (h : tbl[k]? = some (pc, .invokevirtual idx, 3)) (hq : pc + 3 = q) (hl : Cond.methodLink own idx y ∈ aj_TB) (cd : aj_cd y bytes maxL ret 1) (cv : aj_cv y) (ha : a % 16 < 7 ∧ aj_R (a % 16) = y.cls) (haL : a ∈ L) (hr : r1 < r2) (hm : maxL ≤ 13) (hst : (st.map fun v => v.category).sum ≤ 8) (hbc : bc = c1 + bc') (hbs : bs = s1 + bs') (hF' : ∀ i ∈ F', i ∈ gF G) (hno : ∀ i ∈ F', aj_no i lv st) (hM : aj_M (gl G) y (aj_wc y bytes maxL ret) (aj_rm r1 c1 s1) F' (.ref a :: [p0]) I J V N L (aj_kont G pc q lv st bc' bs')) : aj_X G pc lv (p0 :: .ref a :: st) I J V N L bc bs := x_invV (As := [p0]) C k h hq hl cd cv ha haL rfl (aj_hr hr hm) hst hF' hno hbc hbs hM
theorem y_I0 {idx maxL r1 r2 c2 s2 c1 s1 bc' bs' : Nat} {y : MethodName} {bytes : ByteArray} {F' : List Nat} {a : Nat} (C : aj_C G cc tbl own (aj_rm r2 c2 s2) nL) (k : Nat) (h : tbl[k]? = some (pc, .invokespecial idx, 3)) (hq : pc + 3 = q) (hl : Cond.methodLink own idx y ∈ aj_TB) (cd : aj_cd y bytes maxL none 0) (cv : Cond.instanceMethod y ∈ aj_TB) (hy : y.name = "<init>") (ha : True) (hr : r1 < r2) (hm : maxL ≤ 13) (hst : (st.map fun v => v.category).sum ≤ 8) (hbc : bc = c1 + bc') (hbs : bs = s1 + bs') (hF' : ∀ i ∈ F', i ∈ gF G) (hno : ∀ i ∈ F', aj_no i lv st) (hM : aj_M (gl G) y (aj_wc y bytes maxL none) (aj_rm r1 c1 s1) F' (.ref a :: []) I J V N L (aj_kont G pc q lv st bc' bs')) : aj_X G pc lv (.ref a :: st) I J V N L bc bs := x_invI (As := []) C k h hq hl cd cv hy rfl (aj_hr hr hm) hst hF' hno hbc hbs hM
theorem y_I1 {idx maxL r1 r2 c2 s2 c1 s1 bc' bs' : Nat} {y : MethodName} {bytes : ByteArray} {F' : List Nat} {p0 : Value} {a : Nat} (C : aj_C G cc tbl own (aj_rm r2 c2 s2) nL) (k : Nat) (h : tbl[k]? = some (pc, .invokespecial idx, 3)) (hq : pc + 3 = q) (hl : Cond.methodLink own idx y ∈ aj_TB) (cd : aj_cd y bytes maxL none 1) (cv : Cond.instanceMethod y ∈ aj_TB) (hy : y.name = "<init>") (ha : True) (hr : r1 < r2) (hm : maxL ≤ 13) (hst : (st.map fun v => v.category).sum ≤ 8) (hbc : bc = c1 + bc') (hbs : bs = s1 + bs') (hF' : ∀ i ∈ F', i ∈ gF G) (hno : ∀ i ∈ F', aj_no i lv st) (hM : aj_M (gl G) y (aj_wc y bytes maxL none) (aj_rm r1 c1 s1) F' (.ref a :: [p0]) I J V N L (aj_kont G pc q lv st bc' bs')) : aj_X G pc lv (p0 :: .ref a :: st) I J V N L bc bs := x_invI (As := [p0]) C k h hq hl cd cv hy rfl (aj_hr hr hm) hst hF' hno hbc hbs hM
theorem y_I2 {idx maxL r1 r2 c2 s2 c1 s1 bc' bs' : Nat} {y : MethodName} {bytes : ByteArray} {F' : List Nat} {p0 p1 : Value} {a : Nat} (C : aj_C G cc tbl own (aj_rm r2 c2 s2) nL) (k : Nat) (h : tbl[k]? = some (pc, .invokespecial idx, 3)) (hq : pc + 3 = q) (hl : Cond.methodLink own idx y ∈ aj_TB) (cd : aj_cd y bytes maxL none 2) (cv : Cond.instanceMethod y ∈ aj_TB) (hy : y.name = "<init>") (ha : True) (hr : r1 < r2) (hm : maxL ≤ 13) (hst : (st.map fun v => v.category).sum ≤ 8) (hbc : bc = c1 + bc') (hbs : bs = s1 + bs') (hF' : ∀ i ∈ F', i ∈ gF G) (hno : ∀ i ∈ F', aj_no i lv st) (hM : aj_M (gl G) y (aj_wc y bytes maxL none) (aj_rm r1 c1 s1) F' (.ref a :: [p0, p1]) I J V N L (aj_kont G pc q lv st bc' bs')) : aj_X G pc lv (p1 :: p0 :: .ref a :: st) I J V N L bc bs := x_invI (As := [p0, p1]) C k h hq hl cd cv hy rfl (aj_hr hr hm) hst hF' hno hbc hbs hM
theorem y_T1 {idx maxL r1 r2 c2 s2 c1 s1 bc' bs' : Nat} {y : MethodName} {bytes : ByteArray} {F' : List Nat} {p0 : Value} {ret : Option FieldType} (C : aj_C G cc tbl own (aj_rm r2 c2 s2) nL) (k : Nat) (h : tbl[k]? = some (pc, .invokestatic idx, 3)) (hq : pc + 3 = q) (hl : Cond.methodLink own idx y ∈ aj_TB) (cd : aj_cd y bytes maxL ret 1) (cv : Cond.static y ∈ aj_TB) (hr : r1 < r2) (hm : maxL ≤ 13) (hst : (st.map fun v => v.category).sum ≤ 8) (hbc : bc = c1 + bc') (hbs : bs = s1 + bs') (hF' : ∀ i ∈ F', i ∈ gF G) (hno : ∀ i ∈ F', aj_no i lv st) (hM : aj_M (gl G) y (aj_wc y bytes maxL ret) (aj_rm r1 c1 s1) F' [p0] I J V N L (aj_kont G pc q lv st bc' bs')) : aj_X G pc lv (p0 :: st) I J V N L bc bs := x_invS (As := [p0]) C k h hq hl cd cv rfl (aj_hr hr hm) hst hF' hno hbc hbs hM
theorem y_T2 {idx maxL r1 r2 c2 s2 c1 s1 bc' bs' : Nat} {y : MethodName} {bytes : ByteArray} {F' : List Nat} {p0 p1 : Value} {ret : Option FieldType} (C : aj_C G cc tbl own (aj_rm r2 c2 s2) nL) (k : Nat) (h : tbl[k]? = some (pc, .invokestatic idx, 3)) (hq : pc + 3 = q) (hl : Cond.methodLink own idx y ∈ aj_TB) (cd : aj_cd y bytes maxL ret 2) (cv : Cond.static y ∈ aj_TB) (hr : r1 < r2) (hm : maxL ≤ 13) (hst : (st.map fun v => v.category).sum ≤ 8) (hbc : bc = c1 + bc') (hbs : bs = s1 + bs') (hF' : ∀ i ∈ F', i ∈ gF G) (hno : ∀ i ∈ F', aj_no i lv st) (hM : aj_M (gl G) y (aj_wc y bytes maxL ret) (aj_rm r1 c1 s1) F' [p0, p1] I J V N L (aj_kont G pc q lv st bc' bs')) : aj_X G pc lv (p1 :: p0 :: st) I J V N L bc bs := x_invS (As := [p0, p1]) C k h hq hl cd cv rfl (aj_hr hr hm) hst hF' hno hbc hbs hM
theorem y_T3 {idx maxL r1 r2 c2 s2 c1 s1 bc' bs' : Nat} {y : MethodName} {bytes : ByteArray} {F' : List Nat} {p0 p1 p2 : Value} {ret : Option FieldType} (C : aj_C G cc tbl own (aj_rm r2 c2 s2) nL) (k : Nat) (h : tbl[k]? = some (pc, .invokestatic idx, 3)) (hq : pc + 3 = q) (hl : Cond.methodLink own idx y ∈ aj_TB) (cd : aj_cd y bytes maxL ret 3) (cv : Cond.static y ∈ aj_TB) (hr : r1 < r2) (hm : maxL ≤ 13) (hst : (st.map fun v => v.category).sum ≤ 8) (hbc : bc = c1 + bc') (hbs : bs = s1 + bs') (hF' : ∀ i ∈ F', i ∈ gF G) (hno : ∀ i ∈ F', aj_no i lv st) (hM : aj_M (gl G) y (aj_wc y bytes maxL ret) (aj_rm r1 c1 s1) F' [p0, p1, p2] I J V N L (aj_kont G pc q lv st bc' bs')) : aj_X G pc lv (p2 :: p1 :: p0 :: st) I J V N L bc bs := x_invS (As := [p0, p1, p2]) C k h hq hl cd cv rfl (aj_hr hr hm) hst hF' hno hbc hbs hM

end AJT
