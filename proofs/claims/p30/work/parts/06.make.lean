section AJ3
variable {G : aj_G} {cc : ByteArray} {tbl : List (Nat × Instr × Nat)} {own : String} {R0 : Room} {nL : Nat} {pc q : Nat} {lv lv' : List (Option Value)} {st st' : List Value} {I : Nat → Nat → Int32} {J : Nat → Nat → Int64} {V : Nat → Nat → Option Nat} {N : Nat → Nat} {L : List Nat} {bc bs : Nat}
-- A private field of a nest mate (RaywalkLaw and its Out)
def aj_FN (own : String) (idx ci kf : Nat) (host : String) : Prop := ci < 7 ∧ kf < aj_n ci ∧ own = "RaywalkLaw" ∧ host = "RaywalkLaw" ∧ Cond.fieldLinkNest "RaywalkLaw" idx (aj_T ci kf).1 (aj_T ci kf).2.1 (aj_T ci kf).2.2.1 "RaywalkLaw" = .fieldLinkNest "RaywalkLaw" 13 "RaywalkLaw$Out" "n" "J" "RaywalkLaw"
theorem aj_fn_use (C : aj_C G cc tbl own R0 nL) {idx ci kf : Nat} {host : String} (hw : aj_FN own idx ci kf host) : (Cond.fieldLinkNest own idx (aj_T ci kf).1 (aj_T ci kf).2.1 (aj_T ci kf).2.2.1 host).before (ga G) (gs G) = true := by
  obtain ⟨-, -, rfl, rfl, h⟩ := hw
  rw [h]
  exact va_Nw.use rfl C.gw.2.2.2.1
theorem x_getJN (C : aj_C G cc tbl own R0 nL) (k : Nat) {idx i ci kf : Nat} {host : String} (h : tbl[k]? = some (pc, .getfield idx, 3)) (hq : pc + 3 = q) (hw : aj_FN own idx ci kf host) (hty : ∀ r i, aj_fv r I J V i kf (aj_ty ci kf) = .long (J i kf)) (hi : i % 16 = ci) (hL : i ∈ L) (kk : aj_X G q lv (.long (J i kf) :: st) I J V N L bc bs) : aj_X G pc lv (.ref i :: st) I J V N L bc bs := by
  subst hq
  intro r H locs cells slots ls hP hD hS hLL hF hc hs hl
  obtain ⟨k0, hk0, he⟩ := aj_ws_at (cs := gcs G) (r := r) (I := I) (J := J) (V := V) (N := N) hL
  rw [aj_el_obj hi hw.1] at he
  exact va_getN C.x C.b C.ts (aj_cl_in ci hw.1) C.o C.k hP k0 he (aj_cl ci hw.1) kf hw.2.1 (aj_fn_use C hw) (fun _ z => z) ((aj_fs_at _ hw.2.1).trans (congrArg some (hty r i))) (C.d h) (kk r H locs cells slots ls hP hD hS hLL hF hc hs hl)
theorem x_putJN (C : aj_C G cc tbl own R0 nL) (k : Nat) {idx i ci kf : Nat} {host : String} {x : Int64} (h : tbl[k]? = some (pc, .putfield idx, 3)) (hq : pc + 3 = q) (hw : aj_FN own idx ci kf host) (hfin : (aj_T ci kf).2.2.2 = false) (hty : aj_ty ci kf = .long) (hi : i % 16 = ci) (hL : i ∈ L) (kk : aj_X G q lv st I (aj_u J i kf x) V N L bc bs) : aj_X G pc lv (.long x :: .ref i :: st) I J V N L bc bs := by
  subst hq
  intro r H locs cells slots ls hP hD hS hLL hF hc hs hl
  obtain ⟨k0, hk0, he⟩ := aj_ws_at (cs := gcs G) (r := r) (I := I) (J := J) (V := V) (N := N) hL
  rw [aj_el_obj hi hw.1] at he
  have hws := aj_put_ws (r := r) (cs := gcs G) (I' := I) (J' := aj_u J i kf x) (V' := V) (v := .long x) hD hk0 hi hw.1 (fun a b z => rfl) (fun a b z => aj_u_n J x z) (fun a b z => rfl) (by rw [hty]; exact congrArg Value.long (aj_u_s J i kf x))
  refine va_putN C.x C.b C.ts (aj_cl_in ci hw.1) (aj_ty ci) (aj_tyok ci hw.1) (aj_nm ci hw.1) C.o C.k hP hD hS k0 he (aj_cl ci hw.1) kf hw.2.1 (aj_fn_use C hw) (fun _ z => z) hfin (ty := .long) (by rw [aj_tyok ci hw.1 kf hw.2.1, hty]) rfl rfl (by rw [List.length_map, List.length_range]; exact hw.2.1) (C.d h) (fun H1 locs1 hP1 hD1 hS1 => ?_)
  have hP1 : va_P (gD G) vwCl (aj_ws (gcs G) r I (aj_u J i kf x) V N L) H1 := by rw [← hws]; exact hP1
  have hD1 : va_D (gA G) (aj_ws (gcs G) r I (aj_u J i kf x) V N L) := by rw [← hws]; exact hD1
  exact kk r H1 locs1 cells slots ls hP1 hD1 hS1 hLL hF hc hs hl
-- MAKING. The new object takes the number a, which no live thing speaks of
def aj_z {α : Type} (f : Nat → Nat → α) (a : Nat) (z : α) : Nat → Nat → α := fun i k => if i = a then z else f i k
theorem aj_z_s {α : Type} (f : Nat → Nat → α) (a : Nat) (z : α) : aj_z f a z a = fun _ => z := funext fun _ => if_pos rfl
theorem aj_z_o {α : Type} (f : Nat → Nat → α) {a i : Nat} (z : α) (h : i ≠ a) : aj_z f a z i = f i := funext fun _ => if_neg h
/-- no value of the frame is the object a -/
def aj_no (a : Nat) (lv : List (Option Value)) (st : List Value) : Prop := (∀ v ∈ st, v ≠ .ref a) ∧ ∀ v ∈ lv, v ≠ some (.ref a)
theorem aj_v_ur {r : Nat → Nat} {a b : Nat} {v : Value} (h : v ≠ .ref a) : aj_v (aj_ur r a b) v = aj_v r v := by
  cases v with
  | ref x =>
    have hx : x ≠ a := fun e => h (by rw [e])
    show Value.ref (aj_ur r a b x) = _
    rw [aj_ur_n r b hx]; rfl
  | _ => rfl
theorem aj_st_ur {r : Nat → Nat} {a b : Nat} {st : List Value} (h : ∀ v ∈ st, v ≠ .ref a) : st.map (aj_v (aj_ur r a b)) = st.map (aj_v r) := List.map_congr_left (fun v hv => aj_v_ur (h v hv))
theorem aj_lvs_ur {r : Nat → Nat} {a b : Nat} : ∀ {lv : List (Option Value)} (_ : ∀ v ∈ lv, v ≠ some (.ref a)) (i : Nat), aj_lvs (aj_ur r a b) i lv = aj_lvs r i lv := by
  intro lv
  induction lv with
  | nil => intro _ i; rfl
  | cons v l ih =>
    intro h i
    cases v with
    | none => exact ih (fun w hw => h w (List.mem_cons_of_mem _ hw)) (i + 1)
    | some v =>
      show (i, aj_v _ v) :: _ = (i, aj_v _ v) :: _
      rw [aj_v_ur (fun e => h (some v) List.mem_cons_self (by rw [e])), ih (fun w hw => h w (List.mem_cons_of_mem _ hw)) (i + 1)]
/-- the live objects' cells are what they were when the new number is set -/
theorem aj_el_ur {cs : Nat → ClassId} {r : Nat → Nat} {I' : Nat → Nat → Int32} {J' : Nat → Nat → Int64} {V' : Nat → Nat → Option Nat} {N' : Nat → Nat} {a b i : Nat} (hV : ∀ j, V i j ≠ some a) (h1 : I' i = I i) (h2 : J' i = J i) (h3 : V' i = V i) (h4 : N' i = N i) : aj_el cs (aj_ur r a b) I' J' V' N' i = aj_el cs r I J V N i := by
  rw [aj_el_congr (I' := I') (J' := J') (V' := V') (N' := N') h1 h2 h3 h4]
  have e : ∀ j, (V i j).map (aj_ur r a b) = (V i j).map r := by
    intro j
    cases hv : V i j with
    | none => rfl
    | some x => exact congrArg some (aj_ur_n r b (fun q => hV j (by rw [hv, q])))
  have e2 : ∀ k ty, aj_fv (aj_ur r a b) I J V i k ty = aj_fv r I J V i k ty := by
    intro k ty
    unfold aj_fv
    rw [e]
  unfold aj_el
  simp only [e, e2]
theorem aj_new_ws {cs : Nat → ClassId} {r : Nat → Nat} {I' : Nat → Nat → Int32} {J' : Nat → Nat → Int64} {V' : Nat → Nat → Option Nat} {N' : Nat → Nat} {a b : Nat} (ha : a ∉ L) (hV : ∀ i ∈ L, ∀ j, V i j ≠ some a) (h1 : ∀ i, i ≠ a → I' i = I i) (h2 : ∀ i, i ≠ a → J' i = J i) (h3 : ∀ i, i ≠ a → V' i = V i) (h4 : ∀ i, i ≠ a → N' i = N i) :
    aj_ws cs (aj_ur r a b) I' J' V' N' (L ++ [a]) = aj_ws cs r I J V N L ++ [(b, aj_el cs (aj_ur r a b) I' J' V' N' a)] := by
  unfold aj_ws
  rw [List.map_append]
  congr 1
  · refine List.map_congr_left (fun i hi => ?_)
    have hne : i ≠ a := fun e => ha (e ▸ hi)
    rw [aj_ur_n r b hne, aj_el_ur (hV i hi) (h1 i hne) (h2 i hne) (h3 i hne) (h4 i hne)]
  · show [(aj_ur r a b a, _)] = _
    rw [aj_ur_s]
theorem aj_fv_zero {r : Nat → Nat} {a k : Nat} {ty : FieldType} (h : ty ≠ .float ∧ ty ≠ .double) : aj_fv r (aj_z I a 0) (aj_z J a 0) (aj_z V a none) a k ty = defaultValue ty := by
  have e1 : aj_z I a 0 a k = 0 := if_pos rfl
  have e2 : aj_z J a 0 a k = 0 := if_pos rfl
  have e3 : aj_z V a none a k = none := if_pos rfl
  unfold aj_fv
  rw [e1, e2, e3]
  cases ty <;> first | rfl | exact absurd rfl h.1 | exact absurd rfl h.2
theorem aj_nofl : ∀ k, k < 7 → ∀ j, j < aj_n k → aj_ty k j ≠ .float ∧ aj_ty k j ≠ .double := by decide +kernel
def aj_NW (own : String) (idx ci : Nat) : Prop := ci < 7 ∧ Cond.classLink own idx (aj_R ci) ∈ aj_TB ∧ Cond.instantiable (aj_R ci) (aj_n ci) ∈ aj_TB ∧ Cond.initialized (aj_R ci) ∈ aj_TB
theorem x_new (C : aj_C G cc tbl own R0 nL) (k a : Nat) {idx ci bc' bs' : Nat} (h : tbl[k]? = some (pc, .new idx, 3)) (hq : pc + 3 = q) (hw : aj_NW own idx ci) (ha : a % 16 = ci) (haF : a ∈ gF G) (haL : a ∉ L) (hV : ∀ i ∈ L, ∀ j, V i j ≠ some a) (hno : aj_no a lv st) (hbc : bc = bc' + 1) (hbs : bs = bs' + aj_n ci)
    (kk : aj_X G q lv (.ref a :: st) (aj_z I a 0) (aj_z J a 0) (aj_z V a none) N (L ++ [a]) bc' bs') : aj_X G pc lv st I J V N L bc bs := by
  subst hq
  intro r H locs cells slots ls hP hD hS hLL hF hc hs hl
  refine va_new (fs := (List.range (aj_n ci)).map (fun j => defaultValue (aj_ty ci j))) C.x C.b C.ts (aj_cl_in ci hw.1) (aj_ty ci) (aj_tyok ci hw.1) C.o (C.ts _ hw.2.1) (C.ts _ hw.2.2.1) (C.ts _ hw.2.2.2) C.k hP hD hS C.a (aj_cl ci hw.1) (fun j hj => ?_) (by omega) (by omega) (C.d h) (fun b H1 hP1 hD1 hS1 => ?_)
  · unfold vp_V
    rw [List.getD_eq_getElem?_getD, aj_fs_at _ hj]; rfl
  · have hws := aj_new_ws (cs := gcs G) (r := r) (I := I) (J := J) (V := V) (N := N) (b := b) (I' := aj_z I a 0) (J' := aj_z J a 0) (V' := aj_z V a none) (N' := N) haL hV (fun i hi => aj_z_o I 0 hi) (fun i hi => aj_z_o J 0 hi) (fun i hi => aj_z_o V none hi) (fun i hi => rfl)
    rw [aj_el_obj ha hw.1, List.map_congr_left (fun j hj => aj_fv_zero (r := aj_ur r a b) (I := I) (J := J) (V := V) (a := a) (k := j) (aj_nofl ci hw.1 j (List.mem_range.mp hj)))] at hws
    rw [← hws] at hP1 hD1
    have hk := kk (aj_ur r a b) H1 locs (cells + 1) (slots + aj_n ci) ls hP1 hD1 hS1 (fun i hi => List.mem_append_left _ (hLL i hi)) (fun i hi => (aj_ur_n r b (fun e => hi (by rw [e]; exact haF))).trans (hF i hi)) (by omega) (by omega) (by rw [aj_lvs_ur hno.2]; exact hl)
    have e : (Value.ref a :: st).map (aj_v (aj_ur r a b)) = Value.ref b :: st.map (aj_v r) := by
      show aj_v _ (.ref a) :: st.map _ = _
      rw [aj_st_ur hno.1]
      show Value.ref (aj_ur r a b a) :: _ = _
      rw [aj_ur_s]
    rw [e] at hk
    exact hk
theorem aj_ra_prim {s : State} {cA : ClassId} {ty : FieldType} (hty : ∀ C, ty ≠ .object C) (h : va_RA s cA ty) : s.vm.findClass ("[" ++ ty.toString) = some cA := by
  cases ty with
  | object C => exact absurd rfl (hty C)
  | _ => exact h
theorem x_newI (C : aj_C G cc tbl own R0 nL) (k a : Nat) {n : Int32} {n' m bc' bs' : Nat} (h : tbl[k]? = some (pc, .newarray .int, 2)) (hq : pc + 2 = q) (hw : Cond.arrayClass .int ∈ aj_TB) (hn : ¬ n < 0) (hn' : n.toNatClampNeg = n') (hm : n' ≤ m) (hm2 : m ≤ 1000000) (ha : a % 16 = 8) (haF : a ∈ gF G) (haL : a ∉ L) (hV : ∀ i ∈ L, ∀ j, V i j ≠ some a) (hno : aj_no a lv st) (hbc : bc = bc' + 1) (hbs : bs = bs' + m)
    (kk : aj_X G q lv (.ref a :: st) (aj_z I a 0) J V (aj_ur N a n') (L ++ [a]) bc' bs') : aj_X G pc lv (.int n :: st) I J V N L bc bs := by
  subst hq
  intro r H locs cells slots ls hP hD hS hLL hF hc hs hl
  refine va_newa (atype := .int) (ty := .int) (a0 := (n', .inl (fun _ => 0))) C.x C.b (C.ts _ hw) rfl C.k hP hD hS C.a (fun cA => rfl) hn hn' (by show n' * 4 ≤ _; omega) (by omega) (by omega) (C.d h) (fun b cA H1 hK1 hP1 hD1 hS1 => ?_)
  have hcA : cA = gcs G 0 := by
    have h1 := aj_ra_prim (ty := .int) (fun _ => by simp) (hK1.2 4 (cA, .int) rfl).2
    have h2 := aj_ra_prim (ty := .int) (fun _ => by simp) (C.k.2 0 (gcs G 0, .int) rfl).2
    exact Option.some.inj (h1.symm.trans h2)
  subst hcA
  have hws := aj_new_ws (cs := gcs G) (r := r) (I := I) (J := J) (V := V) (N := N) (b := b) (I' := aj_z I a 0) (J' := J) (V' := V) (N' := aj_ur N a n') haL hV (fun i hi => aj_z_o I 0 hi) (fun i hi => rfl) (fun i hi => rfl) (fun i hi => aj_ur_n N n' hi)
  rw [aj_el_int ha, aj_z_s, aj_ur_s] at hws
  rw [← hws] at hP1 hD1
  refine W.widen (k := cells + 1) (n := slots + m) (Nat.le_refl _) (by omega) ?_
  have hk := kk (aj_ur r a b) H1 locs (cells + 1) (slots + m) ls hP1 hD1 hS1 (fun i hi => List.mem_append_left _ (hLL i hi)) (fun i hi => (aj_ur_n r b (fun e => hi (by rw [e]; exact haF))).trans (hF i hi)) (by omega) (by omega) (by rw [aj_lvs_ur hno.2]; exact hl)
  have e : (Value.ref a :: st).map (aj_v (aj_ur r a b)) = Value.ref b :: st.map (aj_v r) := by
    show aj_v _ (.ref a) :: st.map _ = _
    rw [aj_st_ur hno.1]
    show Value.ref (aj_ur r a b a) :: _ = _
    rw [aj_ur_s]
  rw [e] at hk
  exact hk
theorem x_newJ (C : aj_C G cc tbl own R0 nL) (k a : Nat) {n : Int32} {n' m bc' bs' : Nat} (h : tbl[k]? = some (pc, .newarray .long, 2)) (hq : pc + 2 = q) (hw : Cond.arrayClass .long ∈ aj_TB) (hn : ¬ n < 0) (hn' : n.toNatClampNeg = n') (hm : n' ≤ m) (hm2 : m ≤ 1000000) (ha : a % 16 = 9) (haF : a ∈ gF G) (haL : a ∉ L) (hV : ∀ i ∈ L, ∀ j, V i j ≠ some a) (hno : aj_no a lv st) (hbc : bc = bc' + 1) (hbs : bs = bs' + m)
    (kk : aj_X G q lv (.ref a :: st) I (aj_z J a 0) V (aj_ur N a n') (L ++ [a]) bc' bs') : aj_X G pc lv (.int n :: st) I J V N L bc bs := by
  subst hq
  intro r H locs cells slots ls hP hD hS hLL hF hc hs hl
  refine va_newa (atype := .long) (ty := .long) (a0 := (n', .inr (.inl (fun _ => 0)))) C.x C.b (C.ts _ hw) rfl C.k hP hD hS C.a (fun cA => rfl) hn hn' (by show n' * 8 ≤ _; omega) (by omega) (by omega) (C.d h) (fun b cA H1 hK1 hP1 hD1 hS1 => ?_)
  have hcA : cA = gcs G 1 := by
    have h1 := aj_ra_prim (ty := .long) (fun _ => by simp) (hK1.2 4 (cA, .long) rfl).2
    have h2 := aj_ra_prim (ty := .long) (fun _ => by simp) (C.k.2 1 (gcs G 1, .long) rfl).2
    exact Option.some.inj (h1.symm.trans h2)
  subst hcA
  have hws := aj_new_ws (cs := gcs G) (r := r) (I := I) (J := J) (V := V) (N := N) (b := b) (I' := I) (J' := aj_z J a 0) (V' := V) (N' := aj_ur N a n') haL hV (fun i hi => rfl) (fun i hi => aj_z_o J 0 hi) (fun i hi => rfl) (fun i hi => aj_ur_n N n' hi)
  rw [aj_el_long ha, aj_z_s, aj_ur_s] at hws
  rw [← hws] at hP1 hD1
  refine W.widen (k := cells + 1) (n := slots + m) (Nat.le_refl _) (by omega) ?_
  have hk := kk (aj_ur r a b) H1 locs (cells + 1) (slots + m) ls hP1 hD1 hS1 (fun i hi => List.mem_append_left _ (hLL i hi)) (fun i hi => (aj_ur_n r b (fun e => hi (by rw [e]; exact haF))).trans (hF i hi)) (by omega) (by omega) (by rw [aj_lvs_ur hno.2]; exact hl)
  have e : (Value.ref a :: st).map (aj_v (aj_ur r a b)) = Value.ref b :: st.map (aj_v r) := by
    show aj_v _ (.ref a) :: st.map _ = _
    rw [aj_st_ur hno.1]
    show Value.ref (aj_ur r a b a) :: _ = _
    rw [aj_ur_s]
  rw [e] at hk
  exact hk
theorem x_newR (C : aj_C G cc tbl own R0 nL) (k a : Nat) {idx : Nat} {n : Int32} {n' m bc' bs' : Nat} (h : tbl[k]? = some (pc, .anewarray idx, 3)) (hq : pc + 3 = q) (hw : Cond.classLink own idx "Raywalk$Step" ∈ aj_TB) (hn : ¬ n < 0) (hn' : n.toNatClampNeg = n') (hm : n' ≤ m) (hm2 : m ≤ 1000000) (ha : a % 16 = 11) (haF : a ∈ gF G) (haL : a ∉ L) (hV : ∀ i ∈ L, ∀ j, V i j ≠ some a) (hno : aj_no a lv st) (hbc : bc = bc' + 1) (hbs : bs = bs' + m)
    (kk : aj_X G q lv (.ref a :: st) I J (aj_z V a none) (aj_ur N a n') (L ++ [a]) bc' bs') : aj_X G pc lv (.int n :: st) I J V N L bc bs := by
  subst hq
  intro r H locs cells slots ls hP hD hS hLL hF hc hs hl
  refine va_newq C.x C.b C.o (C.ts _ hw) C.gw.2.1 C.k hP hD hS C.a hn hn' (by omega) (by omega) (by omega) (C.d h) (fun b cA H1 hK1 hP1 hD1 hS1 => ?_)
  have hcA : cA = gcs G 3 := by
    obtain ⟨_, _, _, _, _, h1⟩ := (hK1.2 4 (cA, .object "Raywalk$Step") rfl).2
    obtain ⟨_, _, _, _, _, h2⟩ := (C.k.2 3 (gcs G 3, .object "Raywalk$Step") rfl).2
    exact Option.some.inj (h1.symm.trans h2)
  subst hcA
  have hws := aj_new_ws (cs := gcs G) (r := r) (I := I) (J := J) (V := V) (N := N) (b := b) (I' := I) (J' := J) (V' := aj_z V a none) (N' := aj_ur N a n') haL hV (fun i hi => rfl) (fun i hi => rfl) (fun i hi => aj_z_o V none hi) (fun i hi => aj_ur_n N n' hi)
  rw [aj_el_refs ha, aj_z_s, aj_ur_s] at hws
  have hP1 : va_P (gD G) vwCl (aj_ws (gcs G) (aj_ur r a b) I J (aj_z V a none) (aj_ur N a n') (L ++ [a])) H1 := by rw [hws]; exact hP1
  have hD1 : va_D (gA G) (aj_ws (gcs G) (aj_ur r a b) I J (aj_z V a none) (aj_ur N a n') (L ++ [a])) := by rw [hws]; exact hD1
  refine W.widen (k := cells + 1) (n := slots + m) (Nat.le_refl _) (by omega) ?_
  have hk := kk (aj_ur r a b) H1 locs (cells + 1) (slots + m) ls hP1 hD1 hS1 (fun i hi => List.mem_append_left _ (hLL i hi)) (fun i hi => (aj_ur_n r b (fun e => hi (by rw [e]; exact haF))).trans (hF i hi)) (by omega) (by omega) (by rw [aj_lvs_ur hno.2]; exact hl)
  have e : (Value.ref a :: st).map (aj_v (aj_ur r a b)) = Value.ref b :: st.map (aj_v r) := by
    show aj_v _ (.ref a) :: st.map _ = _
    rw [aj_st_ur hno.1]
    show Value.ref (aj_ur r a b a) :: _ = _
    rw [aj_ur_s]
  rw [e] at hk
  exact hk
-- WHAT MAY BE FORGOTTEN, AND TOLD ANEW
/-- the same cells by other functions; fewer objects -/
theorem aj_conv {I' : Nat → Nat → Int32} {J' : Nat → Nat → Int64} {V' : Nat → Nat → Option Nat} {N' : Nat → Nat} {L' : List Nat} (hL : ∀ i ∈ gL G, i ∈ L') (hs : ∃ is : List Nat, va_nd is = true ∧ is.map (fun k => L[k]?) = L'.map some) (he : ∀ cs r, ∀ i ∈ L', aj_el cs r I' J' V' N' i = aj_el cs r I J V N i)
    (kk : aj_X G pc lv st I' J' V' N' L' bc bs) : aj_X G pc lv st I J V N L bc bs := by
  intro r H locs cells slots ls hP hD hS hLL hF hc hs' hl
  obtain ⟨is, hn, his⟩ := hs
  have hw : is.map (fun k => (aj_ws (gcs G) r I J V N L)[k]?) = (aj_ws (gcs G) r I J V N L').map some := by
    have e1 : is.map (fun k => (aj_ws (gcs G) r I J V N L)[k]?) = (is.map (fun k => L[k]?)).map (fun o => o.map (fun i => (r i, aj_el (gcs G) r I J V N i))) := by
      rw [List.map_map]
      refine List.map_congr_left (fun k _ => ?_)
      unfold aj_ws
      rw [List.getElem?_map]; rfl
    rw [e1, his, List.map_map]
    unfold aj_ws
    rw [List.map_map]; rfl
  have e2 : aj_ws (gcs G) r I' J' V' N' L' = aj_ws (gcs G) r I J V N L' := aj_ws_congr (fun i hi => ⟨rfl, he _ _ i hi⟩)
  have hP2 : va_P (gD G) vwCl (aj_ws (gcs G) r I J V N L') H := by
    intro k q hk
    have h1 : (is.map (fun i => (aj_ws (gcs G) r I J V N L)[i]?))[k]? = some (some q) := by rw [hw, List.getElem?_map, hk]; rfl
    rw [List.getElem?_map] at h1
    cases hi : is[k]? with
    | none => rw [hi] at h1; cases h1
    | some i => rw [hi] at h1; exact hP i q (Option.some.inj h1)
  have hD2 := hD.sub is hn hw
  rw [← e2] at hP2 hD2
  exact kk r H locs cells slots ls hP2 hD2 hS hL hF hc hs' hl
theorem aj_bud {bc' bs' : Nat} (h1 : bc' ≤ bc) (h2 : bs' ≤ bs) (kk : aj_X G pc lv st I J V N L bc' bs') : aj_X G pc lv st I J V N L bc bs :=
  fun r H locs cells slots ls hP hD hS hLL hF hc hs hl => kk r H locs cells slots ls hP hD hS hLL hF (by omega) (by omega) hl
end AJ3
