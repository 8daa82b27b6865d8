/-! THE MODEL OF THE HEAP: objects have numbers (places); a number's rest by 16 is its kind: 0 to 6 the classes of vwCl, 8 int[], 9 long[], 10 byte[], 11 Step[]; 12 to 14 things outside the world that a static holds, 15 an exception. A renaming r tells the addresses. -/
section AJ
/-- private methods of AbstractStringBuilder, chosen on a StringBuilder: said by other words of the tables -/
def aj_PM : List MethodName := [yJ5_ensureCapacityInternal_d00df, yJ5_newCapacity_0f7a4, yJ5_putStringAt_47b60, yJ5_inflateIfNeededFor_a7421]
def aj_XW : List Cond := aj_PM.map (fun y => Cond.selects RJ4 y y)
def aj_TB : List Cond := (lw_tbl ++ aj_XW).filter goodWord
def aj_R (k : Nat) : String := match k with | 0 => RJ0 | 1 => RJ4 | 2 => RX1 | 3 => RX2 | 4 => RX3 | 5 => RX4 | _ => RX5
def aj_T (k : Nat) : u_T := match k with | 0 => TJ0 | 1 => TJ4 | 2 => TX1 | 3 => TX2 | 4 => TX3 | 5 => TX4 | _ => TX5
def aj_n (k : Nat) : Nat := match k with | 0 => 4 | 1 => 4 | 2 => 9 | 3 => 4 | 4 => 10 | 5 => 1 | _ => 11
def aj_ty (k : Nat) : Nat → FieldType := match k with | 0 => tyJ0 | 1 => tyJ4 | 2 => tyX1 | 3 => tyX2 | 4 => tyX3 | 5 => tyX4 | _ => tyX5
theorem aj_cl : ∀ k, k < 7 → vwCl[k]? = some (aj_R k, aj_T k, aj_n k) := by
  intro k h
  match k, h with
  | 0, _ => rfl
  | 1, _ => rfl
  | 2, _ => rfl
  | 3, _ => rfl
  | 4, _ => rfl
  | 5, _ => rfl
  | 6, _ => rfl
set_option maxRecDepth 100000 in
theorem aj_cl_in : ∀ k, k < 7 → ∀ w ∈ u_ws (aj_R k) (aj_T k) (aj_n k), w ∈ aj_TB := by decide +kernel
theorem aj_nm : ∀ k, k < 7 → ∀ a, a < aj_n k → ∀ b, b < aj_n k → a ≠ b → (aj_T k a).2.1 ≠ (aj_T k b).2.1 := by decide +kernel
theorem aj_tyok : ∀ k, k < 7 → ∀ j, j < aj_n k → parseFieldDescriptor (aj_T k j).2.2.1 = some (aj_ty k j) := by decide +kernel
-- values with numbers for objects, and with addresses
def aj_v (r : Nat → Nat) (v : Value) : Value := match v with
  | .ref a => .ref (r a)
  | w => w
theorem aj_v_cat (r : Nat → Nat) (v : Value) : (aj_v r v).category = v.category := by cases v <;> rfl
theorem aj_st_cat (r : Nat → Nat) (st : List Value) : ((st.map (aj_v r)).map fun v => v.category) = st.map fun v => v.category := by
  rw [List.map_map]; exact List.map_congr_left (fun v _ => aj_v_cat r v)
def aj_fv (r : Nat → Nat) (I : Nat → Nat → Int32) (J : Nat → Nat → Int64) (V : Nat → Nat → Option Nat) (i k : Nat) (ty : FieldType) : Value := match ty with
  | .long => .long (J i k)
  | .object _ => va_rf ((V i k).map r)
  | .array _ => va_rf ((V i k).map r)
  | _ => .int (I i k)
def aj_el (cs : Nat → ClassId) (r : Nat → Nat) (I : Nat → Nat → Int32) (J : Nat → Nat → Int64) (V : Nat → Nat → Option Nat) (N : Nat → Nat) (i : Nat) : va_E :=
  if i % 16 < 7 then .inr (i % 16, (List.range (aj_n (i % 16))).map (fun k => aj_fv r I J V i k (aj_ty (i % 16) k)))
  else if i % 16 = 9 then .inl (cs 1, (N i, .inr (.inl (J i))))
  else if i % 16 = 11 then .inl (cs 3, (N i, .inr (.inr (.inr (.inr (fun j => (V i j).map r))))))
  else if i % 16 = 10 then .inl (cs 2, (N i, .inl (I i)))
  else .inl (cs 0, (N i, .inl (I i)))
def aj_ws (cs : Nat → ClassId) (r : Nat → Nat) (I : Nat → Nat → Int32) (J : Nat → Nat → Int64) (V : Nat → Nat → Option Nat) (N : Nat → Nat) (L : List Nat) : va_W := L.map (fun i => (r i, aj_el cs r I J V N i))
def aj_tys (cs : Nat → ClassId) : List (ClassId × FieldType) := [(cs 0, .int), (cs 1, .long), (cs 2, .byte), (cs 3, .object "Raywalk$Step")]
-- updates
def aj_u {α : Type} (f : Nat → Nat → α) (i k : Nat) (v : α) : Nat → Nat → α := fun a b => if a = i ∧ b = k then v else f a b
def aj_ur {α : Type} (f : Nat → α) (i : Nat) (v : α) : Nat → α := fun a => if a = i then v else f a
theorem aj_u_s {α : Type} (f : Nat → Nat → α) (i k : Nat) (v : α) : aj_u f i k v i k = v := if_pos ⟨rfl, rfl⟩
theorem aj_u_n {α : Type} (f : Nat → Nat → α) {i k a b : Nat} (v : α) (h : ¬ (a = i ∧ b = k)) : aj_u f i k v a b = f a b := if_neg h
theorem aj_u_o {α : Type} (f : Nat → Nat → α) {i k a : Nat} (v : α) (h : a ≠ i) : aj_u f i k v a = f a := funext fun b => if_neg (fun q => h q.1)
theorem aj_ur_s {α : Type} (f : Nat → α) (i : Nat) (v : α) : aj_ur f i v i = v := if_pos rfl
theorem aj_ur_n {α : Type} (f : Nat → α) {i a : Nat} (v : α) (h : a ≠ i) : aj_ur f i v a = f a := if_neg h
-- locals: place by place
def aj_lvs (r : Nat → Nat) : Nat → List (Option Value) → List (Nat × Value)
  | _, [] => []
  | i, none :: l => aj_lvs r (i + 1) l
  | i, some v :: l => (i, aj_v r v) :: aj_lvs r (i + 1) l
theorem aj_lvs_mem (r : Nat → Nat) : ∀ (l : List (Option Value)) (i : Nat) (q : Nat × Value), q ∈ aj_lvs r i l ↔ ∃ (k : Nat) (v : Value), l[k]? = some (some v) ∧ q = (i + k, aj_v r v) := by
  intro l
  induction l with
  | nil => intro i q; simp [aj_lvs]
  | cons a l ih =>
    intro i q
    cases a with
    | none =>
      show q ∈ aj_lvs r (i + 1) l ↔ _
      rw [ih]
      constructor
      · rintro ⟨k, v, h1, h2⟩
        exact ⟨k + 1, v, by simpa using h1, by rw [h2]; congr 1; omega⟩
      · rintro ⟨k, v, h1, h2⟩
        cases k with
        | zero => simp at h1
        | succ k => exact ⟨k, v, by simpa using h1, by rw [h2]; congr 1; omega⟩
    | some w =>
      show q ∈ (i, aj_v r w) :: aj_lvs r (i + 1) l ↔ _
      rw [List.mem_cons, ih]
      constructor
      · rintro (h | ⟨k, v, h1, h2⟩)
        · exact ⟨0, w, rfl, by rw [h]; rfl⟩
        · exact ⟨k + 1, v, by simpa using h1, by rw [h2]; congr 1; omega⟩
      · rintro ⟨k, v, h1, h2⟩
        cases k with
        | zero =>
          have h3 : w = v := by simpa using h1
          subst h3
          exact Or.inl h2
        | succ k => exact Or.inr ⟨k, v, by simpa using h1, by rw [h2]; congr 1; omega⟩
theorem aj_lh_mono {ls : Array Slot} {nL : Nat} {l l' : List (Nat × Value)} (h : lv_has ls nL l) (hs : ∀ q ∈ l', q ∈ l) : lv_has ls nL l' := ⟨h.1, h.2.1, fun q hq => h.2.2 q (hs q hq)⟩
def aj_ini : List Value → List (Option Value)
  | [] => []
  | v :: l => if v.category = 2 then some v :: none :: aj_ini l else some v :: aj_ini l
theorem aj_lvs_none (r : Nat → Nat) : ∀ (n i : Nat), aj_lvs r i (List.replicate n none) = [] := by
  intro n
  induction n with
  | zero => intro i; rfl
  | succ n ih => intro i; show aj_lvs r (i + 1) (List.replicate n none) = []; exact ih (i + 1)
theorem aj_ini_args (r : Nat → Nat) (n : Nat) : ∀ (av : List Value) (i : Nat), aj_lvs r i (aj_ini av ++ List.replicate n none) = lv_args i (av.map (aj_v r)) := by
  intro av
  induction av with
  | nil => intro i; exact aj_lvs_none r n i
  | cons v l ih =>
    intro i
    have hc := aj_v_cat r v
    show aj_lvs r i ((if v.category = 2 then some v :: none :: aj_ini l else some v :: aj_ini l) ++ List.replicate n none) = (i, aj_v r v) :: lv_args (if (aj_v r v).category = 2 then i + 2 else i + 1) (l.map (aj_v r))
    rw [hc]
    by_cases h : v.category = 2
    · rw [if_pos h, if_pos h]
      show (i, aj_v r v) :: aj_lvs r (i + 1 + 1) (aj_ini l ++ List.replicate n none) = _
      rw [ih]
    · rw [if_neg h, if_neg h]
      show (i, aj_v r v) :: aj_lvs r (i + 1) (aj_ini l ++ List.replicate n none) = _
      rw [ih]
/-- no long just ahead of place i -/
def aj_nl (lv : List (Option Value)) (i : Nat) : Prop := ∀ (j : Nat) (v : Value), lv[j]? = some (some v) → j + 1 = i → v.category = 1
theorem aj_set1 {r : Nat → Nat} {ls : Array Slot} {nL i : Nat} {lv : List (Option Value)} {v : Value} (hn : aj_nl lv i) (h : lv_has ls nL ((i, aj_v r v) :: (aj_lvs r 0 lv).filter (fun q => !(q.1 == i) && !(q.1 + 1 == i && q.2.category == 2)))) : lv_has ls nL (aj_lvs r 0 (lv.set i (some v))) := by
  refine aj_lh_mono h (fun q hq => ?_)
  obtain ⟨k, w, h1, h2⟩ := (aj_lvs_mem r _ 0 q).mp hq
  by_cases hk : i = k
  · subst hk
    have hl : i < lv.length := by
      have := (List.getElem?_eq_some_iff.mp h1).1
      simpa using this
    rw [List.getElem?_set_self hl] at h1
    cases h1
    rw [h2, Nat.zero_add]
    exact List.mem_cons_self
  · rw [List.getElem?_set_ne hk] at h1
    refine List.mem_cons_of_mem _ (List.mem_filter.mpr ⟨(aj_lvs_mem r _ 0 q).mpr ⟨k, w, h1, h2⟩, ?_⟩)
    subst h2
    by_cases h3 : k + 1 = i
    · have h4 := hn k w h1 h3
      simp [aj_v_cat, h4, Ne.symm hk]
    · simp [h3, Ne.symm hk]
theorem aj_set2 {r : Nat → Nat} {ls : Array Slot} {nL i : Nat} {lv : List (Option Value)} {v : Value} (hn : aj_nl lv i) (h : lv_has ls nL ((i, aj_v r v) :: (aj_lvs r 0 lv).filter (fun q => !(q.1 == i) && (!(q.1 == i + 1) && !(q.1 + 1 == i && q.2.category == 2))))) : lv_has ls nL (aj_lvs r 0 ((lv.set i (some v)).set (i + 1) none)) := by
  refine aj_lh_mono h (fun q hq => ?_)
  obtain ⟨k, w, h1, h2⟩ := (aj_lvs_mem r _ 0 q).mp hq
  by_cases hk1 : i + 1 = k
  · subst hk1
    have hl : i + 1 < (lv.set i (some v)).length := by
      have := (List.getElem?_eq_some_iff.mp h1).1
      simpa using this
    rw [List.getElem?_set_self hl] at h1
    cases h1
  rw [List.getElem?_set_ne hk1] at h1
  by_cases hk : i = k
  · subst hk
    have hl : i < lv.length := by
      have := (List.getElem?_eq_some_iff.mp h1).1
      simpa using this
    rw [List.getElem?_set_self hl] at h1
    cases h1
    rw [h2, Nat.zero_add]
    exact List.mem_cons_self
  · rw [List.getElem?_set_ne hk] at h1
    refine List.mem_cons_of_mem _ (List.mem_filter.mpr ⟨(aj_lvs_mem r _ 0 q).mpr ⟨k, w, h1, h2⟩, ?_⟩)
    subst h2
    by_cases h3 : k + 1 = i
    · have h4 := hn k w h1 h3
      simp [aj_v_cat, h4, Ne.symm hk, Ne.symm hk1]
    · simp [h3, Ne.symm hk, Ne.symm hk1]
theorem aj_lget {r : Nat → Nat} {ls : Array Slot} {nL i : Nat} {lv : List (Option Value)} {v : Value} (h : lv_has ls nL (aj_lvs r 0 lv)) (hv : lv[i]? = some (some v)) : ls[i]? = some (.val (aj_v r v)) := by
  have := h.2.2 (i, aj_v r v) ((aj_lvs_mem r _ 0 _).mpr ⟨i, v, hv, by rw [Nat.zero_add]⟩)
  exact this
-- places in the world
theorem aj_ws_at {cs : Nat → ClassId} {r : Nat → Nat} {I : Nat → Nat → Int32} {J : Nat → Nat → Int64} {V : Nat → Nat → Option Nat} {N : Nat → Nat} {L : List Nat} {i : Nat} (h : i ∈ L) : ∃ k : Nat, L[k]? = some i ∧ (aj_ws cs r I J V N L)[k]? = some (r i, aj_el cs r I J V N i) := by
  obtain ⟨k, hk⟩ := List.getElem?_of_mem h
  exact ⟨k, hk, by unfold aj_ws; rw [List.getElem?_map, hk]; rfl⟩
theorem aj_ws_inj {cs : Nat → ClassId} {r : Nat → Nat} {I : Nat → Nat → Int32} {J : Nat → Nat → Int64} {V : Nat → Nat → Option Nat} {N : Nat → Nat} {L : List Nat} {A : Nat → Prop} (hD : va_D A (aj_ws cs r I J V N L)) {i j : Nat} (hi : i ∈ L) (hj : j ∈ L) (h : r i = r j) : i = j := by
  obtain ⟨a, h1, h2⟩ := aj_ws_at (cs := cs) (r := r) (I := I) (J := J) (V := V) (N := N) hi
  obtain ⟨b, h3, h4⟩ := aj_ws_at (cs := cs) (r := r) (I := I) (J := J) (V := V) (N := N) hj
  have := hD.1 a b _ _ h2 h4 h
  subst this
  exact Option.some.inj (h1.symm.trans h3)
theorem aj_ws_set {cs : Nat → ClassId} {r : Nat → Nat} {I I' : Nat → Nat → Int32} {J J' : Nat → Nat → Int64} {V V' : Nat → Nat → Option Nat} {N N' : Nat → Nat} {L : List Nat} {A : Nat → Prop} (hD : va_D A (aj_ws cs r I J V N L)) {i k : Nat} (hk : L[k]? = some i) (ho : ∀ j, j ≠ i → aj_el cs r I' J' V' N' j = aj_el cs r I J V N j) :
    (aj_ws cs r I J V N L).set k (r i, aj_el cs r I' J' V' N' i) = aj_ws cs r I' J' V' N' L := by
  refine List.ext_getElem? (fun a => ?_)
  by_cases ha : k = a
  · subst ha
    have hl : k < (aj_ws cs r I J V N L).length := by
      unfold aj_ws; rw [List.length_map]; exact (List.getElem?_eq_some_iff.mp hk).1
    rw [List.getElem?_set_self hl]
    unfold aj_ws; rw [List.getElem?_map, hk]; rfl
  · rw [List.getElem?_set_ne ha]
    unfold aj_ws; rw [List.getElem?_map, List.getElem?_map]
    cases hb : L[a]? with
    | none => rfl
    | some j =>
      have hne : j ≠ i := by
        intro e
        subst e
        have h1 : (aj_ws cs r I J V N L)[k]? = some (r j, aj_el cs r I J V N j) := by unfold aj_ws; rw [List.getElem?_map, hk]; rfl
        have h2 : (aj_ws cs r I J V N L)[a]? = some (r j, aj_el cs r I J V N j) := by unfold aj_ws; rw [List.getElem?_map, hb]; rfl
        exact ha (hD.1 k a _ _ h1 h2 rfl)
      exact congrArg some (Prod.ext rfl (ho j hne).symm)
theorem aj_fv_congr {r : Nat → Nat} {I I' : Nat → Nat → Int32} {J J' : Nat → Nat → Int64} {V V' : Nat → Nat → Option Nat} {i k : Nat} {ty : FieldType} (h1 : I' i k = I i k) (h2 : J' i k = J i k) (h3 : V' i k = V i k) : aj_fv r I' J' V' i k ty = aj_fv r I J V i k ty := by
  unfold aj_fv; rw [h1, h2, h3]
theorem aj_el_congr {cs : Nat → ClassId} {r : Nat → Nat} {I I' : Nat → Nat → Int32} {J J' : Nat → Nat → Int64} {V V' : Nat → Nat → Option Nat} {N N' : Nat → Nat} {i : Nat} (h1 : I' i = I i) (h2 : J' i = J i) (h3 : V' i = V i) (h4 : N' i = N i) : aj_el cs r I' J' V' N' i = aj_el cs r I J V N i := by
  unfold aj_el
  rw [h1, h2, h3, h4]
  have : ∀ k, aj_fv r I' J' V' i k (aj_ty (i % 16) k) = aj_fv r I J V i k (aj_ty (i % 16) k) := fun k => aj_fv_congr (by rw [h1]) (by rw [h2]) (by rw [h3])
  simp only [this]
/-- the objects are as told: only what the kinds of the numbers of L tell counts -/
theorem aj_ws_congr {cs : Nat → ClassId} {r r' : Nat → Nat} {I I' : Nat → Nat → Int32} {J J' : Nat → Nat → Int64} {V V' : Nat → Nat → Option Nat} {N N' : Nat → Nat} {L : List Nat} (h : ∀ i ∈ L, r' i = r i ∧ aj_el cs r' I' J' V' N' i = aj_el cs r I J V N i) : aj_ws cs r' I' J' V' N' L = aj_ws cs r I J V N L := by
  unfold aj_ws
  exact List.map_congr_left (fun i hi => by rw [(h i hi).1, (h i hi).2])
-- THE FRAME OF A METHOD, all that stays while it runs
abbrev aj_G : Type := va_G × (Nat → ClassId) × Program × Launch × Env × Room × State × MethodId × Array Value × List Frame × Method × Code × (Nat → Prop) × Nat × (Nat → Nat) × List Nat × List Nat × (State → Prop)
abbrev gD (G : aj_G) : va_G := G.1
abbrev gcs (G : aj_G) : Nat → ClassId := G.2.1
abbrev gp (G : aj_G) : Program := G.2.2.1
abbrev gl (G : aj_G) : Launch := G.2.2.2.1
abbrev ge (G : aj_G) : Env := G.2.2.2.2.1
abbrev gR (G : aj_G) : Room := G.2.2.2.2.2.1
abbrev gs (G : aj_G) : State := G.2.2.2.2.2.2.1
abbrev gm (G : aj_G) : MethodId := G.2.2.2.2.2.2.2.1
abbrev ga (G : aj_G) : Array Value := G.2.2.2.2.2.2.2.2.1
abbrev gb (G : aj_G) : List Frame := G.2.2.2.2.2.2.2.2.2.1
abbrev gt (G : aj_G) : Method := G.2.2.2.2.2.2.2.2.2.2.1
abbrev gc (G : aj_G) : Code := G.2.2.2.2.2.2.2.2.2.2.2.1
abbrev gA (G : aj_G) : Nat → Prop := G.2.2.2.2.2.2.2.2.2.2.2.2.1
abbrev gn (G : aj_G) : Nat := G.2.2.2.2.2.2.2.2.2.2.2.2.2.1
abbrev gr (G : aj_G) : Nat → Nat := G.2.2.2.2.2.2.2.2.2.2.2.2.2.2.1
abbrev gL (G : aj_G) : List Nat := G.2.2.2.2.2.2.2.2.2.2.2.2.2.2.2.1
abbrev gF (G : aj_G) : List Nat := G.2.2.2.2.2.2.2.2.2.2.2.2.2.2.2.2.1
abbrev gQ (G : aj_G) : State → Prop := G.2.2.2.2.2.2.2.2.2.2.2.2.2.2.2.2.2
def aj_W (G : aj_G) (H : Heap) (locs : List Loc) (cells slots : Nat) (g : JFrame) : Prop := W (gp G) (gl G) (ge G) (gR G) (gs G) (gm G) (ga G) (gb G) (gt G) (gc G) H locs cells slots (gQ G) g
/-- what stands outside the world: the statics that throwing reads, Raywalk.MARKS -/
def aj_mk (j : Nat) : Value := .int (([-1, -1, 0, -1, 1, -1, 1, 0, 1, 1, 0, 1, -1, 1, -1, 0] : List Int32).getD j 0)
def aj_NM : List (String × Nat × MethodName × String) := [("Raywalk", 22, yX2_init, "Raywalk"), ("Raywalk", 32, yX1_init, "Raywalk"), ("Raywalk$Field", 24, yX2_init, "Raywalk"), ("Raywalk$Step", 37, yX3_signOf, "Raywalk"), ("Raywalk$Angle", 28, yX3_signOf, "Raywalk"), ("RaywalkLaw", 111, yX4_init, "RaywalkLaw")]
def aj_ex : List String := ["java/lang/IllegalArgumentException", "java/lang/IndexOutOfBoundsException"]
def aj_DC : List MethodName := [⟨"java/lang/RuntimeException", "<init>", "(Ljava/lang/String;)V"⟩, ⟨"java/lang/Exception", "<init>", "(Ljava/lang/String;)V"⟩, ⟨"java/lang/Throwable", "<init>", "(Ljava/lang/String;)V"⟩]
def aj_SR : List (String × Nat × String) := [("Raywalk", 329, "no such cell"), ("Raywalk", 338, "out of its range"), ("Raywalk", 334, "no such place")]
/-- words of the tables that stand by the machine's tables alone, but are not among those that a method's own list may hold -/
def aj_GV (U : State) : Prop := va_AO "Raywalk$Step" U ∧ (∀ x ∈ aj_NM, va_Nw (.methodLinkNest x.1 x.2.1 x.2.2.1 x.2.2.2) U) ∧ va_Nw (.fieldLinkNest "RaywalkLaw" 13 "RaywalkLaw$Out" "n" "J" "RaywalkLaw") U ∧ (∀ x ∈ aj_ex, va_Nw (.castable x x) U) ∧ (∀ x ∈ aj_DC, va_Nw (.declares x) U) ∧ (∀ x ∈ aj_SR, ∃ sa, vk_R x.1 x.2.1 x.2.2 sa U) ∧ va_Nc "java/lang/IllegalArgumentException" "java/lang/IndexOutOfBoundsException" U
theorem aj_GV.warm {u U : State} (hW : u.WarmedH U.vm) (h : aj_GV u) : aj_GV U := ⟨h.1.moved hW.alike, fun x hx => (h.2.1 x hx).warmM hW, h.2.2.1.warmF hW, fun x hx => (h.2.2.2.1 x hx).warmC hW, fun x hx => (h.2.2.2.2.1 x hx).warmD hW, fun x hx => (h.2.2.2.2.2.1 x hx).elim fun sa z => ⟨sa, z.warm hW⟩, h.2.2.2.2.2.2.moved hW.alike⟩
/-- for texts: COMPACT_STRINGS, the digits' rows (13, 14), the constants "" (28) and " " (44) and their rows (60, 76) -/
def aj_dg (t : Bool) (j : Nat) : Value := .int (Int32.ofNat (48 + (if t then j / 10 else j % 10)))
def aj_GT (r : Nat → Nat) (A : Nat → Prop) (U : State) (H : Heap) : Prop :=
  ((va_Z "java/lang/String" "COMPACT_STRINGS" "Z" (.int 1) A U H ∧ va_Z "java/lang/Integer" "DigitTens" "[B" (.ref (r 13)) A U H ∧ va_Z "java/lang/Integer" "DigitOnes" "[B" (.ref (r 14)) A U H) ∧ va_T .byte (r 13) 100 (aj_dg true) A U H ∧ va_T .byte (r 14) 100 (aj_dg false) A U H ∧ vk_S 2 [0, 1] [[], [32]] (fun i => r (28 + 16 * i)) (fun i => r (60 + 16 * i)) A U H) ∧ vk_R "RaywalkModel" 220 "" (r 28) U ∧ vk_R "RaywalkModel" 222 " " (r 44) U ∧ va_Nw (.castable "[B" "java/lang/Cloneable") U
theorem aj_GT.warm {r : Nat → Nat} {A : Nat → Prop} {u U : State} {H : Heap} (hW : u.WarmedH U.vm) (h : aj_GT r A u H) : aj_GT r A U H := ⟨⟨⟨h.1.1.1.moved hW.alike, h.1.1.2.1.moved hW.alike, h.1.1.2.2.moved hW.alike⟩, h.1.2.1.moved hW.alike, h.1.2.2.1.moved hW.alike, vk_S.moved hW.alike h.1.2.2.2⟩, h.2.1.warm hW, h.2.2.1.warm hW, h.2.2.2.warmC hW⟩
theorem aj_GT.kept {r : Nat → Nat} {A : Nat → Prop} {U : State} {H H1 : Heap} (h : aj_GT r A U H) (hq : ∀ a : Nat, a < H.size → ¬ A a → H1[a]? = H[a]?) : aj_GT r A U H1 := ⟨⟨⟨h.1.1.1.kept hq, h.1.1.2.1.kept hq, h.1.1.2.2.kept hq⟩, h.1.2.1.kept hq, h.1.2.2.1.kept hq, h.1.2.2.2.kept hq⟩, h.2⟩
theorem aj_GT.narrow {r : Nat → Nat} {A B : Nat → Prop} {U : State} {H : Heap} (h : aj_GT r A U H) (hAB : ∀ q, B q → A q) : aj_GT r B U H := ⟨⟨⟨h.1.1.1.narrow hAB, h.1.1.2.1.narrow hAB, h.1.1.2.2.narrow hAB⟩, h.1.2.1.narrow hAB, h.1.2.2.1.narrow hAB, h.1.2.2.2.narrow hAB⟩, h.2⟩
def aj_GW (r : Nat → Nat) (A : Nat → Prop) (U : State) (H : Heap) : Prop :=
  (vx_Zq Bundle.tN "UNASSIGNED_STACK" Bundle.steD A U H ∧ vx_Zq Bundle.tN "SUPPRESSED_SENTINEL" Bundle.listD A U H ∧ va_Z "Raywalk" "MARKS" "[I" (.ref (r 12)) A U H ∧ va_T .int (r 12) 16 aj_mk A U H ∧ aj_GT r A U H) ∧ aj_GV U
theorem aj_GW.warm {r : Nat → Nat} {A : Nat → Prop} {u U : State} {H : Heap} (hW : u.WarmedH U.vm) (h : aj_GW r A u H) : aj_GW r A U H := ⟨⟨h.1.1.moved hW.alike, h.1.2.1.moved hW.alike, h.1.2.2.1.moved hW.alike, h.1.2.2.2.1.moved hW.alike, h.1.2.2.2.2.warm hW⟩, h.2.warm hW⟩
theorem aj_GW.kept {r : Nat → Nat} {A : Nat → Prop} {U : State} {H H1 : Heap} (h : aj_GW r A U H) (hq : ∀ a : Nat, a < H.size → ¬ A a → H1[a]? = H[a]?) : aj_GW r A U H1 := ⟨⟨h.1.1.kept hq, h.1.2.1.kept hq, h.1.2.2.1.kept hq, h.1.2.2.2.1.kept hq, h.1.2.2.2.2.kept hq⟩, h.2⟩
theorem aj_GW.narrow {r : Nat → Nat} {A B : Nat → Prop} {U : State} {H : Heap} (h : aj_GW r A U H) (hAB : ∀ q, B q → A q) : aj_GW r B U H := ⟨⟨h.1.1.narrow hAB, h.1.2.1.narrow hAB, h.1.2.2.1.narrow hAB, h.1.2.2.2.1.narrow hAB, h.1.2.2.2.2.narrow hAB⟩, h.2⟩
def aj_sp (i : Nat) : Prop := i % 16 = 12 ∨ i % 16 = 13 ∨ i % 16 = 14
/-- the machine at place pc, with locals lv, stack st, the objects' ints I, longs J, references V, lengths N, the objects L alive, bc cells and bs slots still to be made -/
def aj_X (G : aj_G) (pc : Nat) (lv : List (Option Value)) (st : List Value) (I : Nat → Nat → Int32) (J : Nat → Nat → Int64) (V : Nat → Nat → Option Nat) (N : Nat → Nat) (L : List Nat) (bc bs : Nat) : Prop :=
  ∀ (r : Nat → Nat) (H : Heap) (locs : List Loc) (cells slots : Nat) (ls : Array Slot), va_P (gD G) vwCl (aj_ws (gcs G) r I J V N L) H → va_D (gA G) (aj_ws (gcs G) r I J V N L) → va_S (gA G) (gs G).heap H locs →
    (∀ i ∈ gL G, i ∈ L) → (∀ i, i ∉ gF G → r i = gr G i) → cells + bc ≤ (gR G).cells → slots + bs ≤ (gR G).slots → lv_has ls (gn G) (aj_lvs r 0 lv) →
    aj_W G H locs cells slots (F0 (gm G) pc ls (st.map (aj_v r)))
/-- what holds all along -/
def aj_C (G : aj_G) (cc : ByteArray) (tbl : List (Nat × Instr × Nat)) (own : String) (R0 : Room) (nL : Nat) : Prop :=
  (gp G).tables.exec = Jvm.exec ∧ (gc G).code = cc ∧ (gc G).maxLocals = gn G ∧ (gs G).vm.findClass own = some (gm G).cls ∧ (∀ w ∈ aj_TB, w.before (ga G) (gs G) = true) ∧ va_K (gD G) vwCl (aj_tys (gcs G)) (gs G) ∧ (∀ q, (gs G).heap.size ≤ q → gA G q) ∧
  (∀ e ∈ tbl, decode cc e.1 = .ok e.2) ∧ gR G = R0 ∧ gn G = nL ∧ (gl G).stackTraces = false ∧ (∀ i ∈ gF G, ¬ aj_sp i) ∧ aj_GW (gr G) (gA G) (gs G) (gs G).heap ∧ (gt G).locks = false
section CX
variable {G : aj_G} {cc : ByteArray} {tbl : List (Nat × Instr × Nat)} {own : String} {R0 : Room} {nL : Nat}
theorem aj_C.x (C : aj_C G cc tbl own R0 nL) : (gp G).tables.exec = Jvm.exec := C.1
theorem aj_C.b (C : aj_C G cc tbl own R0 nL) : (gc G).code = cc := C.2.1
theorem aj_C.ml (C : aj_C G cc tbl own R0 nL) : (gc G).maxLocals = gn G := C.2.2.1
theorem aj_C.o (C : aj_C G cc tbl own R0 nL) : (gs G).vm.findClass own = some (gm G).cls := C.2.2.2.1
theorem aj_C.ts (C : aj_C G cc tbl own R0 nL) : ∀ w ∈ aj_TB, w.before (ga G) (gs G) = true := C.2.2.2.2.1
theorem aj_C.k (C : aj_C G cc tbl own R0 nL) : va_K (gD G) vwCl (aj_tys (gcs G)) (gs G) := C.2.2.2.2.2.1
theorem aj_C.a (C : aj_C G cc tbl own R0 nL) : ∀ q, (gs G).heap.size ≤ q → gA G q := C.2.2.2.2.2.2.1
theorem aj_C.d (C : aj_C G cc tbl own R0 nL) {k pc : Nat} {i : Instr} {n : Nat} (h : tbl[k]? = some (pc, i, n)) : decode cc pc = .ok (i, n) := C.2.2.2.2.2.2.2.1 ((pc, i, n) : Nat × Instr × Nat) (List.mem_of_getElem? h)
theorem aj_C.r (C : aj_C G cc tbl own R0 nL) : gR G = R0 := C.2.2.2.2.2.2.2.2.1
theorem aj_C.n (C : aj_C G cc tbl own R0 nL) : gn G = nL := C.2.2.2.2.2.2.2.2.2.1
theorem aj_C.st (C : aj_C G cc tbl own R0 nL) : (gl G).stackTraces = false := C.2.2.2.2.2.2.2.2.2.2.1
theorem aj_C.f (C : aj_C G cc tbl own R0 nL) : ∀ i ∈ gF G, ¬ aj_sp i := C.2.2.2.2.2.2.2.2.2.2.2.1
theorem aj_C.gw (C : aj_C G cc tbl own R0 nL) : aj_GW (gr G) (gA G) (gs G) (gs G).heap := C.2.2.2.2.2.2.2.2.2.2.2.2.1
theorem aj_C.lk (C : aj_C G cc tbl own R0 nL) : (gt G).locks = false := C.2.2.2.2.2.2.2.2.2.2.2.2.2
end CX
section RW
variable {G : aj_G} {cc : ByteArray} {tbl : List (Nat × Instr × Nat)} {own : String} {R0 : Room} {nL : Nat} {pc q : Nat} {lv lv' : List (Option Value)} {st st' : List Value} {I : Nat → Nat → Int32} {J : Nat → Nat → Int64} {V : Nat → Nat → Option Nat} {N : Nat → Nat} {L : List Nat} {bc bs : Nat}
theorem aj_pure (h : ∀ (r : Nat → Nat) (H : Heap) (locs : List Loc) (cells slots : Nat) (ls : Array Slot), lv_has ls (gn G) (aj_lvs r 0 lv) → aj_W G H locs cells slots (F0 (gm G) q ls (st'.map (aj_v r))) → aj_W G H locs cells slots (F0 (gm G) pc ls (st.map (aj_v r)))) (k : aj_X G q lv st' I J V N L bc bs) : aj_X G pc lv st I J V N L bc bs :=
  fun r H locs cells slots ls hP hD hS hL hF hc hs hl => h r H locs cells slots ls hl (k r H locs cells slots ls hP hD hS hL hF hc hs hl)
theorem x_iadd (C : aj_C G cc tbl own R0 nL) (k : Nat) {x y : Int32} (h : tbl[k]? = some (pc, .iadd, 1)) (hq : pc + 1 = q) (kk : aj_X G q lv (.int (x + y) :: st) I J V N L bc bs) : aj_X G pc lv (.int y :: .int x :: st) I J V N L bc bs := by
  subst hq
  exact aj_pure (k := kk) (h := fun r H locs cells slots ls hl w => by
    exact lv_iadd C.x C.b (C.d h) w)
theorem x_isub (C : aj_C G cc tbl own R0 nL) (k : Nat) {x y : Int32} (h : tbl[k]? = some (pc, .isub, 1)) (hq : pc + 1 = q) (kk : aj_X G q lv (.int (x - y) :: st) I J V N L bc bs) : aj_X G pc lv (.int y :: .int x :: st) I J V N L bc bs := by
  subst hq
  exact aj_pure (k := kk) (h := fun r H locs cells slots ls hl w => by
    exact lv_isub C.x C.b (C.d h) w)
theorem x_imul (C : aj_C G cc tbl own R0 nL) (k : Nat) {x y : Int32} (h : tbl[k]? = some (pc, .imul, 1)) (hq : pc + 1 = q) (kk : aj_X G q lv (.int (x * y) :: st) I J V N L bc bs) : aj_X G pc lv (.int y :: .int x :: st) I J V N L bc bs := by
  subst hq
  exact aj_pure (k := kk) (h := fun r H locs cells slots ls hl w => by
    exact lv_imul C.x C.b (C.d h) w)
theorem x_iand (C : aj_C G cc tbl own R0 nL) (k : Nat) {x y : Int32} (h : tbl[k]? = some (pc, .iand, 1)) (hq : pc + 1 = q) (kk : aj_X G q lv (.int (x &&& y) :: st) I J V N L bc bs) : aj_X G pc lv (.int y :: .int x :: st) I J V N L bc bs := by
  subst hq
  exact aj_pure (k := kk) (h := fun r H locs cells slots ls hl w => by
    exact lv_iand C.x C.b (C.d h) w)
theorem x_ior (C : aj_C G cc tbl own R0 nL) (k : Nat) {x y : Int32} (h : tbl[k]? = some (pc, .ior, 1)) (hq : pc + 1 = q) (kk : aj_X G q lv (.int (x ||| y) :: st) I J V N L bc bs) : aj_X G pc lv (.int y :: .int x :: st) I J V N L bc bs := by
  subst hq
  exact aj_pure (k := kk) (h := fun r H locs cells slots ls hl w => by
    exact lv_ior C.x C.b (C.d h) w)
theorem x_ixor (C : aj_C G cc tbl own R0 nL) (k : Nat) {x y : Int32} (h : tbl[k]? = some (pc, .ixor, 1)) (hq : pc + 1 = q) (kk : aj_X G q lv (.int (x ^^^ y) :: st) I J V N L bc bs) : aj_X G pc lv (.int y :: .int x :: st) I J V N L bc bs := by
  subst hq
  exact aj_pure (k := kk) (h := fun r H locs cells slots ls hl w => by
    exact lv_ixor C.x C.b (C.d h) w)
theorem x_ladd (C : aj_C G cc tbl own R0 nL) (k : Nat) {x y : Int64} (h : tbl[k]? = some (pc, .ladd, 1)) (hq : pc + 1 = q) (kk : aj_X G q lv (.long (x + y) :: st) I J V N L bc bs) : aj_X G pc lv (.long y :: .long x :: st) I J V N L bc bs := by
  subst hq
  exact aj_pure (k := kk) (h := fun r H locs cells slots ls hl w => by
    exact lv_ladd C.x C.b (C.d h) w)
theorem x_lsub (C : aj_C G cc tbl own R0 nL) (k : Nat) {x y : Int64} (h : tbl[k]? = some (pc, .lsub, 1)) (hq : pc + 1 = q) (kk : aj_X G q lv (.long (x - y) :: st) I J V N L bc bs) : aj_X G pc lv (.long y :: .long x :: st) I J V N L bc bs := by
  subst hq
  exact aj_pure (k := kk) (h := fun r H locs cells slots ls hl w => by
    exact lv_lsub C.x C.b (C.d h) w)
theorem x_lmul (C : aj_C G cc tbl own R0 nL) (k : Nat) {x y : Int64} (h : tbl[k]? = some (pc, .lmul, 1)) (hq : pc + 1 = q) (kk : aj_X G q lv (.long (x * y) :: st) I J V N L bc bs) : aj_X G pc lv (.long y :: .long x :: st) I J V N L bc bs := by
  subst hq
  exact aj_pure (k := kk) (h := fun r H locs cells slots ls hl w => by
    exact lv_lmul C.x C.b (C.d h) w)
theorem x_land (C : aj_C G cc tbl own R0 nL) (k : Nat) {x y : Int64} (h : tbl[k]? = some (pc, .land, 1)) (hq : pc + 1 = q) (kk : aj_X G q lv (.long (x &&& y) :: st) I J V N L bc bs) : aj_X G pc lv (.long y :: .long x :: st) I J V N L bc bs := by
  subst hq
  exact aj_pure (k := kk) (h := fun r H locs cells slots ls hl w => by
    exact lv_land C.x C.b (C.d h) w)
theorem x_lor (C : aj_C G cc tbl own R0 nL) (k : Nat) {x y : Int64} (h : tbl[k]? = some (pc, .lor, 1)) (hq : pc + 1 = q) (kk : aj_X G q lv (.long (x ||| y) :: st) I J V N L bc bs) : aj_X G pc lv (.long y :: .long x :: st) I J V N L bc bs := by
  subst hq
  exact aj_pure (k := kk) (h := fun r H locs cells slots ls hl w => by
    exact lv_lor C.x C.b (C.d h) w)
theorem x_lxor (C : aj_C G cc tbl own R0 nL) (k : Nat) {x y : Int64} (h : tbl[k]? = some (pc, .lxor, 1)) (hq : pc + 1 = q) (kk : aj_X G q lv (.long (x ^^^ y) :: st) I J V N L bc bs) : aj_X G pc lv (.long y :: .long x :: st) I J V N L bc bs := by
  subst hq
  exact aj_pure (k := kk) (h := fun r H locs cells slots ls hl w => by
    exact lv_lxor C.x C.b (C.d h) w)
theorem x_ineg (C : aj_C G cc tbl own R0 nL) (k : Nat) {x : Int32} (h : tbl[k]? = some (pc, .ineg, 1)) (hq : pc + 1 = q) (kk : aj_X G q lv (.int (-x) :: st) I J V N L bc bs) : aj_X G pc lv (.int x :: st) I J V N L bc bs := by
  subst hq
  exact aj_pure (k := kk) (h := fun r H locs cells slots ls hl w => by
    exact lv_ineg C.x C.b (C.d h) w)
theorem x_lneg (C : aj_C G cc tbl own R0 nL) (k : Nat) {x : Int64} (h : tbl[k]? = some (pc, .lneg, 1)) (hq : pc + 1 = q) (kk : aj_X G q lv (.long (-x) :: st) I J V N L bc bs) : aj_X G pc lv (.long x :: st) I J V N L bc bs := by
  subst hq
  exact aj_pure (k := kk) (h := fun r H locs cells slots ls hl w => by
    exact lv_lneg C.x C.b (C.d h) w)
theorem x_ishl (C : aj_C G cc tbl own R0 nL) (k : Nat) {x y : Int32} (h : tbl[k]? = some (pc, .ishl, 1)) (hq : pc + 1 = q) (kk : aj_X G q lv (.int (x <<< (y &&& 31)) :: st) I J V N L bc bs) : aj_X G pc lv (.int y :: .int x :: st) I J V N L bc bs := by
  subst hq
  exact aj_pure (k := kk) (h := fun r H locs cells slots ls hl w => by
    exact lv_ishl C.x C.b (C.d h) w)
theorem x_ishr (C : aj_C G cc tbl own R0 nL) (k : Nat) {x y : Int32} (h : tbl[k]? = some (pc, .ishr, 1)) (hq : pc + 1 = q) (kk : aj_X G q lv (.int (x >>> (y &&& 31)) :: st) I J V N L bc bs) : aj_X G pc lv (.int y :: .int x :: st) I J V N L bc bs := by
  subst hq
  exact aj_pure (k := kk) (h := fun r H locs cells slots ls hl w => by
    exact lv_ishr C.x C.b (C.d h) w)
theorem x_iushr (C : aj_C G cc tbl own R0 nL) (k : Nat) {x y : Int32} (h : tbl[k]? = some (pc, .iushr, 1)) (hq : pc + 1 = q) (kk : aj_X G q lv (.int (x.toUInt32 >>> (y.toUInt32 &&& Int32.toUInt32 31)).toInt32 :: st) I J V N L bc bs) : aj_X G pc lv (.int y :: .int x :: st) I J V N L bc bs := by
  subst hq
  exact aj_pure (k := kk) (h := fun r H locs cells slots ls hl w => by
    exact lv_iushr C.x C.b (C.d h) rfl w)
theorem x_lshr (C : aj_C G cc tbl own R0 nL) (k : Nat) {x : Int64} {y : Int32} (h : tbl[k]? = some (pc, .lshr, 1)) (hq : pc + 1 = q) (kk : aj_X G q lv (.long (x >>> (y.toInt64 &&& 63)) :: st) I J V N L bc bs) : aj_X G pc lv (.int y :: .long x :: st) I J V N L bc bs := by
  subst hq
  exact aj_pure (k := kk) (h := fun r H locs cells slots ls hl w => by
    exact lv_lshr C.x C.b (C.d h) rfl w)
theorem x_idiv (C : aj_C G cc tbl own R0 nL) (k : Nat) {x y : Int32} (hn : ¬ y = 0) (h : tbl[k]? = some (pc, .idiv, 1)) (hq : pc + 1 = q) (kk : aj_X G q lv (.int (x / y) :: st) I J V N L bc bs) : aj_X G pc lv (.int y :: .int x :: st) I J V N L bc bs := by
  subst hq
  exact aj_pure (k := kk) (h := fun r H locs cells slots ls hl w => by
    exact lv_idiv C.x C.b (C.d h) hn w)
theorem x_irem (C : aj_C G cc tbl own R0 nL) (k : Nat) {x y : Int32} (hn : ¬ y = 0) (h : tbl[k]? = some (pc, .irem, 1)) (hq : pc + 1 = q) (kk : aj_X G q lv (.int (x - x / y * y) :: st) I J V N L bc bs) : aj_X G pc lv (.int y :: .int x :: st) I J V N L bc bs := by
  subst hq
  exact aj_pure (k := kk) (h := fun r H locs cells slots ls hl w => by
    exact lv_irem C.x C.b (C.d h) hn w)
theorem x_ldiv (C : aj_C G cc tbl own R0 nL) (k : Nat) {x y : Int64} (hn : ¬ y = 0) (h : tbl[k]? = some (pc, .ldiv, 1)) (hq : pc + 1 = q) (kk : aj_X G q lv (.long (x / y) :: st) I J V N L bc bs) : aj_X G pc lv (.long y :: .long x :: st) I J V N L bc bs := by
  subst hq
  exact aj_pure (k := kk) (h := fun r H locs cells slots ls hl w => by
    exact lv_ldiv C.x C.b (C.d h) hn w)
theorem x_lrem (C : aj_C G cc tbl own R0 nL) (k : Nat) {x y : Int64} (hn : ¬ y = 0) (h : tbl[k]? = some (pc, .lrem, 1)) (hq : pc + 1 = q) (kk : aj_X G q lv (.long (x - x / y * y) :: st) I J V N L bc bs) : aj_X G pc lv (.long y :: .long x :: st) I J V N L bc bs := by
  subst hq
  exact aj_pure (k := kk) (h := fun r H locs cells slots ls hl w => by
    exact lv_lrem C.x C.b (C.d h) hn w)
theorem x_i2l (C : aj_C G cc tbl own R0 nL) (k : Nat) {x : Int32} (h : tbl[k]? = some (pc, .i2l, 1)) (hq : pc + 1 = q) (kk : aj_X G q lv (.long x.toInt64 :: st) I J V N L bc bs) : aj_X G pc lv (.int x :: st) I J V N L bc bs := by
  subst hq
  exact aj_pure (k := kk) (h := fun r H locs cells slots ls hl w => by
    exact lv_i2l C.x C.b (C.d h) rfl w)
theorem x_l2i (C : aj_C G cc tbl own R0 nL) (k : Nat) {x : Int64} (h : tbl[k]? = some (pc, .l2i, 1)) (hq : pc + 1 = q) (kk : aj_X G q lv (.int x.toInt32 :: st) I J V N L bc bs) : aj_X G pc lv (.long x :: st) I J V N L bc bs := by
  subst hq
  exact aj_pure (k := kk) (h := fun r H locs cells slots ls hl w => by
    exact lv_l2i C.x C.b (C.d h) rfl w)
theorem x_i2b (C : aj_C G cc tbl own R0 nL) (k : Nat) {x : Int32} (h : tbl[k]? = some (pc, .i2b, 1)) (hq : pc + 1 = q) (kk : aj_X G q lv (.int x.toInt8.toInt32 :: st) I J V N L bc bs) : aj_X G pc lv (.int x :: st) I J V N L bc bs := by
  subst hq
  exact aj_pure (k := kk) (h := fun r H locs cells slots ls hl w => by
    exact lv_i2b C.x C.b (C.d h) rfl w)
theorem x_i2c (C : aj_C G cc tbl own R0 nL) (k : Nat) {x : Int32} (h : tbl[k]? = some (pc, .i2c, 1)) (hq : pc + 1 = q) (kk : aj_X G q lv (.int (x.toUInt32 % 65536).toInt32 :: st) I J V N L bc bs) : aj_X G pc lv (.int x :: st) I J V N L bc bs := by
  subst hq
  exact aj_pure (k := kk) (h := fun r H locs cells slots ls hl w => by
    exact lv_i2c C.x C.b (C.d h) rfl w)
theorem x_iconst (C : aj_C G cc tbl own R0 nL) (k : Nat) {n : Int} {v : Int32}  (hv : Int32.ofInt n = v) (h : tbl[k]? = some (pc, .iconst n, 1)) (hq : pc + 1 = q) (kk : aj_X G q lv (.int v :: st) I J V N L bc bs) : aj_X G pc lv (st) I J V N L bc bs := by
  subst hq
  exact aj_pure (k := kk) (h := fun r H locs cells slots ls hl w => by
    exact lv_iconst C.x C.b (C.d h) hv w)
theorem x_bipush (C : aj_C G cc tbl own R0 nL) (k : Nat) {n : Int} {v : Int32} (hv : (Int8.ofInt n).toInt32 = v) (h : tbl[k]? = some (pc, .bipush n, 2)) (hq : pc + 2 = q) (kk : aj_X G q lv (.int v :: st) I J V N L bc bs) : aj_X G pc lv (st) I J V N L bc bs := by
  subst hq
  exact aj_pure (k := kk) (h := fun r H locs cells slots ls hl w => by
    exact lv_bipush C.x C.b (C.d h) hv w)
theorem x_sipush (C : aj_C G cc tbl own R0 nL) (k : Nat) {n : Int} {v : Int32} (hv : (Int16.ofInt n).toInt32 = v) (h : tbl[k]? = some (pc, .sipush n, 3)) (hq : pc + 3 = q) (kk : aj_X G q lv (.int v :: st) I J V N L bc bs) : aj_X G pc lv (st) I J V N L bc bs := by
  subst hq
  exact aj_pure (k := kk) (h := fun r H locs cells slots ls hl w => by
    exact lv_sipush C.x C.b (C.d h) hv w)
theorem x_lconst (C : aj_C G cc tbl own R0 nL) (k : Nat) {n : Fin 2} {v : Int64} (hv : Int64.ofNat (n : Nat) = v) (h : tbl[k]? = some (pc, .lconst n, 1)) (hq : pc + 1 = q) (kk : aj_X G q lv (.long v :: st) I J V N L bc bs) : aj_X G pc lv (st) I J V N L bc bs := by
  subst hq
  exact aj_pure (k := kk) (h := fun r H locs cells slots ls hl w => by
    exact lv_lconst C.x C.b (C.d h) hv w)
theorem x_null (C : aj_C G cc tbl own R0 nL) (k : Nat)  (h : tbl[k]? = some (pc, .aconst_null, 1)) (hq : pc + 1 = q) (kk : aj_X G q lv (.null :: st) I J V N L bc bs) : aj_X G pc lv (st) I J V N L bc bs := by
  subst hq
  exact aj_pure (k := kk) (h := fun r H locs cells slots ls hl w => by
    exact lv_null C.x C.b (C.d h) w)
theorem x_lcmp (C : aj_C G cc tbl own R0 nL) (k : Nat) {x y : Int64} (h : tbl[k]? = some (pc, .lcmp, 1)) (hq : pc + 1 = q) (kk : aj_X G q lv (.int (lg_cmp x y) :: st) I J V N L bc bs) : aj_X G pc lv (.long y :: .long x :: st) I J V N L bc bs := by
  subst hq
  exact aj_pure (k := kk) (h := fun r H locs cells slots ls hl w => by
    exact W.lcmp C.x C.b (C.d h) w)
theorem x_dupi (C : aj_C G cc tbl own R0 nL) (k : Nat) {x : Int32} (h : tbl[k]? = some (pc, .dup, 1)) (hq : pc + 1 = q) (kk : aj_X G q lv (.int x :: .int x :: st) I J V N L bc bs) : aj_X G pc lv (.int x :: st) I J V N L bc bs := by
  subst hq
  exact aj_pure (k := kk) (h := fun r H locs cells slots ls hl w => by
    exact lv_dup C.x C.b (C.d h) rfl w)
theorem x_dupr (C : aj_C G cc tbl own R0 nL) (k : Nat) {x : Nat} (h : tbl[k]? = some (pc, .dup, 1)) (hq : pc + 1 = q) (kk : aj_X G q lv (.ref x :: .ref x :: st) I J V N L bc bs) : aj_X G pc lv (.ref x :: st) I J V N L bc bs := by
  subst hq
  exact aj_pure (k := kk) (h := fun r H locs cells slots ls hl w => by
    exact lv_dup C.x C.b (C.d h) rfl w)
theorem x_dup_x1 (C : aj_C G cc tbl own R0 nL) (k : Nat) {x y : Value} (h1 : x.category = 1) (h2 : y.category = 1) (h : tbl[k]? = some (pc, .dup_x1, 1)) (hq : pc + 1 = q) (kk : aj_X G q lv (x :: y :: x :: st) I J V N L bc bs) : aj_X G pc lv (x :: y :: st) I J V N L bc bs := by
  subst hq
  exact aj_pure (k := kk) (h := fun r H locs cells slots ls hl w => by
    exact lv_dup_x1 C.x C.b (C.d h) ((aj_v_cat r x).trans h1) ((aj_v_cat r y).trans h2) w)
theorem x_dup2 (C : aj_C G cc tbl own R0 nL) (k : Nat) {x : Int32} {y : Nat} (h : tbl[k]? = some (pc, .dup2, 1)) (hq : pc + 1 = q) (kk : aj_X G q lv (.int x :: .ref y :: .int x :: .ref y :: st) I J V N L bc bs) : aj_X G pc lv (.int x :: .ref y :: st) I J V N L bc bs := by
  subst hq
  exact aj_pure (k := kk) (h := fun r H locs cells slots ls hl w => by
    exact lv_dup2_11 C.x C.b (C.d h) rfl rfl w)
theorem x_pop (C : aj_C G cc tbl own R0 nL) (k : Nat) {x : Value} (h1 : x.category = 1) (h : tbl[k]? = some (pc, .pop, 1)) (hq : pc + 1 = q) (kk : aj_X G q lv (st) I J V N L bc bs) : aj_X G pc lv (x :: st) I J V N L bc bs := by
  subst hq
  exact aj_pure (k := kk) (h := fun r H locs cells slots ls hl w => by
    exact lv_pop C.x C.b (C.d h) ((aj_v_cat r x).trans h1) w)
theorem x_pop2 (C : aj_C G cc tbl own R0 nL) (k : Nat) {x : Value} (h1 : x.category = 2) (h : tbl[k]? = some (pc, .pop2, 1)) (hq : pc + 1 = q) (kk : aj_X G q lv (st) I J V N L bc bs) : aj_X G pc lv (x :: st) I J V N L bc bs := by
  subst hq
  exact aj_pure (k := kk) (h := fun r H locs cells slots ls hl w => by
    exact lv_pop2_2 C.x C.b (C.d h) ((aj_v_cat r x).trans h1) w)
theorem x_ldc (C : aj_C G cc tbl own R0 nL) (k : Nat) {i : Nat} {v : Int32} (hw : Cond.constant own i v ∈ aj_TB) (h : tbl[k]? = some (pc, .ldc i, 2)) (hq : pc + 2 = q) (kk : aj_X G q lv (.int v :: st) I J V N L bc bs) : aj_X G pc lv (st) I J V N L bc bs := by
  subst hq
  exact aj_pure (k := kk) (h := fun r H locs cells slots ls hl w => by
    exact lv_ldc C.x C.b C.o (C.ts _ hw) (C.d h) w)
theorem x_ldcw (C : aj_C G cc tbl own R0 nL) (k : Nat) {i : Nat} {v : Int32} (hw : Cond.constant own i v ∈ aj_TB) (h : tbl[k]? = some (pc, .ldc_w i, 3)) (hq : pc + 3 = q) (kk : aj_X G q lv (.int v :: st) I J V N L bc bs) : aj_X G pc lv (st) I J V N L bc bs := by
  subst hq
  exact aj_pure (k := kk) (h := fun r H locs cells slots ls hl w => by
    exact lv_ldcw C.x C.b C.o (C.ts _ hw) (C.d h) w)
theorem x_ldc2 (C : aj_C G cc tbl own R0 nL) (k : Nat) {i : Nat} {v : Int64} (hw : Cond.constantLong own i v ∈ aj_TB) (h : tbl[k]? = some (pc, .ldc2_w i, 3)) (hq : pc + 3 = q) (kk : aj_X G q lv (.long v :: st) I J V N L bc bs) : aj_X G pc lv (st) I J V N L bc bs := by
  subst hq
  exact aj_pure (k := kk) (h := fun r H locs cells slots ls hl w => by
    exact lv_ldc2 C.x C.b C.o (C.ts _ hw) (C.d h) w)
theorem x_iload (C : aj_C G cc tbl own R0 nL) (k : Nat) {i : Nat} {x : Int32} (hv : lv[i]? = some (some (.int x))) (h : tbl[k]? = some (pc, .iload i, 2)) (hq : pc + 2 = q) (kk : aj_X G q lv (.int x :: st) I J V N L bc bs) : aj_X G pc lv (st) I J V N L bc bs := by
  subst hq
  exact aj_pure (k := kk) (h := fun r H locs cells slots ls hl w => by
    exact lv_iload C.x C.b (C.d h) (aj_lget hl hv) w)
theorem x_lload (C : aj_C G cc tbl own R0 nL) (k : Nat) {i : Nat} {x : Int64} (hv : lv[i]? = some (some (.long x))) (h : tbl[k]? = some (pc, .lload i, 2)) (hq : pc + 2 = q) (kk : aj_X G q lv (.long x :: st) I J V N L bc bs) : aj_X G pc lv (st) I J V N L bc bs := by
  subst hq
  exact aj_pure (k := kk) (h := fun r H locs cells slots ls hl w => by
    exact lv_lload C.x C.b (C.d h) (aj_lget hl hv) w)
theorem x_aload (C : aj_C G cc tbl own R0 nL) (k : Nat) {i : Nat} {x : Nat} (hv : lv[i]? = some (some (.ref x))) (h : tbl[k]? = some (pc, .aload i, 2)) (hq : pc + 2 = q) (kk : aj_X G q lv (.ref x :: st) I J V N L bc bs) : aj_X G pc lv (st) I J V N L bc bs := by
  subst hq
  exact aj_pure (k := kk) (h := fun r H locs cells slots ls hl w => by
    exact lv_aload C.x C.b (C.d h) (aj_lget hl hv) w)
theorem x_iload_n (C : aj_C G cc tbl own R0 nL) (k : Nat) {i : Fin 4} {x : Int32} (hv : lv[(i : Nat)]? = some (some (.int x))) (h : tbl[k]? = some (pc, .iload_n i, 1)) (hq : pc + 1 = q) (kk : aj_X G q lv (.int x :: st) I J V N L bc bs) : aj_X G pc lv (st) I J V N L bc bs := by
  subst hq
  exact aj_pure (k := kk) (h := fun r H locs cells slots ls hl w => by
    exact lv_iload_n C.x C.b (C.d h) rfl (aj_lget hl hv) w)
theorem x_lload_n (C : aj_C G cc tbl own R0 nL) (k : Nat) {i : Fin 4} {x : Int64} (hv : lv[(i : Nat)]? = some (some (.long x))) (h : tbl[k]? = some (pc, .lload_n i, 1)) (hq : pc + 1 = q) (kk : aj_X G q lv (.long x :: st) I J V N L bc bs) : aj_X G pc lv (st) I J V N L bc bs := by
  subst hq
  exact aj_pure (k := kk) (h := fun r H locs cells slots ls hl w => by
    exact lv_lload_n C.x C.b (C.d h) rfl (aj_lget hl hv) w)
theorem x_aload_n (C : aj_C G cc tbl own R0 nL) (k : Nat) {i : Fin 4} {x : Nat} (hv : lv[(i : Nat)]? = some (some (.ref x))) (h : tbl[k]? = some (pc, .aload_n i, 1)) (hq : pc + 1 = q) (kk : aj_X G q lv (.ref x :: st) I J V N L bc bs) : aj_X G pc lv (st) I J V N L bc bs := by
  subst hq
  exact aj_pure (k := kk) (h := fun r H locs cells slots ls hl w => by
    exact lv_aload_n C.x C.b (C.d h) rfl (aj_lget hl hv) w)
theorem x_if_eq (C : aj_C G cc tbl own R0 nL) (k : Nat) {x : Int32} {off : Int} {t : Nat} (h : tbl[k]? = some (pc, .ifCond .eq off, 3)) (ht : (pc : Int) + off = (t : Int)) (hq : pc + 3 = q) (kt : (x = 0) → aj_X G t lv st I J V N L bc bs) (kf : ¬ (x = 0) → aj_X G q lv st I J V N L bc bs) : aj_X G pc lv (.int x :: st) I J V N L bc bs := by
  subst hq
  intro r H locs cells slots ls hP hD hS hL hF hc hs hl
  exact lv_if_eq C.x C.b (C.d h) ht (fun z => kt z r H locs cells slots ls hP hD hS hL hF hc hs hl) (fun z => kf z r H locs cells slots ls hP hD hS hL hF hc hs hl)
theorem x_if_ne (C : aj_C G cc tbl own R0 nL) (k : Nat) {x : Int32} {off : Int} {t : Nat} (h : tbl[k]? = some (pc, .ifCond .ne off, 3)) (ht : (pc : Int) + off = (t : Int)) (hq : pc + 3 = q) (kt : (¬ x = 0) → aj_X G t lv st I J V N L bc bs) (kf : x = 0 → aj_X G q lv st I J V N L bc bs) : aj_X G pc lv (.int x :: st) I J V N L bc bs := by
  subst hq
  intro r H locs cells slots ls hP hD hS hL hF hc hs hl
  exact lv_if_ne C.x C.b (C.d h) ht (fun z => kt z r H locs cells slots ls hP hD hS hL hF hc hs hl) (fun z => kf z r H locs cells slots ls hP hD hS hL hF hc hs hl)
theorem x_if_lt (C : aj_C G cc tbl own R0 nL) (k : Nat) {x : Int32} {off : Int} {t : Nat} (h : tbl[k]? = some (pc, .ifCond .lt off, 3)) (ht : (pc : Int) + off = (t : Int)) (hq : pc + 3 = q) (kt : (x < 0) → aj_X G t lv st I J V N L bc bs) (kf : ¬ (x < 0) → aj_X G q lv st I J V N L bc bs) : aj_X G pc lv (.int x :: st) I J V N L bc bs := by
  subst hq
  intro r H locs cells slots ls hP hD hS hL hF hc hs hl
  exact lv_if_lt C.x C.b (C.d h) ht (fun z => kt z r H locs cells slots ls hP hD hS hL hF hc hs hl) (fun z => kf z r H locs cells slots ls hP hD hS hL hF hc hs hl)
theorem x_if_ge (C : aj_C G cc tbl own R0 nL) (k : Nat) {x : Int32} {off : Int} {t : Nat} (h : tbl[k]? = some (pc, .ifCond .ge off, 3)) (ht : (pc : Int) + off = (t : Int)) (hq : pc + 3 = q) (kt : (0 ≤ x) → aj_X G t lv st I J V N L bc bs) (kf : ¬ (0 ≤ x) → aj_X G q lv st I J V N L bc bs) : aj_X G pc lv (.int x :: st) I J V N L bc bs := by
  subst hq
  intro r H locs cells slots ls hP hD hS hL hF hc hs hl
  exact lv_if_ge C.x C.b (C.d h) ht (fun z => kt z r H locs cells slots ls hP hD hS hL hF hc hs hl) (fun z => kf z r H locs cells slots ls hP hD hS hL hF hc hs hl)
theorem x_if_gt (C : aj_C G cc tbl own R0 nL) (k : Nat) {x : Int32} {off : Int} {t : Nat} (h : tbl[k]? = some (pc, .ifCond .gt off, 3)) (ht : (pc : Int) + off = (t : Int)) (hq : pc + 3 = q) (kt : (0 < x) → aj_X G t lv st I J V N L bc bs) (kf : ¬ (0 < x) → aj_X G q lv st I J V N L bc bs) : aj_X G pc lv (.int x :: st) I J V N L bc bs := by
  subst hq
  intro r H locs cells slots ls hP hD hS hL hF hc hs hl
  exact lv_if_gt C.x C.b (C.d h) ht (fun z => kt z r H locs cells slots ls hP hD hS hL hF hc hs hl) (fun z => kf z r H locs cells slots ls hP hD hS hL hF hc hs hl)
theorem x_if_le (C : aj_C G cc tbl own R0 nL) (k : Nat) {x : Int32} {off : Int} {t : Nat} (h : tbl[k]? = some (pc, .ifCond .le off, 3)) (ht : (pc : Int) + off = (t : Int)) (hq : pc + 3 = q) (kt : (x ≤ 0) → aj_X G t lv st I J V N L bc bs) (kf : ¬ (x ≤ 0) → aj_X G q lv st I J V N L bc bs) : aj_X G pc lv (.int x :: st) I J V N L bc bs := by
  subst hq
  intro r H locs cells slots ls hP hD hS hL hF hc hs hl
  exact lv_if_le C.x C.b (C.d h) ht (fun z => kt z r H locs cells slots ls hP hD hS hL hF hc hs hl) (fun z => kf z r H locs cells slots ls hP hD hS hL hF hc hs hl)
theorem x_icmp_eq (C : aj_C G cc tbl own R0 nL) (k : Nat) {x y : Int32} {off : Int} {t : Nat} (h : tbl[k]? = some (pc, .if_icmp .eq off, 3)) (ht : (pc : Int) + off = (t : Int)) (hq : pc + 3 = q) (kt : (x = y) → aj_X G t lv st I J V N L bc bs) (kf : ¬ (x = y) → aj_X G q lv st I J V N L bc bs) : aj_X G pc lv (.int y :: .int x :: st) I J V N L bc bs := by
  subst hq
  intro r H locs cells slots ls hP hD hS hL hF hc hs hl
  exact lv_icmp_eq C.x C.b (C.d h) ht (fun z => kt z r H locs cells slots ls hP hD hS hL hF hc hs hl) (fun z => kf z r H locs cells slots ls hP hD hS hL hF hc hs hl)
theorem x_icmp_ne (C : aj_C G cc tbl own R0 nL) (k : Nat) {x y : Int32} {off : Int} {t : Nat} (h : tbl[k]? = some (pc, .if_icmp .ne off, 3)) (ht : (pc : Int) + off = (t : Int)) (hq : pc + 3 = q) (kt : (¬ x = y) → aj_X G t lv st I J V N L bc bs) (kf : x = y → aj_X G q lv st I J V N L bc bs) : aj_X G pc lv (.int y :: .int x :: st) I J V N L bc bs := by
  subst hq
  intro r H locs cells slots ls hP hD hS hL hF hc hs hl
  exact lv_icmp_ne C.x C.b (C.d h) ht (fun z => kt z r H locs cells slots ls hP hD hS hL hF hc hs hl) (fun z => kf z r H locs cells slots ls hP hD hS hL hF hc hs hl)
theorem x_icmp_lt (C : aj_C G cc tbl own R0 nL) (k : Nat) {x y : Int32} {off : Int} {t : Nat} (h : tbl[k]? = some (pc, .if_icmp .lt off, 3)) (ht : (pc : Int) + off = (t : Int)) (hq : pc + 3 = q) (kt : (x < y) → aj_X G t lv st I J V N L bc bs) (kf : ¬ (x < y) → aj_X G q lv st I J V N L bc bs) : aj_X G pc lv (.int y :: .int x :: st) I J V N L bc bs := by
  subst hq
  intro r H locs cells slots ls hP hD hS hL hF hc hs hl
  exact lv_icmp_lt C.x C.b (C.d h) ht (fun z => kt z r H locs cells slots ls hP hD hS hL hF hc hs hl) (fun z => kf z r H locs cells slots ls hP hD hS hL hF hc hs hl)
theorem x_icmp_ge (C : aj_C G cc tbl own R0 nL) (k : Nat) {x y : Int32} {off : Int} {t : Nat} (h : tbl[k]? = some (pc, .if_icmp .ge off, 3)) (ht : (pc : Int) + off = (t : Int)) (hq : pc + 3 = q) (kt : (y ≤ x) → aj_X G t lv st I J V N L bc bs) (kf : ¬ (y ≤ x) → aj_X G q lv st I J V N L bc bs) : aj_X G pc lv (.int y :: .int x :: st) I J V N L bc bs := by
  subst hq
  intro r H locs cells slots ls hP hD hS hL hF hc hs hl
  exact lv_icmp_ge C.x C.b (C.d h) ht (fun z => kt z r H locs cells slots ls hP hD hS hL hF hc hs hl) (fun z => kf z r H locs cells slots ls hP hD hS hL hF hc hs hl)
theorem x_icmp_gt (C : aj_C G cc tbl own R0 nL) (k : Nat) {x y : Int32} {off : Int} {t : Nat} (h : tbl[k]? = some (pc, .if_icmp .gt off, 3)) (ht : (pc : Int) + off = (t : Int)) (hq : pc + 3 = q) (kt : (y < x) → aj_X G t lv st I J V N L bc bs) (kf : ¬ (y < x) → aj_X G q lv st I J V N L bc bs) : aj_X G pc lv (.int y :: .int x :: st) I J V N L bc bs := by
  subst hq
  intro r H locs cells slots ls hP hD hS hL hF hc hs hl
  exact lv_icmp_gt C.x C.b (C.d h) ht (fun z => kt z r H locs cells slots ls hP hD hS hL hF hc hs hl) (fun z => kf z r H locs cells slots ls hP hD hS hL hF hc hs hl)
theorem x_icmp_le (C : aj_C G cc tbl own R0 nL) (k : Nat) {x y : Int32} {off : Int} {t : Nat} (h : tbl[k]? = some (pc, .if_icmp .le off, 3)) (ht : (pc : Int) + off = (t : Int)) (hq : pc + 3 = q) (kt : (x ≤ y) → aj_X G t lv st I J V N L bc bs) (kf : ¬ (x ≤ y) → aj_X G q lv st I J V N L bc bs) : aj_X G pc lv (.int y :: .int x :: st) I J V N L bc bs := by
  subst hq
  intro r H locs cells slots ls hP hD hS hL hF hc hs hl
  exact lv_icmp_le C.x C.b (C.d h) ht (fun z => kt z r H locs cells slots ls hP hD hS hL hF hc hs hl) (fun z => kf z r H locs cells slots ls hP hD hS hL hF hc hs hl)
theorem x_goto (C : aj_C G cc tbl own R0 nL) (k : Nat) {off : Int} {t : Nat} (h : tbl[k]? = some (pc, .goto off, 3)) (ht : (pc : Int) + off = (t : Int)) (kk : aj_X G t lv st I J V N L bc bs) : aj_X G pc lv st I J V N L bc bs := aj_pure (fun r H locs cells slots ls hl w => lv_goto C.x C.b (C.d h) ht w) kk
theorem x_istore (C : aj_C G cc tbl own R0 nL) (k : Nat) {i : Nat} {x : Int32} (h : tbl[k]? = some (pc, .istore i, 2)) (hq : pc + 2 = q) (hn : (i : Nat) < nL) (hnl : aj_nl lv i) (hlv : lv.set (i : Nat) (some (.int x)) = lv') (kk : aj_X G q lv' st I J V N L bc bs) : aj_X G pc lv (.int x :: st) I J V N L bc bs := by
  subst hq
  subst hlv
  intro r H locs cells slots ls hP hD hS hL hF hc hs hl
  exact lv_istore C.x C.b (C.d h) hl (by rw [C.n]; exact hn) rfl (fun ls' hl' => kk r H locs cells slots ls' hP hD hS hL hF hc hs (aj_set1 hnl hl'))
theorem x_istore_n (C : aj_C G cc tbl own R0 nL) (k : Nat) {i : Fin 4} {x : Int32} (h : tbl[k]? = some (pc, .istore_n i, 1)) (hq : pc + 1 = q) (hn : (i : Nat) < nL) (hnl : aj_nl lv i) (hlv : lv.set (i : Nat) (some (.int x)) = lv') (kk : aj_X G q lv' st I J V N L bc bs) : aj_X G pc lv (.int x :: st) I J V N L bc bs := by
  subst hq
  subst hlv
  intro r H locs cells slots ls hP hD hS hL hF hc hs hl
  exact lv_istore_n C.x C.b (C.d h) rfl hl (by rw [C.n]; exact hn) rfl (fun ls' hl' => kk r H locs cells slots ls' hP hD hS hL hF hc hs (aj_set1 hnl hl'))
theorem x_astore (C : aj_C G cc tbl own R0 nL) (k : Nat) {i : Nat} {x : Nat} (h : tbl[k]? = some (pc, .astore i, 2)) (hq : pc + 2 = q) (hn : (i : Nat) < nL) (hnl : aj_nl lv i) (hlv : lv.set (i : Nat) (some (.ref x)) = lv') (kk : aj_X G q lv' st I J V N L bc bs) : aj_X G pc lv (.ref x :: st) I J V N L bc bs := by
  subst hq
  subst hlv
  intro r H locs cells slots ls hP hD hS hL hF hc hs hl
  exact lv_astore C.x C.b (C.d h) hl (by rw [C.n]; exact hn) rfl (fun ls' hl' => kk r H locs cells slots ls' hP hD hS hL hF hc hs (aj_set1 hnl hl'))
theorem x_astore_n (C : aj_C G cc tbl own R0 nL) (k : Nat) {i : Fin 4} {x : Nat} (h : tbl[k]? = some (pc, .astore_n i, 1)) (hq : pc + 1 = q) (hn : (i : Nat) < nL) (hnl : aj_nl lv i) (hlv : lv.set (i : Nat) (some (.ref x)) = lv') (kk : aj_X G q lv' st I J V N L bc bs) : aj_X G pc lv (.ref x :: st) I J V N L bc bs := by
  subst hq
  subst hlv
  intro r H locs cells slots ls hP hD hS hL hF hc hs hl
  exact lv_astore_n C.x C.b (C.d h) rfl hl (by rw [C.n]; exact hn) rfl (fun ls' hl' => kk r H locs cells slots ls' hP hD hS hL hF hc hs (aj_set1 hnl hl'))
theorem x_lstore (C : aj_C G cc tbl own R0 nL) (k : Nat) {i : Nat} {x : Int64} (h : tbl[k]? = some (pc, .lstore i, 2)) (hq : pc + 2 = q) (hn : (i : Nat) + 1 < nL) (hnl : aj_nl lv i) (hlv : (lv.set (i : Nat) (some (.long x))).set (i + 1) none = lv') (kk : aj_X G q lv' st I J V N L bc bs) : aj_X G pc lv (.long x :: st) I J V N L bc bs := by
  subst hq
  subst hlv
  intro r H locs cells slots ls hP hD hS hL hF hc hs hl
  exact lv_lstore C.x C.b (C.d h) hl (by rw [C.n]; exact hn) rfl (fun ls' hl' => kk r H locs cells slots ls' hP hD hS hL hF hc hs (aj_set2 hnl hl'))
theorem x_lstore_n (C : aj_C G cc tbl own R0 nL) (k : Nat) {i : Fin 4} {x : Int64} (h : tbl[k]? = some (pc, .lstore_n i, 1)) (hq : pc + 1 = q) (hn : (i : Nat) + 1 < nL) (hnl : aj_nl lv i) (hlv : (lv.set (i : Nat) (some (.long x))).set (i + 1) none = lv') (kk : aj_X G q lv' st I J V N L bc bs) : aj_X G pc lv (.long x :: st) I J V N L bc bs := by
  subst hq
  subst hlv
  intro r H locs cells slots ls hP hD hS hL hF hc hs hl
  exact lv_lstore_n C.x C.b (C.d h) rfl hl (by rw [C.n]; exact hn) rfl (fun ls' hl' => kk r H locs cells slots ls' hP hD hS hL hF hc hs (aj_set2 hnl hl'))
end RW
end AJ
