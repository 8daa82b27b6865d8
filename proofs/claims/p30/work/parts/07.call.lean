section AJ4
variable {G : aj_G} {cc : ByteArray} {tbl : List (Nat × Instr × Nat)} {own : String} {R0 : Room} {nL : Nat} {pc q : Nat} {lv lv' : List (Option Value)} {st st' : List Value} {I : Nat → Nat → Int32} {J : Nat → Nat → Int64} {V : Nat → Nat → Option Nat} {N : Nat → Nat} {L : List Nat} {bc bs : Nat}
-- CONTRACTS: what a method's end owes, told by K: K (.inl answer) or K (.inr the exception's class), then the heap as it is then
abbrev aj_K : Type := (Option Value ⊕ String) → (Nat → Nat → Int32) → (Nat → Nat → Int64) → (Nat → Nat → Option Nat) → (Nat → Nat) → List Nat → Prop
def aj_E (D : va_G) (cs : Nat → ClassId) (A : Nat → Prop) (L F : List Nat) (r : Nat → Nat) (st t : State) (K' : (Nat → Nat) → (Nat → Nat → Int32) → (Nat → Nat → Int64) → (Nat → Nat → Option Nat) → (Nat → Nat) → List Nat → Prop) : Prop :=
  ∃ (r' : Nat → Nat) (I : Nat → Nat → Int32) (J : Nat → Nat → Int64) (V : Nat → Nat → Option Nat) (N : Nat → Nat) (L' : List Nat), K' r' I J V N L' ∧ (∀ i ∈ L, i ∈ L') ∧ (∀ i, i ∉ F → r' i = r i) ∧ va_P D vwCl (aj_ws cs r' I J V N L') t.heap ∧ va_D A (aj_ws cs r' I J V N L') ∧ va_F A st t
def aj_Qc (D : va_G) (cs : Nat → ClassId) (A : Nat → Prop) (L F : List Nat) (r : Nat → Nat) (K : aj_K) : Array Value → State → Outcome → State → Prop := fun _ st o t =>
  aj_E D cs A L F r st t (fun r' I J V N L' => ∃ v : Option Value, o = .returned (v.map (aj_v r')) ∧ K (.inl v) I J V N L')
def aj_Xc (D : va_G) (cs : Nat → ClassId) (A : Nat → Prop) (L F : List Nat) (r : Nat → Nat) (K : aj_K) : String → State → State → Prop := fun E st t =>
  aj_E D cs A L F r st t (fun _ I J V N L' => K (.inr E) I J V N L')
def aj_Pc (D : va_G) (cs : Nat → ClassId) (r : Nat → Nat) (sz : Nat) (av : List Value) (I : Nat → Nat → Int32) (J : Nat → Nat → Int64) (V : Nat → Nat → Option Nat) (N : Nat → Nat) (L : List Nat) : Array Value → State → Prop :=
  va_Pc (av.map (aj_v r)) (fun U => U.heap.size = sz ∧ va_P D vwCl (aj_ws cs r I J V N L) U.heap ∧ va_K D vwCl (aj_tys cs) U ∧ va_D (fun _ => True) (aj_ws cs r I J V N L) ∧ aj_GW r (va_A (aj_ws cs r I J V N L) sz) U U.heap)
theorem aj_blind {D : va_G} {cs : Nat → ClassId} {r : Nat → Nat} {sz : Nat} {av : List Value} : FrameBlind (aj_Pc D cs r sz av I J V N L) := by
  intro a U g mk h
  obtain ⟨h1, h2, h3, h4, h5, h6⟩ := h
  exact ⟨h1, h2, h3, va_K.moved (u := U) (U := U.calling g mk a) (Vm.Alike.refl U.vm) h4, h5, aj_GW.warm (u := U) (U := U.calling g mk a) (State.WarmedH.refl U) h6⟩
def aj_M (l : Launch) (y : MethodName) (ws : List Cond) (rm : Room) (F : List Nat) (av : List Value) (I : Nat → Nat → Int32) (J : Nat → Nat → Int64) (V : Nat → Nat → Option Nat) (N : Nat → Nat) (L : List Nat) (K : aj_K) : Prop :=
  l.stackTraces = false → ∀ (D : va_G) (cs : Nat → ClassId) (r : Nat → Nat) (sz : Nat), vx_Met l y ws rm (aj_Pc D cs r sz av I J V N L) (aj_Qc D cs (va_A (aj_ws cs r I J V N L) sz) L F r K) (aj_Xc D cs (va_A (aj_ws cs r I J V N L) sz) L F r K) rm.cells rm.slots (va_A (aj_ws cs r I J V N L) sz)
/-- what a method's own end is -/
def aj_Z (G : aj_G) (ret : Option FieldType) (K : aj_K) : Prop :=
  (gt G).sig.returnType = ret ∧ gQ G = vx_MQ (gb G) (aj_Qc (gD G) (gcs G) (gA G) (gL G) (gF G) (gr G) K) (aj_Xc (gD G) (gcs G) (gA G) (gL G) (gF G) (gr G) K) (ga G) (gs G) (gR G).cells (gR G).slots (gA G)
def aj_NX (G : aj_G) : Prop := ∀ x ∈ (gc G).exceptionTable.toList, False
theorem aj_sl_len (r : Nat → Nat) : ∀ av : List Value, (lg_sl (av.map (aj_v r))).length = (lg_sl av).length := by
  intro av
  induction av with
  | nil => rfl
  | cons v l ih =>
    have hc := aj_v_cat r v
    unfold lg_sl at ih ⊢
    rw [List.map_cons, List.flatMap_cons, List.flatMap_cons, List.length_append, List.length_append, ih, hc]
    by_cases h : v.category = 2
    · rw [if_pos h, if_pos h]; rfl
    · rw [if_neg h, if_neg h]; rfl
theorem aj_GW.ren {r r' : Nat → Nat} {A : Nat → Prop} {U : State} {H : Heap} (h : aj_GW r A U H) (e : ∀ i, aj_sp i → r' i = r i) : aj_GW r' A U H := by
  have e1 : (fun i => r' (28 + 16 * i)) = fun i => r (28 + 16 * i) := funext fun i => e _ (Or.inl (by omega))
  have e2 : (fun i => r' (60 + 16 * i)) = fun i => r (60 + 16 * i) := funext fun i => e _ (Or.inl (by omega))
  unfold aj_GW aj_GT at h ⊢
  rw [e 12 (Or.inl rfl), e 13 (Or.inr (Or.inl rfl)), e 14 (Or.inr (Or.inr rfl)), e 28 (Or.inl rfl), e 44 (Or.inl rfl), e1, e2]; exact h
theorem aj_start {p : Program} {l : Launch} {e : Env} {R : Room} {s : State} {m : MethodId} {args : Array Value} {below : List Frame} {meth : Method} {c : Code} {Q : State → Prop} {D : va_G} {cs : Nat → ClassId} {r : Nat → Nat} {F : List Nat} {maxL : Nat} {av : List Value} {lv0 : List (Option Value)}
    (hlen : (lg_sl av).length ≤ maxL) (hlv : aj_ini av ++ List.replicate (maxL - (lg_sl av).length) none = lv0) (hA : args = (av.map (aj_v r)).toArray) (hP : va_P D vwCl (aj_ws cs r I J V N L) s.heap) (hD : va_D (fun _ => True) (aj_ws cs r I J V N L))
    (kk : aj_X (D, cs, p, l, e, R, s, m, args, below, meth, c, va_A (aj_ws cs r I J V N L) s.heap.size, maxL, r, L, F, Q) 0 lv0 [] I J V N L R.cells R.slots) : W p l e R s m args below meth c s.heap [] 0 0 Q (entryFrame m args maxL) := by
  subst hA
  subst hlv
  rw [lg_entry_eq]
  have hl := lv_entry (av.map (aj_v r)) (n := maxL) (by rw [aj_sl_len]; exact hlen)
  rw [← aj_ini_args r (maxL - (lg_sl av).length) av 0] at hl
  exact kk r s.heap [] 0 0 _ hP hD.self va_S.rf (fun _ h => h) (fun _ _ => rfl) (by show 0 + R.cells ≤ R.cells; omega) (by show 0 + R.slots ≤ R.slots; omega) hl
set_option maxHeartbeats 1000000 in
theorem aj_intro {l : Launch} {y : MethodName} {maxL : Nat} {ret : Option FieldType} {rm : Room} {F : List Nat} {av : List Value} {K : aj_K} {lv0 : List (Option Value)} (hy : plainName y.cls = true) (htbl : ∀ e ∈ tbl, decode cc e.1 = .ok e.2) (hF : ∀ i ∈ F, ¬ aj_sp i) (hlen : (lg_sl av).length ≤ maxL) (hlv : aj_ini av ++ List.replicate (maxL - (lg_sl av).length) none = lv0)
    (body : ∀ G : aj_G, gl G = l → aj_C G cc tbl y.cls rm maxL → aj_Z G ret K → aj_NX G → (gt G).name = y.name → gL G = L → gF G = F → aj_X G 0 lv0 [] I J V N L rm.cells rm.slots) : aj_M l y (Cond.code y cc maxL ret :: aj_TB) rm F av I J V N L K := by
  intro hst D cs r sz
  refine vx_ofW hy rfl ?_
  intro p e s m args below meth c s₁ B hml hno hv
  obtain ⟨hA, hsz, hP, hK, hD, hGW⟩ := hv
  subst hsz
  have hts := atoms_spec (ws := Cond.code y cc maxL ret :: aj_TB) B.pre
  refine aj_start (D := D) (cs := cs) (r := r) (F := F) (R := rm) hlen hlv hA hP hD (body _ rfl ?_ ⟨B.returns, rfl⟩ hno (name_of_methodNamed B.named B.method).1 rfl rfl)
  exact ⟨B.exec, B.bytes, hml, findClass_of_methodNamed B.named, fun w hw => hts w (List.mem_cons_of_mem _ hw), hK, fun q hq => Or.inr hq, htbl, rfl, rfl, hst, hF, hGW, B.notSynchronized⟩
-- ENDS
section EN
variable {ret : Option FieldType} {K : aj_K}
theorem aj_endQ {r : Nat → Nat} {H : Heap} {locs : List Loc} {v : Option Value} {t : State} (hP : va_P (gD G) vwCl (aj_ws (gcs G) r I J V N L) H) (hD : va_D (gA G) (aj_ws (gcs G) r I J V N L)) (hS : va_S (gA G) (gs G).heap H locs) (hL : ∀ i ∈ gL G, i ∈ L) (hF : ∀ i, i ∉ gF G → r i = gr G i) (ht : t.heap = H) (hk : K (.inl v) I J V N L) : aj_Qc (gD G) (gcs G) (gA G) (gL G) (gF G) (gr G) K (ga G) (gs G) (.returned (v.map (aj_v r))) t :=
  ⟨r, I, J, V, N, L, ⟨v, rfl, hk⟩, hL, hF, by rw [ht]; exact hP, hD, hS.F ht⟩
theorem x_ireturn (C : aj_C G cc tbl own R0 nL) (Z : aj_Z G ret K) (k : Nat) {x : Int32} {ty : FieldType} (h : tbl[k]? = some (pc, .ireturn, 1)) (hr : ret = some ty) (hn : narrow ty (.int x) = .int x) (hk : K (.inl (some (.int x))) I J V N L) : aj_X G pc lv [.int x] I J V N L bc bs := by
  intro r H locs cells slots ls hP hD hS hLL hF hc hs hl
  have hlk := C.lk
  show W _ _ _ _ _ _ _ _ _ _ H locs cells slots (gQ G) _
  rw [Z.2]
  exact vx_ret (W.widen (by omega) (by omega) (W.zret (hlocks := hlk) C.x C.b (Z.1.trans hr) hn (fun t ht _ => aj_endQ (v := some (.int x)) hP hD hS hLL hF ht hk) hS.2.2 (C.d h)))
theorem x_lreturn (C : aj_C G cc tbl own R0 nL) (Z : aj_Z G ret K) (k : Nat) {x : Int64} (h : tbl[k]? = some (pc, .lreturn, 1)) (hr : ret = some .long) (hk : K (.inl (some (.long x))) I J V N L) : aj_X G pc lv [.long x] I J V N L bc bs := by
  intro r H locs cells slots ls hP hD hS hLL hF hc hs hl
  have hlk := C.lk
  show W _ _ _ _ _ _ _ _ _ _ H locs cells slots (gQ G) _
  rw [Z.2]
  exact vx_ret (W.widen (by omega) (by omega) (W.lret (hlocks := hlk) C.x C.b (Z.1.trans hr) (fun t ht _ => aj_endQ (v := some (.long x)) hP hD hS hLL hF ht hk) hS.2.2 (C.d h)))
theorem x_return (C : aj_C G cc tbl own R0 nL) (Z : aj_Z G ret K) (k : Nat) (h : tbl[k]? = some (pc, .return_, 1)) (hr : ret = none) (hk : K (.inl none) I J V N L) : aj_X G pc lv [] I J V N L bc bs := by
  intro r H locs cells slots ls hP hD hS hLL hF hc hs hl
  have hlk := C.lk
  show W _ _ _ _ _ _ _ _ _ _ H locs cells slots (gQ G) _
  rw [Z.2]
  exact vx_ret (W.widen (by omega) (by omega) (W.vret (hlocks := hlk) C.x C.b (Z.1.trans hr) (fun t ht _ => aj_endQ (v := none) hP hD hS hLL hF ht hk) hS.2.2 (C.d h)))
theorem x_areturn (C : aj_C G cc tbl own R0 nL) (Z : aj_Z G ret K) (k : Nat) {a : Nat} {rt : FieldType} (h : tbl[k]? = some (pc, .areturn, 1)) (hr : ret = some rt) (hrt : (∃ n, rt = .object n) ∨ ∃ t, rt = .array t) (hk : K (.inl (some (.ref a))) I J V N L) : aj_X G pc lv [.ref a] I J V N L bc bs := by
  intro r H locs cells slots ls hP hD hS hLL hF hc hs hl
  have hlk := C.lk
  show W _ _ _ _ _ _ _ _ _ _ H locs cells slots (gQ G) _
  rw [Z.2]
  exact vx_ret (W.widen (by omega) (by omega) (W.aret (hlocks := hlk) (v := .ref (r a)) C.x C.b (Z.1.trans hr) hrt (Or.inr ⟨_, rfl⟩) (fun t ht _ => aj_endQ (v := some (.ref a)) hP hD hS hLL hF ht hk) hS.2.2 (C.d h)))
/-- an exception of class E over the frame -/
def aj_XT (G : aj_G) (pc : Nat) (lv : List (Option Value)) (E : String) (I : Nat → Nat → Int32) (J : Nat → Nat → Int64) (V : Nat → Nat → Option Nat) (N : Nat → Nat) (L : List Nat) (bc bs : Nat) : Prop :=
  ∀ (r : Nat → Nat) (H : Heap) (locs : List Loc) (cells slots : Nat) (ls : Array Slot) (st : List Value) (q9 : Addr) (ce : Cell), va_P (gD G) vwCl (aj_ws (gcs G) r I J V N L) H → va_D (gA G) (aj_ws (gcs G) r I J V N L) → va_S (gA G) (gs G).heap H locs →
    (∀ i ∈ gL G, i ∈ L) → (∀ i, i ∉ gF G → r i = gr G i) → cells + bc ≤ (gR G).cells → slots + bs ≤ (gR G).slots → lv_has ls (gn G) (aj_lvs r 0 lv) → H[q9]? = some ce → ce.vm = .none → (gs G).vm.findClass E = some ce.cls →
    vx_W (gp G) (gl G) (ge G) (gR G) (gs G) (gm G) (ga G) (gb G) (gt G) (gc G) H locs cells slots (gQ G) (F0 (gm G) pc ls st) q9
theorem x_out {E : String} (C : aj_C G cc tbl own R0 nL) (Z : aj_Z G ret K) (NX : aj_NX G) (hk : K (.inr E) I J V N L) : aj_XT G pc lv E I J V N L bc bs := by
  intro r H locs cells slots ls st q9 ce hP hD hS hLL hF hc hs hl h1 h2 h3
  rw [Z.2]
  exact vx_out (fun x hx => (NX x hx).elim) C.lk h1 h2 h3 (fun t ht _ => ⟨r, I, J, V, N, L, hk, hLL, hF, by rw [ht]; exact hP, hD, hS.F ht⟩) hS.2.2 (by omega) (by omega)
end EN
-- CALLS
/-- how it goes on behind a call -/
def aj_kont (G : aj_G) (pc q : Nat) (lv : List (Option Value)) (st : List Value) (bc bs : Nat) : aj_K := fun o I J V N L => match o with
  | .inl (some v) => aj_X G q lv (v :: st) I J V N L bc bs
  | .inl none => aj_X G q lv st I J V N L bc bs
  | .inr E => aj_XT G pc lv E I J V N L bc bs
theorem aj_v_off {r r' : Nat → Nat} {F : List Nat} (h : ∀ i, i ∉ F → r' i = r i) {v : Value} (hn : ∀ i ∈ F, v ≠ .ref i) : aj_v r' v = aj_v r v := by
  cases v with
  | ref x => exact congrArg Value.ref (h x (fun q => hn x q rfl))
  | _ => rfl
theorem aj_st_off {r r' : Nat → Nat} {F : List Nat} (h : ∀ i, i ∉ F → r' i = r i) {lv : List (Option Value)} {st : List Value} (hn : ∀ i ∈ F, aj_no i lv st) : st.map (aj_v r') = st.map (aj_v r) := List.map_congr_left (fun v hv => aj_v_off h (fun i hi => (hn i hi).1 v hv))
theorem aj_lvs_off {r r' : Nat → Nat} {F : List Nat} (h : ∀ i, i ∉ F → r' i = r i) : ∀ {lv : List (Option Value)} (_ : ∀ i ∈ F, ∀ v ∈ lv, v ≠ some (.ref i)) (k : Nat), aj_lvs r' k lv = aj_lvs r k lv := by
  intro lv
  induction lv with
  | nil => intro _ i; rfl
  | cons v l ih =>
    intro hn i
    cases v with
    | none => exact ih (fun j hj w hw => hn j hj w (List.mem_cons_of_mem _ hw)) (i + 1)
    | some v =>
      show (i, aj_v _ v) :: _ = (i, aj_v _ v) :: _
      rw [aj_v_off h (fun j hj e => hn j hj (some v) List.mem_cons_self (by rw [e])), ih (fun j hj w hw => hn j hj w (List.mem_cons_of_mem _ hw)) (i + 1)]
theorem aj_after {rm : Room} {F' : List Nat} {av : List Value} {bc' bs' : Nat} {r : Nat → Nat} {H : Heap} {locs : List Loc} {cells slots : Nat} {ls : Array Slot} {st0 : List Value} (hq : pc + 3 = q)
    (hP : va_P (gD G) vwCl (aj_ws (gcs G) r I J V N L) H) (hD : va_D (gA G) (aj_ws (gcs G) r I J V N L)) (hS : va_S (gA G) (gs G).heap H locs) (hLL : ∀ i ∈ gL G, i ∈ L) (hF : ∀ i, i ∉ gF G → r i = gr G i) (hc : cells + rm.cells + bc' ≤ (gR G).cells) (hs : slots + rm.slots + bs' ≤ (gR G).slots) (hl : lv_has ls (gn G) (aj_lvs r 0 lv))
    (hA : ∀ q, va_A (aj_ws (gcs G) r I J V N L) H.size q → gA G q) (hF' : ∀ i ∈ F', i ∈ gF G) (hno : ∀ i ∈ F', aj_no i lv st) {a : Array Value}
    (hr : vx_Run (gp G) (gl G) (ge G) (gR G) (gs G) (gm G) (ga G) (gb G) (gt G) (gc G) H locs cells slots rm.cells rm.slots (F0 (gm G) pc ls st0) (st.map (aj_v r)) (aj_Qc (gD G) (gcs G) (va_A (aj_ws (gcs G) r I J V N L) H.size) L F' r (aj_kont G pc q lv st bc' bs') a) (aj_Xc (gD G) (gcs G) (va_A (aj_ws (gcs G) r I J V N L) H.size) L F' r (aj_kont G pc q lv st bc' bs')) (va_A (aj_ws (gcs G) r I J V N L) H.size)) :
    aj_W G H locs cells slots (F0 (gm G) pc ls st0) := by
  subst hq
  intro T hT X
  rcases hr T hT X with ⟨v, st₀, t, T', L1, h0, X', hL1, e1, e2, ⟨r', I', J', V', N', L', ⟨w, hw, hk⟩, k1, k2, k3, k4, k5⟩, go⟩ | ⟨q9, st₀, t, T', L1, E, ce, h0, X', hL1, e1, e2, ⟨r', I', J', V', N', L', hk, k1, k2, k3, k4, k5⟩, hce, hcv, hcl, go⟩
  · obtain ⟨-, -, z3⟩ := vx_keep h0 e1 hS (fun q _ h => hA q h) hA hL1 k5
    have hvw : v = w.map (aj_v r') := by cases hw; rfl
    subst hvw
    have hst : st.map (aj_v r') = st.map (aj_v r) := aj_st_off k2 hno
    have hlv : aj_lvs r' 0 lv = aj_lvs r 0 lv := aj_lvs_off k2 (fun i hi => (hno i hi).2) 0
    have hP' : va_P (gD G) vwCl (aj_ws (gcs G) r' I' J' V' N' L') T'.heap := by rw [e1]; exact k3
    have hD' : va_D (gA G) (aj_ws (gcs G) r' I' J' V' N' L') := k4.weaken (fun k q _ h => hA q.1 h)
    have hLL' : ∀ i ∈ gL G, i ∈ L' := fun i hi => k1 i (hLL i hi)
    have hFF' : ∀ i, i ∉ gF G → r' i = gr G i := fun i hi => (k2 i (fun z => hi (hF' i z))).trans (hF i hi)
    cases w with
    | none =>
      obtain ⟨t2, a1, b1⟩ := hk r' T'.heap (locs ++ L1) (cells + rm.cells) (slots + rm.slots) ls hP' hD' z3 hLL' hFF' hc hs (by rw [hlv]; exact hl) T' rfl X'
      rw [hst] at a1
      exact ⟨t2, go t2 a1, b1⟩
    | some w =>
      obtain ⟨t2, a1, b1⟩ := hk r' T'.heap (locs ++ L1) (cells + rm.cells) (slots + rm.slots) ls hP' hD' z3 hLL' hFF' hc hs (by rw [hlv]; exact hl) T' rfl X'
      rw [List.map_cons, hst] at a1
      exact ⟨t2, go t2 a1, b1⟩
  · obtain ⟨-, -, z3⟩ := vx_keep h0 e1 hS (fun q _ h => hA q h) hA hL1 k5
    have hlv : aj_lvs r' 0 lv = aj_lvs r 0 lv := aj_lvs_off k2 (fun i hi => (hno i hi).2) 0
    have hP' : va_P (gD G) vwCl (aj_ws (gcs G) r' I' J' V' N' L') T'.heap := by rw [e1]; exact k3
    have hD' : va_D (gA G) (aj_ws (gcs G) r' I' J' V' N' L') := k4.weaken (fun k q _ h => hA q.1 h)
    obtain ⟨t2, a1, b1⟩ := hk r' T'.heap (locs ++ L1) (cells + rm.cells) (slots + rm.slots) ls (st.map (aj_v r)) q9 ce hP' hD' z3 (fun i hi => k1 i (hLL i hi)) (fun i hi => (k2 i (fun z => hi (hF' i z))).trans (hF i hi)) hc hs (by rw [hlv]; exact hl) (by rw [e1]; exact hce) hcv hcl T' rfl X'
    exact ⟨t2, go.trans a1, b1⟩
/-- a method's card: its code's word, its class, how many parameters -/
def aj_cd (y : MethodName) (bytes : ByteArray) (maxL : Nat) (ret : Option FieldType) (n : Nat) : Prop :=
  Cond.code y bytes maxL ret ∈ aj_TB ∧ Cond.initialized y.cls ∈ aj_TB ∧ (y.cls ≠ "java/lang/invoke/MethodHandle" ∧ y.cls ≠ "java/lang/invoke/VarHandle" ∧ (parseMethodDescriptor y.desc).map (fun d => d.parameters.length) = some n)
theorem aj_good : ∀ w ∈ aj_TB, w ∈ aj_TB ∧ ((w.onTables && w.keeps) = true ∨ ∃ ty, w = .arrayClass ty) := fun w hw => ⟨hw, good_of_word (List.mem_filter.mp hw).2⟩
theorem aj_goodIn {c0 : Cond} (h : c0 ∈ aj_TB) : GoodIn aj_TB (c0 :: aj_TB) := fun w hw => by
  rcases List.mem_cons.mp hw with e | e
  · subst e; exact aj_good _ h
  · exact aj_good w e
theorem aj_subA {r : Nat → Nat} {H : Heap} {locs : List Loc} (C : aj_C G cc tbl own R0 nL) (hD : va_D (gA G) (aj_ws (gcs G) r I J V N L)) (hS : va_S (gA G) (gs G).heap H locs) : ∀ q, va_A (aj_ws (gcs G) r I J V N L) H.size q → gA G q := by
  intro q h
  rcases h with ⟨k, e, h⟩ | h
  · exact hD.2 k (q, e) h
  · exact C.a q (Nat.le_trans hS.1 h)
theorem aj_pre {r : Nat → Nat} {H : Heap} {locs : List Loc} {av : List Value} (C : aj_C G cc tbl own R0 nL) (hP : va_P (gD G) vwCl (aj_ws (gcs G) r I J V N L) H) (hD : va_D (gA G) (aj_ws (gcs G) r I J V N L)) (hS : va_S (gA G) (gs G).heap H locs) (hF : ∀ i, i ∉ gF G → r i = gr G i) (U : State) (hU : U.heap = H) (hW : (gs G).WarmedH U.vm) :
    aj_Pc (gD G) (gcs G) r H.size av I J V N L (av.map (aj_v r)).toArray U := by
  refine ⟨rfl, by rw [hU], by rw [hU]; exact hP, va_K.moved hW.alike C.k, hD.weaken (fun _ _ _ _ => trivial), ?_⟩
  rw [hU]
  exact aj_GW.warm hW ((C.gw.kept hS.2.1).narrow (aj_subA C hD hS) |>.ren (fun i hi => hF i (fun h => C.f i h hi)))
section IV
variable {idx maxL n bc' bs' : Nat} {y : MethodName} {bytes : ByteArray} {ret : Option FieldType} {rm : Room} {F' : List Nat} {As : List Value} {a : Nat}
theorem x_invV (C : aj_C G cc tbl own R0 nL) (k : Nat) (h : tbl[k]? = some (pc, .invokevirtual idx, 3)) (hq : pc + 3 = q) (hl : Cond.methodLink own idx y ∈ aj_TB) (cd : aj_cd y bytes maxL ret n) (cv : Cond.instanceMethod y ∈ aj_TB ∧ Cond.selects y.cls y y ∈ aj_TB) (ha : a % 16 < 7 ∧ aj_R (a % 16) = y.cls) (haL : a ∈ L)
    (hn : As.length = n) (hroom : rm.frames + 1 ≤ R0.frames ∧ 8 + (maxL + 11) + rm.locals ≤ R0.locals) (hst : (st.map fun v => v.category).sum ≤ 8) (hF' : ∀ i ∈ F', i ∈ gF G) (hno : ∀ i ∈ F', aj_no i lv st) (hbc : bc = rm.cells + bc') (hbs : bs = rm.slots + bs')
    (hM : aj_M (gl G) y (Cond.code y bytes maxL ret :: aj_TB) rm F' (.ref a :: As) I J V N L (aj_kont G pc q lv st bc' bs')) : aj_X G pc lv (As.reverse ++ .ref a :: st) I J V N L bc bs := by
  intro r H locs cells slots ls hP hD hS hLL hF hc hs hlv
  obtain ⟨k0, hk0, he⟩ := aj_ws_at (cs := gcs G) (r := r) (I := I) (J := J) (V := V) (N := N) haL
  rw [aj_el_obj rfl ha.1] at he
  have hrec := va_recv C.k hP (aj_cl (a % 16) ha.1) he
  rw [ha.2] at hrec
  have cw : CallW (gR G) (gs G) (ga G) own y.cls idx y bytes maxL ret (Cond.code y bytes maxL ret :: aj_TB) rm rm.cells rm.slots n := ⟨callB_of n C.ts (aj_goodIn cd.1) rfl rfl rfl (C.ts _ cd.2.1) (C.ts _ hl) cd.2.2 (by rw [C.r]; exact hroom), C.ts _ cv.1, C.ts _ cv.2⟩
  refine aj_after (rm := rm) (F' := F') (av := .ref a :: As) (bc' := bc') (bs' := bs') hq hP hD hS hLL hF (by omega) (by omega) hlv (aj_subA C hD hS) hF' hno (vx_runV (As := As.map (aj_v r)) (b := r a) ⟨C.x, C.b, C.ml, C.o, C.ts⟩ (hM C.st (gD G) (gcs G) r H.size) cw ⟨aj_blind, hrec, fun U hU hW => aj_pre (av := .ref a :: As) C hP hD hS hF U hU hW⟩ rfl (by rw [List.length_map]; exact hn) hlv.1 ?_ (by rw [aj_st_cat]; exact lv_room hst) (C.d h) ⟨by omega, by omega⟩)
  show (As.reverse ++ .ref a :: st).map (aj_v r) = (As.map (aj_v r)).reverse ++ .ref (r a) :: st.map (aj_v r)
  rw [List.map_append, List.map_reverse]; rfl
theorem x_invS (C : aj_C G cc tbl own R0 nL) (k : Nat) (h : tbl[k]? = some (pc, .invokestatic idx, 3)) (hq : pc + 3 = q) (hl : Cond.methodLink own idx y ∈ aj_TB) (cd : aj_cd y bytes maxL ret n) (cv : Cond.static y ∈ aj_TB)
    (hn : As.length = n) (hroom : rm.frames + 1 ≤ R0.frames ∧ 8 + (maxL + 11) + rm.locals ≤ R0.locals) (hst : (st.map fun v => v.category).sum ≤ 8) (hF' : ∀ i ∈ F', i ∈ gF G) (hno : ∀ i ∈ F', aj_no i lv st) (hbc : bc = rm.cells + bc') (hbs : bs = rm.slots + bs')
    (hM : aj_M (gl G) y (Cond.code y bytes maxL ret :: aj_TB) rm F' As I J V N L (aj_kont G pc q lv st bc' bs')) : aj_X G pc lv (As.reverse ++ st) I J V N L bc bs := by
  intro r H locs cells slots ls hP hD hS hLL hF hc hs hlv
  have cw : CallB (gR G) (gs G) (ga G) own idx y bytes maxL ret (Cond.code y bytes maxL ret :: aj_TB) rm rm.cells rm.slots n ∧ (Cond.static y).before (ga G) (gs G) = true := ⟨callB_of n C.ts (aj_goodIn cd.1) rfl rfl rfl (C.ts _ cd.2.1) (C.ts _ hl) cd.2.2 (by rw [C.r]; exact hroom), C.ts _ cv⟩
  refine aj_after (rm := rm) (F' := F') (av := As) (bc' := bc') (bs' := bs') hq hP hD hS hLL hF (by omega) (by omega) hlv (aj_subA C hD hS) hF' hno (vx_runS (As := As.map (aj_v r)) ⟨C.x, C.b, C.ml, C.o, C.ts⟩ (hM C.st (gD G) (gcs G) r H.size) cw ⟨aj_blind, fun U hU hW => aj_pre (av := As) C hP hD hS hF U hU hW⟩ rfl (by rw [List.length_map]; exact hn) hlv.1 ?_ (by rw [aj_st_cat]; exact lv_room hst) (C.d h) ⟨by omega, by omega⟩)
  show (As.reverse ++ st).map (aj_v r) = (As.map (aj_v r)).reverse ++ st.map (aj_v r)
  rw [List.map_append, List.map_reverse]
theorem x_invI (C : aj_C G cc tbl own R0 nL) (k : Nat) (h : tbl[k]? = some (pc, .invokespecial idx, 3)) (hq : pc + 3 = q) (hl : Cond.methodLink own idx y ∈ aj_TB) (cd : aj_cd y bytes maxL none n) (cv : Cond.instanceMethod y ∈ aj_TB) (hy : y.name = "<init>")
    (hn : As.length = n) (hroom : rm.frames + 1 ≤ R0.frames ∧ 8 + (maxL + 11) + rm.locals ≤ R0.locals) (hst : (st.map fun v => v.category).sum ≤ 8) (hF' : ∀ i ∈ F', i ∈ gF G) (hno : ∀ i ∈ F', aj_no i lv st) (hbc : bc = rm.cells + bc') (hbs : bs = rm.slots + bs')
    (hM : aj_M (gl G) y (Cond.code y bytes maxL none :: aj_TB) rm F' (.ref a :: As) I J V N L (aj_kont G pc q lv st bc' bs')) : aj_X G pc lv (As.reverse ++ .ref a :: st) I J V N L bc bs := by
  intro r H locs cells slots ls hP hD hS hLL hF hc hs hlv
  have cw : CallB (gR G) (gs G) (ga G) own idx y bytes maxL none (Cond.code y bytes maxL none :: aj_TB) rm rm.cells rm.slots n := callB_of n C.ts (aj_goodIn cd.1) rfl rfl rfl (C.ts _ cd.2.1) (C.ts _ hl) cd.2.2 (by rw [C.r]; exact hroom)
  refine aj_after (rm := rm) (F' := F') (av := .ref a :: As) (bc' := bc') (bs' := bs') hq hP hD hS hLL hF (by omega) (by omega) hlv (aj_subA C hD hS) hF' hno (vx_runI (As := As.map (aj_v r)) (b := r a) ⟨C.x, C.b, C.ml, C.o, C.ts⟩ (hM C.st (gD G) (gcs G) r H.size) ⟨cw, hy, C.ts _ cv⟩ ⟨aj_blind, fun U hU hW => aj_pre (av := .ref a :: As) C hP hD hS hF U hU hW⟩ rfl (by rw [List.length_map]; exact hn) hlv.1 ?_ (by rw [aj_st_cat]; exact lv_room hst) (C.d h) ⟨by omega, by omega⟩)
  show (As.reverse ++ .ref a :: st).map (aj_v r) = (As.map (aj_v r)).reverse ++ .ref (r a) :: st.map (aj_v r)
  rw [List.map_append, List.map_reverse]; rfl
theorem x_invIN {host : String} (C : aj_C G cc tbl own R0 nL) (k : Nat) (h : tbl[k]? = some (pc, .invokespecial idx, 3)) (hq : pc + 3 = q) (hl : (own, idx, y, host) ∈ aj_NM) (cd : aj_cd y bytes maxL none n) (cv : Cond.instanceMethod y ∈ aj_TB) (hy : y.name = "<init>")
    (hn : As.length = n) (hroom : rm.frames + 1 ≤ R0.frames ∧ 8 + (maxL + 11) + rm.locals ≤ R0.locals) (hst : (st.map fun v => v.category).sum ≤ 8) (hF' : ∀ i ∈ F', i ∈ gF G) (hno : ∀ i ∈ F', aj_no i lv st) (hbc : bc = rm.cells + bc') (hbs : bs = rm.slots + bs')
    (hM : aj_M (gl G) y (Cond.code y bytes maxL none :: aj_TB) rm F' (.ref a :: As) I J V N L (aj_kont G pc q lv st bc' bs')) : aj_X G pc lv (As.reverse ++ .ref a :: st) I J V N L bc bs := by
  intro r H locs cells slots ls hP hD hS hLL hF hc hs hlv
  have cw : va_CN (gR G) (gs G) (ga G) own idx y host bytes maxL none (Cond.code y bytes maxL none :: aj_TB) rm rm.cells rm.slots n := va_cnB n C.ts (aj_goodIn cd.1) rfl rfl rfl (C.gw.2.2.1 _ hl) (C.ts _ cd.2.1) cd.2.2 (by rw [C.r]; exact hroom)
  refine aj_after (rm := rm) (F' := F') (av := .ref a :: As) (bc' := bc') (bs' := bs') hq hP hD hS hLL hF (by omega) (by omega) hlv (aj_subA C hD hS) hF' hno (vx_runIN (As := As.map (aj_v r)) (b := r a) ⟨C.x, C.b, C.ml, C.o, C.ts⟩ (hM C.st (gD G) (gcs G) r H.size) ⟨cw, hy, C.ts _ cv⟩ ⟨aj_blind, fun U hU hW => aj_pre (av := .ref a :: As) C hP hD hS hF U hU hW⟩ rfl (by rw [List.length_map]; exact hn) hlv.1 ?_ (by rw [aj_st_cat]; exact lv_room hst) (C.d h) ⟨by omega, by omega⟩)
  show (As.reverse ++ .ref a :: st).map (aj_v r) = (As.map (aj_v r)).reverse ++ .ref (r a) :: st.map (aj_v r)
  rw [List.map_append, List.map_reverse]; rfl
theorem x_invSN {host : String} (C : aj_C G cc tbl own R0 nL) (k : Nat) (h : tbl[k]? = some (pc, .invokestatic idx, 3)) (hq : pc + 3 = q) (hl : (own, idx, y, host) ∈ aj_NM) (cd : aj_cd y bytes maxL ret n) (cv : Cond.static y ∈ aj_TB)
    (hn : As.length = n) (hroom : rm.frames + 1 ≤ R0.frames ∧ 8 + (maxL + 11) + rm.locals ≤ R0.locals) (hst : (st.map fun v => v.category).sum ≤ 8) (hF' : ∀ i ∈ F', i ∈ gF G) (hno : ∀ i ∈ F', aj_no i lv st) (hbc : bc = rm.cells + bc') (hbs : bs = rm.slots + bs')
    (hM : aj_M (gl G) y (Cond.code y bytes maxL ret :: aj_TB) rm F' As I J V N L (aj_kont G pc q lv st bc' bs')) : aj_X G pc lv (As.reverse ++ st) I J V N L bc bs := by
  intro r H locs cells slots ls hP hD hS hLL hF hc hs hlv
  have cw : va_CN (gR G) (gs G) (ga G) own idx y host bytes maxL ret (Cond.code y bytes maxL ret :: aj_TB) rm rm.cells rm.slots n := va_cnB n C.ts (aj_goodIn cd.1) rfl rfl rfl (C.gw.2.2.1 _ hl) (C.ts _ cd.2.1) cd.2.2 (by rw [C.r]; exact hroom)
  refine aj_after (rm := rm) (F' := F') (av := As) (bc' := bc') (bs' := bs') hq hP hD hS hLL hF (by omega) (by omega) hlv (aj_subA C hD hS) hF' hno (vx_runSN (As := As.map (aj_v r)) ⟨C.x, C.b, C.ml, C.o, C.ts⟩ (hM C.st (gD G) (gcs G) r H.size) ⟨cw, C.ts _ cv, trivial⟩ ⟨aj_blind, fun U hU hW => aj_pre (av := As) C hP hD hS hF U hU hW⟩ rfl (by rw [List.length_map]; exact hn) hlv.1 ?_ (by rw [aj_st_cat]; exact lv_room hst) (C.d h) ⟨by omega, by omega⟩)
  show (As.reverse ++ st).map (aj_v r) = (As.map (aj_v r)).reverse ++ st.map (aj_v r)
  rw [List.map_append, List.map_reverse]
end IV
end AJ4
