def vc (V : Nat → Nat → Option Nat) (j : Nat) : Nat := (V 27 j).getD 0
theorem cs3 : ∀ c ∈ aj_CS, c % 16 = 3 := by decide
theorem csB : ∀ c ∈ aj_CS, c ∈ aj_BL := by decide
section VC
variable {V : Nat → Nat → Option Nat} {N : Nat → Nat} {L : List Nat} {j : Nat}
theorem vcV (h : bV V N L) (hj : j < 8) : V 27 j = some (vc V j) := by
  obtain ⟨c, h1, h2⟩ := h.2.2.2.2.2 j hj
  unfold vc; rw [h1]; rfl
theorem vcM (h : bV V N L) (hj : j < 8) : vc V j ∈ aj_CS := by
  obtain ⟨c, h1, h2⟩ := h.2.2.2.2.2 j hj
  unfold vc; rw [h1]; exact h2
theorem vc3 (h : bV V N L) (hj : j < 8) : vc V j % 16 = 3 := cs3 _ (vcM h hj)
theorem vcL (h : bV V N L) (hj : j < 8) : vc V j ∈ L := bL h _ (csB _ (vcM h hj))
theorem vcR (h : bV V N L) (hj : j < 8) : vc V j % 16 < 7 ∧ aj_R (vc V j % 16) = RX2 := by
  rw [vc3 h hj]; exact ⟨by decide, rfl⟩
end VC
def mvC (I : Nat → Nat → Int32) (c : Nat) : Int32 := pOrd (I 147 3) (I 147 1) (I 147 2) (I c 3) (I c 1) (I c 2)
def stC (I : Nat → Nat → Int32) (c : Nat) : Nat → Nat → Int32 := aj_u (stB I c (I 147 0) (I 147 1) (I 147 2)) 20 6 (I 20 6 + 1)
def stR (I : Nat → Nat → Int32) : Nat → Nat → Int32 := aj_u I 20 8 (I 20 8 + 1)
def pCoo (x : Int32) : Bool := !decide (x < -127) && !decide (127 < x)
/-- the class's part -/
def cS : List Nat := [20, 18, 24, 40, 56, 72, 147, 163, 179, 195, 19, 35, 51, 67, 83, 99, 115, 131]
def cS0 : List Nat := [20, 18, 24, 40, 56, 72, 147, 163, 179, 195]
theorem cS0_cS : ∀ i ∈ cS0, i ∈ cS := by decide
def cI (I : Nat → Nat → Int32) (n : Nat) : Prop := n ≤ 12 ∧ I 18 2 = nI n ∧ fW I n
theorem cI.eqS {S : List Nat} {I I' : Nat → Nat → Int32} {n : Nat} (h : cI I n) (e : eqO S I I') (h1 : 18 ∉ S) (h2 : 56 ∉ S) (h3 : 72 ∉ S) (h4 : 24 ∉ S) (h5 : 40 ∉ S) : cI I' n := ⟨h.1, by rw [e 18 h1]; exact h.2.1, h.2.2.eqS e h1 h2 h3 h4 h5⟩
theorem bV.v {V V1 : Nat → Nat → Option Nat} {N : Nat → Nat} {L : List Nat} (h : bV V N L) (hv : ∀ i, i ≠ 27 → i ≠ 43 → V1 i = V i) (hc : ∀ j, j < 8 → ∃ c, V1 27 j = some c ∧ c ∈ aj_CS) : bV V1 N L := by
  obtain ⟨h1, h2, h3, h4, h5, -⟩ := h
  refine ⟨h1, ?_, ?_, ?_, h5, hc⟩
  · rw [hv 20 (by decide) (by decide)]; exact h2
  · rw [hv 18 (by decide) (by decide)]; exact h3
  · rw [hv 22 (by decide) (by decide)]; exact h4
def fA (I I1 : Nat → Nat → Int32) (m : Nat) (fx fy : Nat → Int32) : Prop := eqO [20, 18, 24, 40, 56, 72, 179, 195] I I1 ∧ (∀ k, k ≠ 7 → I1 20 k = I 20 k) ∧ I1 20 7 = I 20 7 + 1 ∧ I1 18 2 = nI m ∧ fW I1 m ∧ (∀ k, I1 24 k = fx k) ∧ (∀ k, I1 40 k = fy k)
theorem fA.of {I I1 : Nat → Nat → Int32} {m : Nat} {fx fy : Nat → Int32} (h : eqO [18, 24, 40, 56, 72, 179, 195] (aj_u I 20 7 (I 20 7 + 1)) I1) (h2 : I1 18 2 = nI m) (h3 : fW I1 m) (h4 : ∀ k, I1 24 k = fx k) (h5 : ∀ k, I1 40 k = fy k) : fA I I1 m fx fy :=
  ⟨eqO.tr (eqO.u (by decide)) (h.mono (by decide)), fun k hk => by rw [h 20 (by decide), aj_u_k _ _ _ hk], by rw [h 20 (by decide), aj_u_s], h2, h3, h4, h5⟩
theorem fW.u20 {I : Nat → Nat → Int32} {n k : Nat} {v : Int32} (h : fW I n) : fW (aj_u I 20 k v) n := h.eqS (S := [20]) (eqO.u (by decide)) (by decide) (by decide) (by decide) (by decide) (by decide)
theorem nI12 {n : Nat} (h : n ≤ 12) : nI n = 12 ↔ n = 12 := by
  rw [show (12 : Int32) = nI 12 from rfl]; exact nI_eq (by omega) (by decide)
-- CONSTRUCTORS
section AJ8
variable {G : aj_G} {cc : ByteArray} {tbl : List (Nat × Instr × Nat)} {own : String} {R0 : Room} {nL : Nat} {pc q : Nat} {lv lv' : List (Option Value)} {st st' : List Value} {I : Nat → Nat → Int32} {J : Nat → Nat → Int64} {V : Nat → Nat → Option Nat} {N : Nat → Nat} {L : List Nat} {bc bs : Nat}
theorem y_jN0 {idx maxL r1 r2 c2 s2 : Nat} {y : MethodName} {bytes : ByteArray} {c1 s1 bc' bs' : Nat} {F' : List Nat} {a : Nat} {host : String} (C : aj_C G cc tbl own (aj_rm r2 c2 s2) nL) (k : Nat) (h : tbl[k]? = some (pc, .invokespecial idx, 3)) (hq : pc + 3 = q) (hl : (own, idx, y, host) ∈ aj_NM) (cd : aj_cd y bytes maxL none 0) (cv : Cond.instanceMethod y ∈ aj_TB) (hy : y.name = "<init>") (hr : r1 < r2) (hm : maxL ≤ 13) (hst : (st.map fun v => v.category).sum ≤ 8) (hbc : bc = c1 + bc') (hbs : bs = s1 + bs') (hF' : ∀ i ∈ F', i ∈ gF G) (hno : ∀ i ∈ F', aj_no i lv st) (hM : aj_M (gl G) y (aj_wc y bytes maxL none) (aj_rm r1 c1 s1) F' [.ref a] I J V N L (aj_kont G pc q lv st bc' bs')) : aj_X G pc lv (.ref a :: st) I J V N L bc bs := x_invIN (As := []) C k h hq hl cd cv hy rfl (aj_hr hr hm) hst hF' hno hbc hbs hM
theorem y_jI0 {idx maxL r1 r2 c2 s2 : Nat} {y : MethodName} {bytes : ByteArray} {c1 s1 bc' bs' : Nat} {F' : List Nat} {a : Nat} (C : aj_C G cc tbl own (aj_rm r2 c2 s2) nL) (k : Nat) (h : tbl[k]? = some (pc, .invokespecial idx, 3)) (hq : pc + 3 = q) (hl : Cond.methodLink own idx y ∈ aj_TB) (cd : aj_cd y bytes maxL none 0) (cv : Cond.instanceMethod y ∈ aj_TB) (hy : y.name = "<init>") (hr : r1 < r2) (hm : maxL ≤ 13) (hst : (st.map fun v => v.category).sum ≤ 8) (hbc : bc = c1 + bc') (hbs : bs = s1 + bs') (hF' : ∀ i ∈ F', i ∈ gF G) (hno : ∀ i ∈ F', aj_no i lv st) (hM : aj_M (gl G) y (aj_wc y bytes maxL none) (aj_rm r1 c1 s1) F' [.ref a] I J V N L (aj_kont G pc q lv st bc' bs')) : aj_X G pc lv (.ref a :: st) I J V N L bc bs := x_invI (As := []) C k h hq hl cd cv hy rfl (aj_hr hr hm) hst hF' hno hbc hbs hM
theorem y_cS6 {idx maxL r1 r2 c2 s2 : Nat} {y : MethodName} {bytes : ByteArray} {ret : Option FieldType} {p0 p1 p2 p3 p4 p5 : Value} (C : aj_C G cc tbl own (aj_rm r2 c2 s2) nL) (k : Nat) (h : tbl[k]? = some (pc, .invokestatic idx, 3)) (hq : pc + 3 = q) (hl : Cond.methodLink own idx y ∈ aj_TB) (cd : aj_cd y bytes maxL ret 6) (cv : Cond.static y ∈ aj_TB) (hr : r1 < r2) (hm : maxL ≤ 13) (hst : (st.map fun v => v.category).sum ≤ 8) (hM : aj_M (gl G) y (aj_wc y bytes maxL ret) (aj_rm r1 0 0) [] [p0, p1, p2, p3, p4, p5] I J V N L (aj_kont G pc q lv st bc bs)) : aj_X G pc lv (p5 :: p4 :: p3 :: p2 :: p1 :: p0 :: st) I J V N L bc bs := x_invS (As := [p0, p1, p2, p3, p4, p5]) C k h hq hl cd cv rfl (aj_hr hr hm) hst aj_f0 aj_f0 (Nat.zero_add _).symm (Nat.zero_add _).symm hM
end AJ8
/-- all that is referred to lies in M -/
def vM (V : Nat → Nat → Option Nat) (M : List Nat) : Prop := ∀ i j b, V i j = some b → b ∈ M
theorem vM.u {V : Nat → Nat → Option Nat} {M : List Nat} {i k b : Nat} (h : vM V M) : vM (aj_u V i k (some b)) (b :: M) := by
  intro x y c e
  unfold aj_u at e
  split at e
  · cases e; exact List.mem_cons_self
  · exact List.mem_cons_of_mem _ (h x y c e)
theorem vM.z {V : Nat → Nat → Option Nat} {M : List Nat} {a : Nat} (h : vM V M) : vM (aj_z V a none) M := by
  intro x y c e
  unfold aj_z at e
  split at e
  · cases e
  · exact h x y c e
theorem vM.no {V : Nat → Nat → Option Nat} {M L : List Nat} {a : Nat} (h : vM V M) (ha : a ∉ M) : ∀ i ∈ L, ∀ j, V i j ≠ some a := fun i _ j e => ha (h i j a e)
theorem vM.mono {V : Nat → Nat → Option Nat} {M M' : List Nat} (h : vM V M) (hs : ∀ i ∈ M, i ∈ M') : vM V M' := fun i j b e => hs b (h i j b e)
def aj_nv (a : Nat) (v : Value) : Bool := match v with | .ref b => b != a | _ => true
def aj_nob (a : Nat) (lv : List (Option Value)) (st : List Value) : Bool := st.all (aj_nv a) && lv.all (fun o => match o with | none => true | some v => aj_nv a v)
theorem aj_nv_ne {a : Nat} {v : Value} (h : aj_nv a v = true) : v ≠ .ref a := by
  intro e; subst e
  simp [aj_nv] at h
theorem aj_no.of {a : Nat} {lv : List (Option Value)} {st : List Value} (h : aj_nob a lv st = true) : aj_no a lv st := by
  unfold aj_nob at h
  rw [Bool.and_eq_true] at h
  refine ⟨fun v hv => aj_nv_ne (List.all_eq_true.mp h.1 v hv), fun o ho e => ?_⟩
  subst e
  exact aj_nv_ne (List.all_eq_true.mp h.2 _ ho) rfl
