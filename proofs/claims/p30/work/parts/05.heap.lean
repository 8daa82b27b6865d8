section AJ2
variable {G : aj_G} {cc : ByteArray} {tbl : List (Nat × Instr × Nat)} {own : String} {R0 : Room} {nL : Nat} {pc q : Nat} {lv lv' : List (Option Value)} {st st' : List Value} {I : Nat → Nat → Int32} {J : Nat → Nat → Int64} {V : Nat → Nat → Option Nat} {N : Nat → Nat} {L : List Nat} {bc bs : Nat}
-- THE HEAP'S ROWS
def aj_FL (own : String) (idx ci kk : Nat) : Prop := ci < 7 ∧ kk < aj_n ci ∧ Cond.fieldLink own idx (aj_T ci kk).1 (aj_T ci kk).2.1 (aj_T ci kk).2.2.1 ∈ aj_TB
theorem aj_el_obj {cs : Nat → ClassId} {r : Nat → Nat} {i ci : Nat} (hi : i % 16 = ci) (hc : ci < 7) : aj_el cs r I J V N i = .inr (ci, (List.range (aj_n ci)).map (fun k => aj_fv r I J V i k (aj_ty ci k))) := by
  subst hi; unfold aj_el; rw [if_pos hc]
theorem aj_el_int {cs : Nat → ClassId} {r : Nat → Nat} {i : Nat} (hi : i % 16 = 8) : aj_el cs r I J V N i = .inl (cs 0, (N i, .inl (I i))) := by
  unfold aj_el; rw [hi]; rfl
theorem aj_el_long {cs : Nat → ClassId} {r : Nat → Nat} {i : Nat} (hi : i % 16 = 9) : aj_el cs r I J V N i = .inl (cs 1, (N i, .inr (.inl (J i)))) := by
  unfold aj_el; rw [hi]; rfl
theorem aj_el_byte {cs : Nat → ClassId} {r : Nat → Nat} {i : Nat} (hi : i % 16 = 10) : aj_el cs r I J V N i = .inl (cs 2, (N i, .inl (I i))) := by
  unfold aj_el; rw [hi]; rfl
theorem aj_el_refs {cs : Nat → ClassId} {r : Nat → Nat} {i : Nat} (hi : i % 16 = 11) : aj_el cs r I J V N i = .inl (cs 3, (N i, .inr (.inr (.inr (.inr (fun j => (V i j).map r)))))) := by
  unfold aj_el; rw [hi]; rfl
theorem aj_fs_at {α : Type} (f : Nat → α) {n k : Nat} (h : k < n) : ((List.range n).map f)[k]? = some (f k) := by
  rw [List.getElem?_map, List.getElem?_range h]; rfl
theorem aj_fs_set {α : Type} (f g : Nat → α) {n k : Nat} {v : α} (hk : g k = v) (ho : ∀ j, j ≠ k → g j = f j) : ((List.range n).map f).set k v = (List.range n).map g := by
  refine List.ext_getElem? (fun a => ?_)
  by_cases ha : k = a
  · subst ha
    by_cases hl : k < n
    · rw [List.getElem?_set_self (by simpa using hl), aj_fs_at g hl, hk]
    · rw [List.getElem?_eq_none (by simpa using Nat.le_of_not_lt hl), List.getElem?_eq_none (by simpa using Nat.le_of_not_lt hl)]
  · rw [List.getElem?_set_ne ha]
    by_cases hl : a < n
    · rw [aj_fs_at f hl, aj_fs_at g hl, ho a (Ne.symm ha)]
    · rw [List.getElem?_eq_none (by simpa using Nat.le_of_not_lt hl), List.getElem?_eq_none (by simpa using Nat.le_of_not_lt hl)]
theorem x_getI (C : aj_C G cc tbl own R0 nL) (k : Nat) {idx i ci kf : Nat} (h : tbl[k]? = some (pc, .getfield idx, 3)) (hq : pc + 3 = q) (hw : aj_FL own idx ci kf) (hty : ∀ r i, aj_fv r I J V i kf (aj_ty ci kf) = .int (I i kf)) (hi : i % 16 = ci) (hL : i ∈ L) (kk : aj_X G q lv (.int (I i kf) :: st) I J V N L bc bs) : aj_X G pc lv (.ref i :: st) I J V N L bc bs := by
  subst hq
  intro r H locs cells slots ls hP hD hS hLL hF hc hs hl
  obtain ⟨k0, hk0, he⟩ := aj_ws_at (cs := gcs G) (r := r) (I := I) (J := J) (V := V) (N := N) hL
  rw [aj_el_obj hi hw.1] at he
  exact va_get C.x C.b C.ts (aj_cl_in ci hw.1) C.o C.k hP k0 he (aj_cl ci hw.1) kf hw.2.1 (C.ts _ hw.2.2) (fun _ z => z) ((aj_fs_at _ hw.2.1).trans (congrArg some (hty r i))) (C.d h) (kk r H locs cells slots ls hP hD hS hLL hF hc hs hl)
theorem x_getJ (C : aj_C G cc tbl own R0 nL) (k : Nat) {idx i ci kf : Nat} (h : tbl[k]? = some (pc, .getfield idx, 3)) (hq : pc + 3 = q) (hw : aj_FL own idx ci kf) (hty : ∀ r i, aj_fv r I J V i kf (aj_ty ci kf) = .long (J i kf)) (hi : i % 16 = ci) (hL : i ∈ L) (kk : aj_X G q lv (.long (J i kf) :: st) I J V N L bc bs) : aj_X G pc lv (.ref i :: st) I J V N L bc bs := by
  subst hq
  intro r H locs cells slots ls hP hD hS hLL hF hc hs hl
  obtain ⟨k0, hk0, he⟩ := aj_ws_at (cs := gcs G) (r := r) (I := I) (J := J) (V := V) (N := N) hL
  rw [aj_el_obj hi hw.1] at he
  exact va_get C.x C.b C.ts (aj_cl_in ci hw.1) C.o C.k hP k0 he (aj_cl ci hw.1) kf hw.2.1 (C.ts _ hw.2.2) (fun _ z => z) ((aj_fs_at _ hw.2.1).trans (congrArg some (hty r i))) (C.d h) (kk r H locs cells slots ls hP hD hS hLL hF hc hs hl)
theorem x_getR (C : aj_C G cc tbl own R0 nL) (k : Nat) {idx i ci kf a : Nat} (h : tbl[k]? = some (pc, .getfield idx, 3)) (hq : pc + 3 = q) (hw : aj_FL own idx ci kf) (hv : V i kf = some a) (hty : ∀ r i, aj_fv r I J V i kf (aj_ty ci kf) = va_rf ((V i kf).map r)) (hi : i % 16 = ci) (hL : i ∈ L) (kk : aj_X G q lv (.ref a :: st) I J V N L bc bs) : aj_X G pc lv (.ref i :: st) I J V N L bc bs := by
  subst hq
  intro r H locs cells slots ls hP hD hS hLL hF hc hs hl
  obtain ⟨k0, hk0, he⟩ := aj_ws_at (cs := gcs G) (r := r) (I := I) (J := J) (V := V) (N := N) hL
  rw [aj_el_obj hi hw.1] at he
  exact va_get C.x C.b C.ts (aj_cl_in ci hw.1) C.o C.k hP k0 he (aj_cl ci hw.1) kf hw.2.1 (C.ts _ hw.2.2) (fun _ z => z) ((aj_fs_at _ hw.2.1).trans (congrArg some ((hty r i).trans (by rw [hv]; rfl)))) (C.d h) (kk r H locs cells slots ls hP hD hS hLL hF hc hs hl)
/-- a written field: what the world is then -/
theorem aj_put_ws {cs : Nat → ClassId} {r : Nat → Nat} {I' : Nat → Nat → Int32} {J' : Nat → Nat → Int64} {V' : Nat → Nat → Option Nat} {A : Nat → Prop} {i ci kf k0 : Nat} {v : Value} (hD : va_D A (aj_ws cs r I J V N L)) (hk0 : L[k0]? = some i) (hi : i % 16 = ci) (hc : ci < 7)
    (hI : ∀ a b, ¬ (a = i ∧ b = kf) → I' a b = I a b) (hJ : ∀ a b, ¬ (a = i ∧ b = kf) → J' a b = J a b) (hV : ∀ a b, ¬ (a = i ∧ b = kf) → V' a b = V a b) (hv : aj_fv r I' J' V' i kf (aj_ty ci kf) = v) :
    (aj_ws cs r I J V N L).set k0 (r i, .inr (ci, ((List.range (aj_n ci)).map (fun k => aj_fv r I J V i k (aj_ty ci k))).set kf v)) = aj_ws cs r I' J' V' N L := by
  rw [aj_fs_set (fun k => aj_fv r I J V i k (aj_ty ci k)) (fun k => aj_fv r I' J' V' i k (aj_ty ci k)) hv (fun j hj => aj_fv_congr (hI i j (fun z => hj z.2)) (hJ i j (fun z => hj z.2)) (hV i j (fun z => hj z.2)))]
  rw [← aj_el_obj (cs := cs) (r := r) (I := I') (J := J') (V := V') (N := N) hi hc]
  exact aj_ws_set hD hk0 (fun j hj => aj_el_congr (funext fun b => hI j b (fun z => hj z.1)) (funext fun b => hJ j b (fun z => hj z.1)) (funext fun b => hV j b (fun z => hj z.1)) rfl)
theorem x_putI (C : aj_C G cc tbl own R0 nL) (k : Nat) {idx i ci kf : Nat} {x : Int32} (h : tbl[k]? = some (pc, .putfield idx, 3)) (hq : pc + 3 = q) (hw : aj_FL own idx ci kf) (hfin : (aj_T ci kf).2.2.2 = false) (hty : aj_ty ci kf = .int) (hi : i % 16 = ci) (hL : i ∈ L) (kk : aj_X G q lv st (aj_u I i kf x) J V N L bc bs) : aj_X G pc lv (.int x :: .ref i :: st) I J V N L bc bs := by
  subst hq
  intro r H locs cells slots ls hP hD hS hLL hF hc hs hl
  obtain ⟨k0, hk0, he⟩ := aj_ws_at (cs := gcs G) (r := r) (I := I) (J := J) (V := V) (N := N) hL
  rw [aj_el_obj hi hw.1] at he
  have hws := aj_put_ws (r := r) (cs := gcs G) (I' := aj_u I i kf x) (J' := J) (V' := V) (v := .int x) hD hk0 hi hw.1 (fun a b z => aj_u_n I x z) (fun a b z => rfl) (fun a b z => rfl) (by rw [hty]; exact congrArg Value.int (aj_u_s I i kf x))
  refine va_put C.x C.b C.ts (aj_cl_in ci hw.1) (aj_ty ci) (aj_tyok ci hw.1) (aj_nm ci hw.1) C.o C.k hP hD hS k0 he (aj_cl ci hw.1) kf hw.2.1 (C.ts _ hw.2.2) (fun _ z => z) hfin (ty := .int) (by rw [aj_tyok ci hw.1 kf hw.2.1, hty]) rfl rfl (by rw [List.length_map, List.length_range]; exact hw.2.1) (C.d h) (fun H1 locs1 hP1 hD1 hS1 => ?_)
  have hP1 : va_P (gD G) vwCl (aj_ws (gcs G) r (aj_u I i kf x) J V N L) H1 := by rw [← hws]; exact hP1
  have hD1 : va_D (gA G) (aj_ws (gcs G) r (aj_u I i kf x) J V N L) := by rw [← hws]; exact hD1
  exact kk r H1 locs1 cells slots ls hP1 hD1 hS1 hLL hF hc hs hl
theorem x_putR (C : aj_C G cc tbl own R0 nL) (k : Nat) {idx i ci kf a : Nat} (h : tbl[k]? = some (pc, .putfield idx, 3)) (hq : pc + 3 = q) (hw : aj_FL own idx ci kf) (hfin : (aj_T ci kf).2.2.2 = false) (hty : ∀ r V i, aj_fv r I J V i kf (aj_ty ci kf) = va_rf ((V i kf).map r)) (hnar : ∀ x, narrow (aj_ty ci kf) (.ref x) = .ref x) (hfit : ∀ x, fits (aj_ty ci kf) (.ref x) = true) (hi : i % 16 = ci) (hL : i ∈ L) (kk : aj_X G q lv st I J (aj_u V i kf (some a)) N L bc bs) : aj_X G pc lv (.ref a :: .ref i :: st) I J V N L bc bs := by
  subst hq
  intro r H locs cells slots ls hP hD hS hLL hF hc hs hl
  obtain ⟨k0, hk0, he⟩ := aj_ws_at (cs := gcs G) (r := r) (I := I) (J := J) (V := V) (N := N) hL
  rw [aj_el_obj hi hw.1] at he
  have hws := aj_put_ws (r := r) (cs := gcs G) (I' := I) (J' := J) (V' := aj_u V i kf (some a)) (v := .ref (r a)) hD hk0 hi hw.1 (fun a b z => rfl) (fun a b z => rfl) (fun a b z => aj_u_n V _ z) (by rw [hty, aj_u_s]; rfl)
  refine va_put C.x C.b C.ts (aj_cl_in ci hw.1) (aj_ty ci) (aj_tyok ci hw.1) (aj_nm ci hw.1) C.o C.k hP hD hS k0 he (aj_cl ci hw.1) kf hw.2.1 (C.ts _ hw.2.2) (fun _ z => z) hfin (ty := aj_ty ci kf) (aj_tyok ci hw.1 kf hw.2.1) (hnar _) (hfit _) (by rw [List.length_map, List.length_range]; exact hw.2.1) (C.d h) (fun H1 locs1 hP1 hD1 hS1 => ?_)
  have hP1 : va_P (gD G) vwCl (aj_ws (gcs G) r I J (aj_u V i kf (some a)) N L) H1 := by rw [← hws]; exact hP1
  have hD1 : va_D (gA G) (aj_ws (gcs G) r I J (aj_u V i kf (some a)) N L) := by rw [← hws]; exact hD1
  exact kk r H1 locs1 cells slots ls hP1 hD1 hS1 hLL hF hc hs hl
theorem x_putF (C : aj_C G cc tbl own R0 nL) (k : Nat) {idx i ci kf a : Nat} (h : tbl[k]? = some (pc, .putfield idx, 3)) (hq : pc + 3 = q) (hw : aj_FL own idx ci kf) (hfin : (aj_T ci kf).2.2.2 = true) (hin : (gt G).name = "<init>") (hdecl : (aj_T ci kf).1 = own) (hty : ∀ r V i, aj_fv r I J V i kf (aj_ty ci kf) = va_rf ((V i kf).map r)) (hnar : ∀ x, narrow (aj_ty ci kf) (.ref x) = .ref x) (hfit : ∀ x, fits (aj_ty ci kf) (.ref x) = true) (hi : i % 16 = ci) (hL : i ∈ L) (kk : aj_X G q lv st I J (aj_u V i kf (some a)) N L bc bs) : aj_X G pc lv (.ref a :: .ref i :: st) I J V N L bc bs := by
  subst hq
  intro r H locs cells slots ls hP hD hS hLL hF hc hs hl
  obtain ⟨k0, hk0, he⟩ := aj_ws_at (cs := gcs G) (r := r) (I := I) (J := J) (V := V) (N := N) hL
  rw [aj_el_obj hi hw.1] at he
  have hws := aj_put_ws (r := r) (cs := gcs G) (I' := I) (J' := J) (V' := aj_u V i kf (some a)) (v := .ref (r a)) hD hk0 hi hw.1 (fun a b z => rfl) (fun a b z => rfl) (fun a b z => aj_u_n V _ z) (by rw [hty, aj_u_s]; rfl)
  refine va_putF C.x C.b C.ts (aj_cl_in ci hw.1) (aj_ty ci) (aj_tyok ci hw.1) (aj_nm ci hw.1) C.o C.k hP hD hS k0 he (aj_cl ci hw.1) kf hw.2.1 (C.ts _ hw.2.2) (fun _ z => z) hfin hin hdecl (ty := aj_ty ci kf) (aj_tyok ci hw.1 kf hw.2.1) (hnar _) (hfit _) (by rw [List.length_map, List.length_range]; exact hw.2.1) (C.d h) (fun H1 locs1 hP1 hD1 hS1 => ?_)
  have hP1 : va_P (gD G) vwCl (aj_ws (gcs G) r I J (aj_u V i kf (some a)) N L) H1 := by rw [← hws]; exact hP1
  have hD1 : va_D (gA G) (aj_ws (gcs G) r I J (aj_u V i kf (some a)) N L) := by rw [← hws]; exact hD1
  exact kk r H1 locs1 cells slots ls hP1 hD1 hS1 hLL hF hc hs hl
theorem aj_upd_u {α : Type} (f : Nat → Nat → α) (i j : Nat) (x : α) (g : Nat → α) (hg : ∀ b, g b = if b = j then x else f i b) : aj_u f i j x i = g := by
  funext b
  rw [hg]
  unfold aj_u
  by_cases h : b = j
  · rw [if_pos ⟨rfl, h⟩, if_pos h]
  · rw [if_neg (fun z => h z.2), if_neg h]
theorem x_iald (C : aj_C G cc tbl own R0 nL) (k : Nat) {i : Nat} {j : Int32} (h : tbl[k]? = some (pc, .iaload, 1)) (hq : pc + 1 = q) (hi : i % 16 = 8) (hL : i ∈ L) (hin : vp_in j (N i)) (kk : aj_X G q lv (.int (I i j.toNatClampNeg) :: st) I J V N L bc bs) : aj_X G pc lv (.int j :: .ref i :: st) I J V N L bc bs := by
  subst hq
  intro r H locs cells slots ls hP hD hS hLL hF hc hs hl
  obtain ⟨k0, hk0, he⟩ := aj_ws_at (cs := gcs G) (r := r) (I := I) (J := J) (V := V) (N := N) hL
  rw [aj_el_int hi] at he
  exact va_iald C.x C.b C.k hP k0 0 he rfl hin (C.d h) (kk r H locs cells slots ls hP hD hS hLL hF hc hs hl)
theorem x_iast (C : aj_C G cc tbl own R0 nL) (k : Nat) {i : Nat} {j x : Int32} (h : tbl[k]? = some (pc, .iastore, 1)) (hq : pc + 1 = q) (hi : i % 16 = 8) (hL : i ∈ L) (hin : vp_in j (N i)) (kk : aj_X G q lv st (aj_u I i j.toNatClampNeg x) J V N L bc bs) : aj_X G pc lv (.int x :: .int j :: .ref i :: st) I J V N L bc bs := by
  subst hq
  intro r H locs cells slots ls hP hD hS hLL hF hc hs hl
  obtain ⟨k0, hk0, he⟩ := aj_ws_at (cs := gcs G) (r := r) (I := I) (J := J) (V := V) (N := N) hL
  rw [aj_el_int hi] at he
  have hws : (aj_ws (gcs G) r I J V N L).set k0 (r i, .inl (gcs G 0, N i, .inl (upd (I i) j.toNatClampNeg x))) = aj_ws (gcs G) r (aj_u I i j.toNatClampNeg x) J V N L := by
    rw [← aj_ws_set (I' := aj_u I i j.toNatClampNeg x) hD hk0 (fun a ha => aj_el_congr (aj_u_o I x ha) rfl rfl rfl), aj_el_int hi, aj_upd_u I i j.toNatClampNeg x (upd (I i) j.toNatClampNeg x) (fun b => rfl)]
  refine va_iast C.x C.b C.k hP hD hS k0 0 he rfl hin (C.d h) (fun H1 locs1 hP1 hD1 hS1 => ?_)
  rw [hws] at hP1 hD1
  exact kk r H1 locs1 cells slots ls hP1 hD1 hS1 hLL hF hc hs hl
theorem x_lald (C : aj_C G cc tbl own R0 nL) (k : Nat) {i : Nat} {j : Int32} (h : tbl[k]? = some (pc, .laload, 1)) (hq : pc + 1 = q) (hi : i % 16 = 9) (hL : i ∈ L) (hin : vp_in j (N i)) (kk : aj_X G q lv (.long (J i j.toNatClampNeg) :: st) I J V N L bc bs) : aj_X G pc lv (.int j :: .ref i :: st) I J V N L bc bs := by
  subst hq
  intro r H locs cells slots ls hP hD hS hLL hF hc hs hl
  obtain ⟨k0, hk0, he⟩ := aj_ws_at (cs := gcs G) (r := r) (I := I) (J := J) (V := V) (N := N) hL
  rw [aj_el_long hi] at he
  exact va_lald C.x C.b C.k hP k0 1 he rfl hin (C.d h) (kk r H locs cells slots ls hP hD hS hLL hF hc hs hl)
theorem x_last (C : aj_C G cc tbl own R0 nL) (k : Nat) {i : Nat} {j : Int32} {x : Int64} (h : tbl[k]? = some (pc, .lastore, 1)) (hq : pc + 1 = q) (hi : i % 16 = 9) (hL : i ∈ L) (hin : vp_in j (N i)) (kk : aj_X G q lv st I (aj_u J i j.toNatClampNeg x) V N L bc bs) : aj_X G pc lv (.long x :: .int j :: .ref i :: st) I J V N L bc bs := by
  subst hq
  intro r H locs cells slots ls hP hD hS hLL hF hc hs hl
  obtain ⟨k0, hk0, he⟩ := aj_ws_at (cs := gcs G) (r := r) (I := I) (J := J) (V := V) (N := N) hL
  rw [aj_el_long hi] at he
  have hws : (aj_ws (gcs G) r I J V N L).set k0 (r i, .inl (gcs G 1, N i, .inr (.inl (vp_updL (J i) j.toNatClampNeg x)))) = aj_ws (gcs G) r I (aj_u J i j.toNatClampNeg x) V N L := by
    rw [← aj_ws_set (J' := aj_u J i j.toNatClampNeg x) hD hk0 (fun a ha => aj_el_congr rfl (aj_u_o J x ha) rfl rfl), aj_el_long hi, aj_upd_u J i j.toNatClampNeg x (vp_updL (J i) j.toNatClampNeg x) (fun b => rfl)]
  refine va_last C.x C.b C.k hP hD hS k0 1 he rfl hin (C.d h) (fun H1 locs1 hP1 hD1 hS1 => ?_)
  rw [hws] at hP1 hD1
  exact kk r H1 locs1 cells slots ls hP1 hD1 hS1 hLL hF hc hs hl
theorem x_aald (C : aj_C G cc tbl own R0 nL) (k : Nat) {i a : Nat} {j : Int32} (h : tbl[k]? = some (pc, .aaload, 1)) (hq : pc + 1 = q) (hi : i % 16 = 11) (hL : i ∈ L) (hin : vp_in j (N i)) (hv : V i j.toNatClampNeg = some a) (kk : aj_X G q lv (.ref a :: st) I J V N L bc bs) : aj_X G pc lv (.int j :: .ref i :: st) I J V N L bc bs := by
  subst hq
  intro r H locs cells slots ls hP hD hS hLL hF hc hs hl
  obtain ⟨k0, hk0, he⟩ := aj_ws_at (cs := gcs G) (r := r) (I := I) (J := J) (V := V) (N := N) hL
  rw [aj_el_refs hi] at he
  refine va_aldq C.x C.b C.k hP k0 3 he rfl hin (C.d h) ?_
  have hw := kk r H locs cells slots ls hP hD hS hLL hF hc hs hl
  have e : va_rf ((V i j.toNatClampNeg).map r) = .ref (r a) := by rw [hv]; rfl
  rw [e]
  exact hw
theorem x_aast (C : aj_C G cc tbl own R0 nL) (k : Nat) {i a : Nat} {j : Int32} (h : tbl[k]? = some (pc, .aastore, 1)) (hq : pc + 1 = q) (hi : i % 16 = 11) (hL : i ∈ L) (ha : a % 16 = 3) (haL : a ∈ L) (hin : vp_in j (N i)) (kk : aj_X G q lv st I J (aj_u V i j.toNatClampNeg (some a)) N L bc bs) : aj_X G pc lv (.ref a :: .int j :: .ref i :: st) I J V N L bc bs := by
  subst hq
  intro r H locs cells slots ls hP hD hS hLL hF hc hs hl
  obtain ⟨k0, hk0, he⟩ := aj_ws_at (cs := gcs G) (r := r) (I := I) (J := J) (V := V) (N := N) hL
  obtain ⟨k1, hk1, he1⟩ := aj_ws_at (cs := gcs G) (r := r) (I := I) (J := J) (V := V) (N := N) haL
  rw [aj_el_refs hi] at he
  rw [aj_el_obj ha (by decide)] at he1
  have hws : (aj_ws (gcs G) r I J V N L).set k0 (r i, .inl (gcs G 3, N i, .inr (.inr (.inr (.inr (va_up (fun j => (V i j).map r) j.toNatClampNeg (some (r a)))))))) = aj_ws (gcs G) r I J (aj_u V i j.toNatClampNeg (some a)) N L := by
    rw [← aj_ws_set (V' := aj_u V i j.toNatClampNeg (some a)) hD hk0 (fun b hb => aj_el_congr rfl rfl (aj_u_o V _ hb) rfl), aj_el_refs hi]
    have e : va_up (fun j => (V i j).map r) j.toNatClampNeg (some (r a)) = fun b => (aj_u V i j.toNatClampNeg (some a) i b).map r := by
      funext b
      unfold va_up aj_u
      by_cases hb : b = j.toNatClampNeg
      · rw [if_pos hb, if_pos ⟨rfl, hb⟩]; rfl
      · rw [if_neg hb, if_neg (fun z => hb z.2)]
    rw [e]
  refine va_astq C.x C.b C.k hP hD hS k0 3 k1 3 he rfl he1 (r := (aj_R 3, aj_T 3, aj_n 3)) (aj_cl 3 (by decide)) hin (C.d h) (fun H1 locs1 hP1 hD1 hS1 => ?_)
  rw [hws] at hP1 hD1
  exact kk r H1 locs1 cells slots ls hP1 hD1 hS1 hLL hF hc hs hl
theorem x_alen (C : aj_C G cc tbl own R0 nL) (k : Nat) {i : Nat} (h : tbl[k]? = some (pc, .arraylength, 1)) (hq : pc + 1 = q) (hi : i % 16 = 8) (hL : i ∈ L) (kk : aj_X G q lv (.int (Int32.ofNat (N i)) :: st) I J V N L bc bs) : aj_X G pc lv (.ref i :: st) I J V N L bc bs := by
  subst hq
  intro r H locs cells slots ls hP hD hS hLL hF hc hs hl
  obtain ⟨k0, hk0, he⟩ := aj_ws_at (cs := gcs G) (r := r) (I := I) (J := J) (V := V) (N := N) hL
  rw [aj_el_int hi] at he
  exact va_alen C.x C.b C.k hP k0 0 he rfl rfl (C.d h) (kk r H locs cells slots ls hP hD hS hLL hF hc hs hl)
end AJ2
