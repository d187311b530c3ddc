/-! THE WORLD OF PLACES: every object and array of the class and of the reference has a number (its place), in the order in which they are made; what they hold is a row of ints a place (I), a long a place (L); which place is what (Z): how many there are, their kinds, lengths, which references are set -/
abbrev MT : Type := MethodName × ByteArray × Nat × Option FieldType
abbrev ZT : Type := Nat × (Nat → Nat) × (Nat → Nat) × (Nat → Nat → Bool)
abbrev IT : Type := Nat → Nat → Int32
abbrev LT : Type := Nat → Int64
abbrev TC : Type := ClassId × ClassId × ClassId
abbrev GT : Type := Launch × Nat × (Nat → Int32)
def zN (Z : ZT) : Nat := Z.1
def zK (Z : ZT) (a : Nat) : Nat := Z.2.1 a
def zL (Z : ZT) (a : Nat) : Nat := Z.2.2.1 a
def zS (Z : ZT) (a j : Nat) : Bool := Z.2.2.2 a j
/-- kinds of fields: 0 int, 1 boolean, 2 long, 3 a reference -/
def fkT : List (List Nat) := [[3, 0, 0], [3, 3, 3, 3, 0, 0, 0, 0, 0], [3, 3, 0, 0, 0, 1, 0, 0, 0, 0, 0, 0, 0, 0, 0], [3, 3, 3, 3, 0, 0, 0, 0, 0], [3, 0], [3, 3, 3, 3, 3, 3, 3, 3, 3, 3, 0, 2], [3, 0, 0, 3, 0, 0, 3, 3, 0, 0, 3, 3, 3, 0, 0, 3, 3, 3, 3, 3, 0, 2, 3, 0, 3, 0, 0]]
def fk (ci j : Nat) : Nat := (fkT.getD ci []).getD j 0
def nf (ci : Nat) : Nat := (fkT.getD ci []).length
/-- how far behind an object the object of a reference field stands -/
def ofT : List (List Nat) := [[1], [1, 2, 3, 4], [1, 6], [1, 2, 3, 4], [1], [1, 3, 8, 15, 115, 116, 117, 118, 119, 120], [1, 0, 0, 2, 0, 0, 3, 4, 0, 0, 5, 6, 7, 0, 0, 8, 9, 10, 11, 12, 0, 0, 13, 0, 14]]
def oF (ci j : Nat) : Nat := (ofT.getD ci []).getD j 0
/-- where the first Receiver of a row of them stands -/
def aB (a : Nat) : Nat := if a = 16 then 17 else if a = 115 then 121 else 135
def tG (Z : ZT) (a j : Nat) : Nat := if zK Z a = 9 then aB a + 7 * j else a + oF (zK Z a) j
def fV (ad : Nat → Nat) (Z : ZT) (I : IT) (L : LT) (a j : Nat) : Value :=
  if fk (zK Z a) j = 3 then (if zS Z a j = true then .ref (ad (a + oF (zK Z a) j)) else .null) else if fk (zK Z a) j = 2 then .long (L a) else .int (I a j)
def cE (tc : TC) (ad : Nat → Nat) (Z : ZT) (I : IT) (L : LT) (a : Nat) : va_E :=
  if zK Z a < 7 then .inr (zK Z a, (List.range (nf (zK Z a))).map (fV ad Z I L a))
  else if zK Z a = 7 then .inl (tc.1, (zL Z a, .inl (I a)))
  else if zK Z a = 8 then .inl (tc.2.1, (zL Z a, .inl (I a)))
  else .inl (tc.2.2, (zL Z a, .inr (.inr (.inr (.inr (fun i => if zS Z a i = true then some (ad (aB a + 7 * i)) else none))))))
def wS (tc : TC) (ad : Nat → Nat) (Z : ZT) (I : IT) (L : LT) : va_W := (List.range (zN Z)).map (fun a => (ad a, cE tc ad Z I L a))
def tyS (tc : TC) : List (ClassId × FieldType) := [(tc.1, .int), (tc.2.1, .boolean), (tc.2.2, .object RX2)]
def okZ (Z : ZT) : Prop := (∀ a, zK Z a < 10 → a < zN Z) ∧ (∀ a, zL Z a < 2 ^ 31) ∧ (∀ a j, a < zN Z → zS Z a j = true → tG Z a j < zN Z) ∧ zN Z < 1000
def cv (ad : Nat → Nat) (v : Value) : Value := match v with
  | .ref a => .ref (ad a)
  | v => v
def lvc (ad : Nat → Nat) (lv : List (Nat × Value)) : List (Nat × Value) := lv.map (fun q => (q.1, cv ad q.2))
theorem cv_cat (ad : Nat → Nat) (v : Value) : (cv ad v).category = v.category := by cases v <;> rfl
theorem cv_cong {ad ad' : Nat → Nat} {v : Value} (h : ∀ a, v = .ref a → ad a = ad' a) : cv ad v = cv ad' v := by
  cases v <;> first | rfl | (rename_i a; show Value.ref (ad a) = Value.ref (ad' a); rw [h a rfl])
theorem lvc_get {ad : Nat → Nat} {lv : List (Nat × Value)} {k i : Nat} {v : Value} (h : lv[k]? = some (i, v)) : (lvc ad lv)[k]? = some (i, cv ad v) := by
  rw [lvc, List.getElem?_map, h]; rfl
theorem lvc_filter (ad : Nat → Nat) (P : Nat → Nat → Bool) : ∀ lv : List (Nat × Value), (lvc ad lv).filter (fun q => P q.1 q.2.category) = lvc ad (lv.filter (fun q => P q.1 q.2.category))
  | [] => rfl
  | q :: l => by
    have ih := lvc_filter ad P l
    unfold lvc at ih ⊢
    rw [List.map_cons, List.filter_cons, List.filter_cons, cv_cat]
    split
    · rw [List.map_cons, ih]
    · exact ih
theorem lvc_args (ad : Nat → Nat) : ∀ (vs : List Value) (i : Nat), lv_args i (vs.map (cv ad)) = lvc ad (lv_args i vs)
  | [], _ => rfl
  | v :: vs, i => by
    show (i, cv ad v) :: lv_args (if (cv ad v).category = 2 then i + 2 else i + 1) (vs.map (cv ad)) = _
    rw [cv_cat, lvc_args ad vs]
    rfl
theorem sl_len (ad : Nat → Nat) (vs : List Value) : (lg_sl (vs.map (cv ad))).length = (lg_sl vs).length := by
  induction vs with
  | nil => rfl
  | cons v vs ih =>
    simp only [lg_sl, List.map_cons, List.flatMap_cons, List.length_append, cv_cat] at ih ⊢
    rw [ih]
    congr 1
    split <;> rfl
theorem map_set {α : Type} {n a : Nat} {f f' : Nat → α} (ha : a < n) (h : ∀ b, b < n → b ≠ a → f' b = f b) : ((List.range n).map f).set a (f' a) = (List.range n).map f' := by
  apply List.ext_getElem?
  intro i
  by_cases hi : i < n
  · by_cases hia : i = a
    · subst hia
      rw [List.getElem?_set_self (by simpa using hi)]
      simp [hi]
    · rw [List.getElem?_set_ne (Ne.symm hia)]
      simp only [List.getElem?_map, List.getElem?_range hi, Option.map_some, h i hi hia]
  · rw [List.getElem?_eq_none (by simpa using Nat.le_of_not_lt hi), List.getElem?_eq_none (by simpa using Nat.le_of_not_lt hi)]
theorem map_get {α : Type} {n a : Nat} {f : Nat → α} (ha : a < n) : ((List.range n).map f)[a]? = some (f a) := by
  simp [ha]
theorem wS_get {tc : TC} {ad : Nat → Nat} {Z : ZT} {I : IT} {L : LT} {a : Nat} (ha : a < zN Z) : (wS tc ad Z I L)[a]? = some (ad a, cE tc ad Z I L a) := map_get ha
theorem wS_set {tc : TC} {ad : Nat → Nat} {Z Z' : ZT} {I I' : IT} {L L' : LT} {a : Nat} {x : va_E} (ha : a < zN Z) (hn : zN Z' = zN Z) (hx : cE tc ad Z' I' L' a = x) (h : ∀ b, b < zN Z → b ≠ a → cE tc ad Z' I' L' b = cE tc ad Z I L b) : (wS tc ad Z I L).set a (ad a, x) = wS tc ad Z' I' L' := by
  unfold wS
  rw [hn, ← hx]
  exact map_set (f' := fun a => (ad a, cE tc ad Z' I' L' a)) ha (fun b hb hne => by show (ad b, _) = (ad b, _); rw [h b hb hne])
/-- the cells by their kinds -/
theorem cE_o {tc : TC} {ad : Nat → Nat} {Z : ZT} {I : IT} {L : LT} {a ci : Nat} (h : zK Z a = ci) (hc : ci < 7) : cE tc ad Z I L a = .inr (ci, (List.range (nf ci)).map (fV ad Z I L a)) := by
  subst h; unfold cE; rw [if_pos hc]
theorem cE_i {tc : TC} {ad : Nat → Nat} {Z : ZT} {I : IT} {L : LT} {a : Nat} (h : zK Z a = 7) : cE tc ad Z I L a = .inl (tc.1, (zL Z a, .inl (I a))) := by
  unfold cE; rw [if_neg (by omega), if_pos h]
theorem cE_z {tc : TC} {ad : Nat → Nat} {Z : ZT} {I : IT} {L : LT} {a : Nat} (h : zK Z a = 8) : cE tc ad Z I L a = .inl (tc.2.1, (zL Z a, .inl (I a))) := by
  unfold cE; rw [if_neg (by omega), if_neg (by omega), if_pos h]
theorem cE_q {tc : TC} {ad : Nat → Nat} {Z : ZT} {I : IT} {L : LT} {a : Nat} (h : zK Z a = 9) : cE tc ad Z I L a = .inl (tc.2.2, (zL Z a, .inr (.inr (.inr (.inr (fun i => if zS Z a i = true then some (ad (aB a + 7 * i)) else none)))))) := by
  unfold cE; rw [if_neg (by omega), if_neg (by omega), if_neg (by omega)]
/-- a row of ints changed -/
def upR (I : IT) (a : Nat) (f : Nat → Int32) : IT := fun b => if b = a then f else I b
abbrev upI (I : IT) (a k : Nat) (v : Int32) : IT := upR I a (upd (I a) k v)
def upL (L : LT) (a : Nat) (v : Int64) : LT := fun b => if b = a then v else L b
theorem upR_s (I : IT) (a : Nat) (f : Nat → Int32) : upR I a f a = f := if_pos rfl
theorem upR_n {I : IT} {a b : Nat} {f : Nat → Int32} (h : b ≠ a) : upR I a f b = I b := if_neg h
theorem upL_s (L : LT) (a : Nat) (v : Int64) : upL L a v a = v := if_pos rfl
theorem upL_n {L : LT} {a b : Nat} {v : Int64} (h : b ≠ a) : upL L a v b = L b := if_neg h
theorem upd_s (f : Nat → Int32) (k : Nat) (v : Int32) : upd f k v k = v := if_pos rfl
theorem upd_n {f : Nat → Int32} {k j : Nat} {v : Int32} (h : j ≠ k) : upd f k v j = f j := if_neg h
theorem cE_uI {tc : TC} {ad : Nat → Nat} {Z : ZT} {I : IT} {L : LT} {a b : Nat} {f : Nat → Int32} (h : b ≠ a) : cE tc ad Z (upR I a f) L b = cE tc ad Z I L b := by
  unfold cE
  have hv : fV ad Z (upR I a f) L b = fV ad Z I L b := by funext j; unfold fV; rw [upR_n h]
  rw [hv, upR_n h]
theorem cE_uL {tc : TC} {ad : Nat → Nat} {Z : ZT} {I : IT} {L : LT} {a b : Nat} {v : Int64} (h : b ≠ a) : cE tc ad Z I (upL L a v) b = cE tc ad Z I L b := by
  unfold cE
  have hv : fV ad Z I (upL L a v) b = fV ad Z I L b := by funext j; unfold fV; rw [upL_n h]
  rw [hv]
