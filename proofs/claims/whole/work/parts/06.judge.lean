/-! THE JUDGEMENT over places: JW .. pc lv st uc us Z I L: from the frame at pc with locals lv and stack st (references are places), the world being Z I L, the machine comes to the end that Qf names; CM: a method's contract in these words -/
def gT : List Cond := lw_tbl.filter goodWord
theorem gin {w : Cond} (h : w ∈ lw_tbl) (hg : goodWord w = true) : w ∈ gT := List.mem_filter.mpr ⟨h, hg⟩
theorem gin_ws {C : String} {T : u_T} {N : Nat} (h : ∀ w ∈ u_ws C T N, w ∈ lw_tbl) : ∀ w ∈ u_ws C T N, w ∈ gT := by
  intro w hw
  refine gin (h w hw) ?_
  obtain ⟨k, -, rfl⟩ := List.mem_map.mp hw
  unfold u_lay
  split <;> rfl
theorem gT_good : GoodIn gT gT := fun w h => ⟨h, good_of_word (List.mem_filter.mp h).2⟩
def wM (μ : MT) : List Cond := Cond.code μ.1 μ.2.1 μ.2.2.1 μ.2.2.2 :: gT
theorem wM_good {μ : MT} (h : Cond.code μ.1 μ.2.1 μ.2.2.1 μ.2.2.2 ∈ lw_tbl) : GoodIn gT (wM μ) := by
  intro w hw
  rcases List.mem_cons.mp hw with rfl | hw
  · exact ⟨gin h rfl, good_of_word rfl⟩
  · exact gT_good w hw
def rmO (d mc ms : Nat) : Room := { frames := d, cells := mc, slots := ms, locals := 64 * d }
def ordF (j : Nat) : Int32 := if j = 0 then 6 else if j = 1 then 2 else if j = 2 then 2 else 6
/-- what no cell of the world is: the static row, the script; words that are no 'good' ones -/
def pRO (g : GT) (ad : Nat → Nat) (A : Nat → Prop) (U : State) (H : Heap) : Prop :=
  va_Z RX5 "ORDERS_AFTER" "[I" (.ref (ad 1000)) A U H ∧ va_T .int (ad 1000) 4 (fun j => .int (ordF j)) A U H ∧ va_X (ad 1001) g.2.1 g.2.2 U H ∧ ad 1001 < H.size ∧ ¬ A (ad 1001)
def pNW (U : State) : Prop := va_Nw (.methodLinkNest RX5 9 yX4_init RX5) U ∧ va_Nw (.methodLinkNest RX2 11 yX3_init RX5) U ∧ va_Nw (.methodLinkNest RX2 112 yX5_nextOffset RX5) U ∧ va_AO RX2 U
theorem pNW.warm {s U : State} (hW : s.WarmedH U.vm) (h : pNW s) : pNW U := ⟨h.1.warmM hW, h.2.1.warmM hW, h.2.2.1.warmM hW, h.2.2.2.moved hW.alike⟩
theorem pNW.same {s U : State} (e : s.vm = U.vm) (h : pNW s) : pNW U := ⟨h.1.same rfl e, h.2.1.same rfl e, h.2.2.1.same rfl e, h.2.2.2.moved (by rw [← e]; exact Vm.Alike.refl _)⟩
theorem pRO.moved {g : GT} {ad : Nat → Nat} {A : Nat → Prop} {u U : State} {H : Heap} (hvm : u.vm.Alike U.vm) (h : pRO g ad A u H) : pRO g ad A U H := ⟨h.1.moved hvm, h.2.1.moved hvm, h.2.2.1.moved hvm, h.2.2.2⟩
theorem pRO.go {g : GT} {ad : Nat → Nat} {A B : Nat → Prop} {U : State} {H0 H : Heap} {locs : List Loc} (h : pRO g ad A U H0) (hS : va_S A H0 H locs) (hB : ∀ q, B q → A q) : pRO g ad B U H := by
  refine ⟨(h.1.kept (fun a h1 h2 => hS.2.1 a h1 h2)).narrow hB, (h.2.1.kept (fun a h1 h2 => hS.2.1 a h1 h2)).narrow hB, h.2.2.1.kept (hS.2.1 _ h.2.2.2.1 h.2.2.2.2), Nat.lt_of_lt_of_le h.2.2.2.1 hS.1, fun z => h.2.2.2.2 (hB _ z)⟩
theorem pRO.ad {g : GT} {ad ad' : Nat → Nat} {A : Nat → Prop} {U : State} {H : Heap} (e : ∀ a, 1000 ≤ a → ad' a = ad a) (h : pRO g ad A U H) : pRO g ad' A U H := by
  unfold pRO at h ⊢
  rw [e 1000 (by omega), e 1001 (by omega)]
  exact h
abbrev QF : Type := va_G → TC → (Nat → Prop) → (Nat → Nat) → Nat → List Frame → Array Value → State → State → Prop
abbrev PT : Type := Option Value → ZT → IT → LT → Prop
def QC (D : va_G) (tc : TC) (A : Nat → Prop) (ad0 : Nat → Nat) (n0 mc : Nat) (Post : PT) : Array Value → State → Outcome → State → Prop := fun _ st o t =>
  (∃ (r : Option Value) (Z : ZT) (I : IT) (L : LT) (ad : Nat → Nat), o = .returned (r.map (cv ad)) ∧ Post r Z I L ∧ okZ Z ∧ n0 ≤ zN Z ∧ zN Z ≤ n0 + mc ∧ (∀ a, (a < n0 ∨ zN Z ≤ a) → ad a = ad0 a) ∧ va_P D vwCl (wS tc ad Z I L) t.heap ∧ va_D A (wS tc ad Z I L)) ∧ va_F A st t
def QM (Post : PT) (mc ms : Nat) : QF := fun D tc A ad0 n0 below args s => MQ below (QC D tc A ad0 n0 mc Post) args s mc ms A
def pCX (g : GT) (μ : MT) (Rc : Room) (p : Program) (R : Room) (s : State) (m : MethodId) (args : Array Value) (meth : Method) (c : Code) (D : va_G) (tc : TC) (A : Nat → Prop) (ad0 : Nat → Nat) : Prop :=
  p.tables.exec = Jvm.exec ∧ c.code = μ.2.1 ∧ meth.sig.returnType = μ.2.2.2 ∧ c.maxLocals = μ.2.2.1 ∧ s.vm.findClass μ.1.cls = some m.cls ∧ (∀ w ∈ gT, w.before args s = true) ∧ meth.locks = false ∧ meth.name = μ.1.name ∧ R = Rc ∧ (∀ q, s.heap.size ≤ q → A q) ∧ va_K D vwCl (tyS tc) s ∧ pRO g ad0 A s s.heap ∧ pNW s
def pRL (D : va_G) (tc : TC) (A : Nat → Prop) (s : State) (nL : Nat) (ad0 : Nat → Nat) (n0 uc : Nat) (lv : List (Nat × Value)) (Z : ZT) (I : IT) (L : LT) (ad : Nat → Nat) (H : Heap) (locs : List Loc) (ls : Array Slot) : Prop :=
  va_P D vwCl (wS tc ad Z I L) H ∧ va_D A (wS tc ad Z I L) ∧ va_S A s.heap H locs ∧ lv_has ls nL (lvc ad lv) ∧ okZ Z ∧ n0 ≤ zN Z ∧ zN Z ≤ n0 + uc ∧ (∀ a, (a < n0 ∨ zN Z ≤ a) → ad a = ad0 a)
def JW (g : GT) (μ : MT) (Rc : Room) (Qf : QF) (pc : Nat) (lv : List (Nat × Value)) (st : List Value) (uc us : Nat) (Z : ZT) (I : IT) (L : LT) : Prop :=
  ∀ (p : Program) (e : Env) (R : Room) (s : State) (m : MethodId) (args : Array Value) (below : List Frame) (meth : Method) (c : Code) (D : va_G) (tc : TC) (A : Nat → Prop) (ad0 : Nat → Nat) (n0 : Nat), pCX g μ Rc p R s m args meth c D tc A ad0 →
  ∀ (ad : Nat → Nat) (H : Heap) (locs : List Loc) (ls : Array Slot), pRL D tc A s μ.2.2.1 ad0 n0 uc lv Z I L ad H locs ls → W p g.1 e R s m args below meth c H locs uc us (Qf D tc A ad0 n0 below args s) (F0 m pc ls (st.map (cv ad)))
def CM (g : GT) (d mc ms : Nat) (μ : MT) (as : List Value) (Z : ZT) (I : IT) (L : LT) (Post : PT) : Prop :=
  ∀ (D : va_G) (tc : TC) (ad : Nat → Nat) (sz : Nat), okZ Z → Met g.1 μ.1 (wM μ) (rmO d mc ms) (va_Pc (as.map (cv ad)) (fun U => U.heap.size = sz ∧ va_P D vwCl (wS tc ad Z I L) U.heap ∧ va_K D vwCl (tyS tc) U ∧ va_D (fun _ => True) (wS tc ad Z I L) ∧ pRO g ad (va_A (wS tc ad Z I L) sz) U U.heap ∧ pNW U)) (QC D tc (va_A (wS tc ad Z I L) sz) ad (zN Z) mc Post) mc ms (va_A (wS tc ad Z I L) sz)
set_option maxHeartbeats 4000000 in
theorem CM_intro {g : GT} {d mc ms : Nat} {μ : MT} {as : List Value} {Z : ZT} {I : IT} {L : LT} {Post : PT} (h : JW g μ (rmO d mc ms) (QM Post mc ms) 0 (lv_args 0 as) [] 0 0 Z I L) (hpl : plainName μ.1.cls = true := by decide) (hsl : (lg_sl as).length ≤ μ.2.2.1 := by exact Nat.le_of_ble_eq_true rfl) : CM g d mc ms μ as Z I L Post := by
  intro D tc ad sz hok
  refine Met.ofW (cc := μ.2.1) (maxL := μ.2.2.1) (ret := μ.2.2.2) hpl rfl ?_
  intro p e s m args below meth c s₁ B hml hv
  obtain ⟨rfl, hsz, hP, hK, hD0, hRO, hNW⟩ := hv
  have hts := atoms_spec (ws := wM μ) B.pre
  subst hsz
  have hl := lv_entry (as.map (cv ad)) (n := μ.2.2.1) (by rw [sl_len]; exact hsl)
  rw [lvc_args] at hl
  rw [lg_entry_eq]
  exact h p e _ s m _ below meth c D tc _ ad (zN Z) ⟨B.exec, B.bytes, B.returns, hml, findClass_of_methodNamed B.named, fun w hw => hts w (List.mem_cons_of_mem _ hw), B.notSynchronized, (name_of_methodNamed B.named B.method).1, rfl, fun q h => Or.inr h, hK, hRO, hNW⟩ ad s.heap [] _ ⟨hP, hD0.self, va_S.rf, hl, hok, Nat.le_refl _, by omega, fun a _ => rfl⟩
theorem lvc_pick (ad : Nat → Nat) (lv : List (Nat × Value)) : ∀ ks : List Nat, lv_pick (lvc ad lv) ks = lvc ad (lv_pick lv ks)
  | [] => rfl
  | i :: is => by
    have ih := lvc_pick ad lv is
    unfold lv_pick lvc at ih ⊢
    rw [List.filterMap_cons, List.filterMap_cons, List.getElem?_map]
    cases lv[i]? with
    | none => exact ih
    | some q => simp only [Option.map_some, List.map_cons, ih]
/-- weaker ends -/
theorem JW.locals {g : GT} {μ : MT} {Rc : Room} {Qf : QF} {pc : Nat} {lv lv' : List (Nat × Value)} {st : List Value} {uc us : Nat} {Z : ZT} {I : IT} {L : LT} (ks : List Nat) (hl : lv_pick lv ks = lv') (k : JW g μ Rc Qf pc lv' st uc us Z I L) : JW g μ Rc Qf pc lv st uc us Z I L := by
  intro p e R s m args below meth c D tc A ad0 n0 hC ad H locs ls hR
  refine k p e R s m args below meth c D tc A ad0 n0 hC ad H locs ls ⟨hR.1, hR.2.1, hR.2.2.1, ?_, hR.2.2.2.2⟩
  exact lv_sub hR.2.2.2.1 ks (by rw [← hl]; exact lvc_pick ad lv ks)
/-- references that a call which makes cells must leave as they are -/
def rfOK (n : Nat) (lv : List (Nat × Value)) (st : List Value) : Prop := ∀ v ∈ st ++ lv.map Prod.snd, ∀ a, v = .ref a → a < n ∨ 1000 ≤ a
theorem cv_list {ad ad' : Nat → Nat} {st : List Value} (h : ∀ v ∈ st, ∀ a, v = .ref a → ad' a = ad a) : st.map (cv ad') = st.map (cv ad) := List.map_congr_left (fun v hv => cv_cong (fun a ha => h v hv a ha))
theorem cv_lvc {ad ad' : Nat → Nat} {lv : List (Nat × Value)} (h : ∀ v ∈ lv.map Prod.snd, ∀ a, v = .ref a → ad' a = ad a) : lvc ad' lv = lvc ad lv := List.map_congr_left (fun q hq => by show (q.1, _) = (q.1, _); rw [cv_cong (fun a ha => h q.2 (List.mem_map.mpr ⟨q, hq, rfl⟩) a ha)])
set_option maxHeartbeats 4000000 in
/-- behind a call -/
theorem run_to {g : GT} {μ : MT} {Rc : Room} {Qf : QF} {pc : Nat} {lv : List (Nat × Value)} {st : List Value} {stk : List Value} {uc us mc ms : Nat} {Z : ZT} {I : IT} {L : LT} {a9 : Array Value}
    {p : Program} {e : Env} {R : Room} {s : State} {m : MethodId} {args : Array Value} {below : List Frame} {meth : Method} {c : Code} {D : va_G} {tc : TC} {A : Nat → Prop} {ad0 : Nat → Nat} {n0 : Nat} (hC : pCX g μ Rc p R s m args meth c D tc A ad0)
    {ad : Nat → Nat} {H : Heap} {locs : List Loc} {ls : Array Slot} (hR : pRL D tc A s μ.2.2.1 ad0 n0 uc lv Z I L ad H locs ls) (hrf : mc = 0 ∨ rfOK (zN Z) lv st)
    (hr : va_Run p g.1 e R s m args below meth c H locs uc us mc ms (F0 m pc ls stk) (st.map (cv ad)) (QC D tc (va_A (wS tc ad Z I L) H.size) ad (zN Z) mc (fun r Z' I' L' => JW g μ Rc Qf (pc + 3) lv (r.toList ++ st) (uc + mc) (us + ms) Z' I' L') a9) (va_A (wS tc ad Z I L) H.size)) :
    W p g.1 e R s m args below meth c H locs uc us (Qf D tc A ad0 n0 below args s) (F0 m pc ls stk) := by
  obtain ⟨hP, hD, hS, hl, hok, hn1, hn2, had⟩ := hR
  have hA := hC.2.2.2.2.2.2.2.2.2.1
  have hfr : ∀ q, va_A (wS tc ad Z I L) H.size q → A q := by
    intro q h
    rcases h with ⟨k, e', h⟩ | h
    · exact hD.2 k (q, e') h
    · exact hA q (Nat.le_trans hS.1 h)
  intro T hT X
  obtain ⟨v, st₀, t, T', L9, h0, X', hL, e1, e2, ⟨⟨r, Z', I', L', ad', ho, hp, hok', h1, h2, had', hP', hD'⟩, hz, hk⟩, go⟩ := hr T hT X
  cases ho
  rw [h0] at hz hk
  have hrefs : ∀ v ∈ st ++ lv.map Prod.snd, ∀ a, v = .ref a → ad' a = ad a := by
    intro v hv a ha
    rcases hrf with h | h
    · subst h
      exact had' a (by omega)
    · rcases h v hv a ha with h | h
      · exact had' a (Or.inl h)
      · exact had' a (Or.inr (Nat.le_of_lt (Nat.lt_of_lt_of_le hok'.2.2.2 h)))
  have es : (r.map (cv ad')).toList ++ st.map (cv ad) = (r.toList ++ st).map (cv ad') := by
    rw [List.map_append, cv_list (ad := ad) (ad' := ad') (st := st) (fun v hv => hrefs v (List.mem_append_left _ hv))]
    cases r <;> rfl
  have el : lvc ad' lv = lvc ad lv := cv_lvc (fun v hv => hrefs v (List.mem_append_right _ hv))
  have hS' : va_S A s.heap T'.heap (locs ++ L9) := ⟨Nat.le_trans hS.1 (by rw [e1]; exact hz), fun q g1 g2 => by rw [e1, hk q (Nat.lt_of_lt_of_le g1 hS.1) (fun z => g2 (hfr q z))]; exact hS.2.1 q g1 g2, fun q hq => by
      rcases List.mem_append.mp hq with h | h
      · exact hS.2.2 q h
      · exact hfr _ (hL q h)⟩
  obtain ⟨t2, a1, b1⟩ := hp p e R s m args below meth c D tc A ad0 n0 hC ad' T'.heap (locs ++ L9) ls ⟨by rw [e1]; exact hP', hD'.weaken (fun k q _ h => hfr q.1 h), hS', by rw [el]; exact hl, hok', Nat.le_trans hn1 h1, by omega, fun a ha => by
    rcases ha with ha | ha
    · rw [had' a (Or.inl (Nat.lt_of_lt_of_le ha hn1)), had a (Or.inl ha)]
    · rw [had' a (Or.inr ha), had a (Or.inr (Nat.le_trans h1 ha))]⟩ T' rfl X'
  refine ⟨t2, go t2 ?_, b1⟩
  rw [show (F0 m pc ls stk).pc = pc from rfl] at *
  simp only [es]
  exact a1
