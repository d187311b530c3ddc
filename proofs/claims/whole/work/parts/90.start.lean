/-! THE CLAIM OUT OF ONE WALK OF THE LAW'S BODY. Your part is whole_start (and what it stands on); all else here is the same for every law, but numbers. -/
def R_law : String := "SideWordsLaw"
def lw_P (b : Addr) (xs : List Int32) (args : Array Value) (s : State) : Prop := args = #[.ref b] ∧ s.IntsAt b xs ∧ xs.length ≤ 2560 ∧ (Jvm.Cond.and given_1 narrow_1).before args s = true
def lw_Q (_ : Array Value) (s : State) (o : Outcome) (t : State) : Prop := o = .returned (some (.int 1)) ∧ Framed s o t [] 600000 7302250
def lw_Z (below : List Frame) (a : Array Value) (s : State) : State → Prop := fun t => ∃ o, t.status = .running ∧ Ended t below o ∧ lw_Q a s o t
/-- the law's own end, with 1 on the stack, nothing written that was there before, its room as the claim has it -/
theorem lw_ret {p : Program} {l : Launch} {e : Env} {s : State} {m : MethodId} {below : List Frame} {meth : Method} {c : Code} {b : Nat} (hx : p.tables.exec = Jvm.exec) (hb : c.code = code) (hr : meth.sig.returnType = ret) (hlocks : meth.locks = false) {pc : Nat} {H : Heap} {ls : Array Slot} (hdg : decode code pc = .ok (.ireturn, 1)) : W p l e room_1 s m #[Value.ref b] below meth c H [] 600000 7302250 (lw_Z below #[Value.ref b] s) (F0 m pc ls [.int 1]) := by
  intro T hT X
  obtain ⟨fs, hret, hrun, hended, hW, hframe⟩ := X.leave (v := some (.int 1)) (hlocks := hlocks) (fun h => by rw [hr] at h; cases h)
  have hmeth' : T.vm.method? m = some meth := X.method'
  refine ⟨T.setFrames fs, ?_, .returned (some (.int 1)), hrun, hended, rfl, ⟨_, rfl⟩, hW, hframe⟩
  jvm_step X.here [X.here.top, hx, hb, hdg, hmeth', hr, ret, narrow_b1]
  (try refine ⟨rfl, ?_⟩); (try refine ⟨rfl, ?_⟩)
  first | (intro acts; rw [hret _ acts rfl rfl rfl]) | rw [hret _ _ rfl rfl rfl]
  exact Steps.refl _
/-- what holds at the law's entry: the machine, the code, the tables' words (any of lw_tbl by 'hts w (by decide +kernel)'), the script of L ints xs at the cell b, what the Statement gives of the start (any of its parts by flat_of_before) -/
def lw_At (p : Program) (s : State) (m : MethodId) (meth : Method) (c : Code) (b L : Nat) (xs : Nat → Int32) : Prop :=
  p.tables.exec = Jvm.exec ∧ c.code = code ∧ meth.sig.returnType = ret ∧ c.maxLocals = 4 ∧ s.vm.findClass R_law = some m.cls ∧ (∀ w ∈ lw_tbl, w.before #[Value.ref b] s = true) ∧ va_X b L xs s s.heap ∧ b < s.heap.size ∧ meth.locks = false ∧ (Jvm.Cond.and given_1 narrow_1).before #[Value.ref b] s = true
/-- the law's end, whatever its arguments -/
theorem lw_retA {p : Program} {l : Launch} {e : Env} {s : State} {m : MethodId} {args : Array Value} {below : List Frame} {meth : Method} {c : Code} (hx : p.tables.exec = Jvm.exec) (hb : c.code = code) (hr : meth.sig.returnType = ret) (hlocks : meth.locks = false) {pc : Nat} {H : Heap} {ls : Array Slot} (hdg : decode code pc = .ok (.ireturn, 1)) : W p l e room_1 s m args below meth c H [] 600000 7302250 (lw_Z below args s) (F0 m pc ls [.int 1]) := by
  intro T hT X
  obtain ⟨fs, hret, hrun, hended, hW, hframe⟩ := X.leave (v := some (.int 1)) (hlocks := hlocks) (fun h => by rw [hr] at h; cases h)
  have hmeth' : T.vm.method? m = some meth := X.method'
  refine ⟨T.setFrames fs, ?_, .returned (some (.int 1)), hrun, hended, rfl, ⟨_, rfl⟩, hW, hframe⟩
  jvm_step X.here [X.here.top, hx, hb, hdg, hmeth', hr, ret, narrow_b1]
  (try refine ⟨rfl, ?_⟩); (try refine ⟨rfl, ?_⟩)
  first | (intro acts; rw [hret _ acts rfl rfl rfl]) | rw [hret _ _ rfl rfl rfl]
  exact Steps.refl _
def QLw : QF := fun _ _ A _ _ below args s => fun t => (∀ q, A q → s.heap.size ≤ q) → lw_Z below args s t
theorem w_end {g : GT} {nm : String} {Z : ZT} {lv : List (Nat × Value)} {I : IT} {L : LT} : JW g (mLw nm) room_1 QLw 1211 lv [] 213 2924 Z I L := by
  refine j_iconst (v := 1) dL_law_1211 rfl ?_
  intro p e R s m args below meth c D tc A ad0 n0 hC ad H locs ls hR
  obtain ⟨hx, hb, hr, hml, hown, hts, hlk, hnm, hRc, hA, hKK, hRO, hNW⟩ := id hC
  subst hRc
  by_cases hq : ∀ q, A q → s.heap.size ≤ q
  · have h1 : W p g.1 e room_1 s m args below meth c H locs 213 2924 (lw_Z below args s) (F0 m (1211 + 1) ls [.int 1]) := by
      refine va_forget (fun q hq2 => hq _ (hR.2.2.1.2.2 q hq2)) ?_
      refine W.widen (Nat.le_of_ble_eq_true rfl) (Nat.le_of_ble_eq_true rfl) (lw_retA hx hb hr hlk dL_law_1212)
    intro T hT X
    obtain ⟨t, a1, b1⟩ := h1 T hT X
    exact ⟨t, a1, fun _ => b1⟩
  · intro T hT X
    exact ⟨_, Steps.refl _, fun h => absurd h hq⟩
theorem ar_int {s : State} {args : Array Value} {ty : FieldType} (h : (Cond.arrayClass ty).before args s = true) : ∃ cA : ClassId, ArrOfT s cA ty ∧ s.vm.findClass ("[" ++ ty.toString) = some cA := by
  obtain ⟨cA, kA, comp, h1, h2, h3⟩ := Cond.arrayClass_spec h
  exact ⟨cA, fun N z => ⟨fun k h => (by cases h), kA, h2, comp, h3⟩, h1⟩
theorem ar_obj {s : State} (h : va_AO RX2 s) : ∃ cA : ClassId, ArrOfT s cA (.object RX2) ∧ va_RA s cA (.object RX2) := by
  obtain ⟨comp, cA, kA, h1, h2, h3, h4, h5⟩ := Cond.arrayOver_spec h
  exact ⟨cA, fun N z => ⟨fun k h => (by cases h), kA, h3, comp, h4⟩, kA, comp, h3, h4, h1, h5⟩
def Z00 : ZT := (0, fun _ => 10, fun _ => 0, fun _ _ => false)
theorem okZ00 : okZ Z00 := ⟨fun a h => absurd h (Nat.lt_irrefl 10), fun _ => Nat.two_pow_pos 31, fun a j h => absurd h (Nat.not_lt_zero a), Nat.le_of_ble_eq_true rfl⟩
theorem okK00 : okK Z00 := fun a h => absurd h (Nat.not_lt_zero a)
def ad00 (t b : Nat) : Nat → Nat := fun a => if a = 1000 then t else if a = 1001 then b else 0
set_option maxHeartbeats 4000000 in
/-- THE LAW, from its entry -/
theorem whole_start {p : Program} {e : Env} {s : State} {m : MethodId} {below : List Frame} {meth : Method} {c : Code} (l : Launch) (hflags : l.flags = flags0) {b L : Nat} {xs : Nat → Int32} (hL : L ≤ 2560) (C0 : lw_At p s m meth c b L xs) : W p l e room_1 s m #[Value.ref b] below meth c s.heap [] 0 0 (lw_Z below #[Value.ref b] s) (entryFrame m ([Value.ref b] : List Value).toArray 4) := by
  obtain ⟨hx, hb, hr, hml, hown, hts, hX, hbl, hlocks, hgv⟩ := id C0
  have hfl := flat_of_before _ hgv
  have hA : ∀ a : Nat, a < s.heap.size → ¬ (fun q : Nat => s.heap.size ≤ q) a := fun a h => Nat.not_le.mpr h
  obtain ⟨c0, iS0, hKn0⟩ := u_known (C := RX0) (T := TX0) (N := 3) (n := 3) hts inX0 (hts _ (List.mem_of_getElem? (i := 261) (by decide +kernel)))
  obtain ⟨c1, iS1, hKn1⟩ := u_known (C := RX1) (T := TX1) (N := 9) (n := 9) hts inX1 (hts _ (List.mem_of_getElem? (i := 83) (by decide +kernel)))
  obtain ⟨c2, iS2, hKn2⟩ := u_known (C := RX2) (T := TX2) (N := 15) (n := 15) hts inX2 (hts _ (List.mem_of_getElem? (i := 146) (by decide +kernel)))
  obtain ⟨c3, iS3, hKn3⟩ := u_known (C := RX3) (T := TX3) (N := 9) (n := 9) hts inX3 (hts _ (List.mem_of_getElem? (i := 152) (by decide +kernel)))
  obtain ⟨c4, iS4, hKn4⟩ := u_known (C := RX4) (T := TX4) (N := 2) (n := 2) hts inX4 (hts _ (List.mem_of_getElem? (i := 68) (by decide +kernel)))
  obtain ⟨c5, iS5, hKn5⟩ := u_known (C := RX5) (T := TX5) (N := 12) (n := 12) hts inX5 (hts _ (List.mem_of_getElem? (i := 60) (by decide +kernel)))
  obtain ⟨c6, iS6, hKn6⟩ := u_known (C := RX6) (T := TX6) (N := 27) (n := 27) hts inX6 (hts _ (List.mem_of_getElem? (i := 711) (by decide +kernel)))
  obtain ⟨D, hKc⟩ : ∃ D : va_G, ∀ (k : Nat) (q : vw_C), vwCl[k]? = some q → u_Kn s q.1 q.2.1 q.2.2 (D.1 k) (D.2 k) := by
    refine ⟨(fun k => if k = 0 then c0 else if k = 1 then c1 else if k = 2 then c2 else if k = 3 then c3 else if k = 4 then c4 else if k = 5 then c5 else c6, fun k => if k = 0 then iS0 else if k = 1 then iS1 else if k = 2 then iS2 else if k = 3 then iS3 else if k = 4 then iS4 else if k = 5 then iS5 else iS6), ?_⟩
    intro k q hq
    match k, hq with
    | 0, hq => cases hq; exact hKn0
    | 1, hq => cases hq; exact hKn1
    | 2, hq => cases hq; exact hKn2
    | 3, hq => cases hq; exact hKn3
    | 4, hq => cases hq; exact hKn4
    | 5, hq => cases hq; exact hKn5
    | 6, hq => cases hq; exact hKn6
    | k + 7, hq => simp [vwCl] at hq
  have hao : va_AO RX2 s := va_AO.of (hts _ (List.mem_of_getElem? (i := 267) (by decide +kernel)))
  obtain ⟨t1, a1, n1⟩ := ar_int (hts _ (List.mem_of_getElem? (i := 81) (by decide +kernel)) : (Cond.arrayClass .int).before _ s = true)
  obtain ⟨t2, a2, n2⟩ := ar_int (hts _ (List.mem_of_getElem? (i := 317) (by decide +kernel)) : (Cond.arrayClass .boolean).before _ s = true)
  obtain ⟨t3, a3, n3⟩ := ar_obj hao
  have hK : va_K D vwCl (tyS (t1, t2, t3)) s := by
    refine ⟨hKc, fun k q hq => ?_⟩
    match k, hq with
    | 0, hq => cases hq; exact ⟨a1, n1⟩
    | 1, hq => cases hq; exact ⟨a2, n2⟩
    | 2, hq => cases hq; exact ⟨a3, n3⟩
    | k + 3, hq => simp [tyS] at hq
  have harr : (Cond.arrayOf (.static "SideWords" "ORDERS_AFTER" "[I") .int).before #[Value.ref b] s = true := hfl _ (by decide +kernel)
  have hlen := va_eqt (z := 4) (hfl (Cond.eq (.length (.static "SideWords" "ORDERS_AFTER" "[I")) (.int 4)) (by decide +kernel))
  have he0 := va_eqt (z := 6) (hfl (Cond.eq (.elem (.static "SideWords" "ORDERS_AFTER" "[I") (.int 0)) (.int 6)) (by decide +kernel))
  have he1 := va_eqt (z := 2) (hfl (Cond.eq (.elem (.static "SideWords" "ORDERS_AFTER" "[I") (.int 1)) (.int 2)) (by decide +kernel))
  have he2 := va_eqt (z := 2) (hfl (Cond.eq (.elem (.static "SideWords" "ORDERS_AFTER" "[I") (.int 2)) (.int 2)) (by decide +kernel))
  have he3 := va_eqt (z := 6) (hfl (Cond.eq (.elem (.static "SideWords" "ORDERS_AFTER" "[I") (.int 3)) (.int 6)) (by decide +kernel))
  obtain ⟨tO, hev, hTT⟩ := va_Tof (N := 4) (f := fun j => .int (ordF j)) (A := fun q : Nat => s.heap.size ≤ q) (by decide) harr hlen (fun j hj => by
    match j, hj with
    | 0, _ => exact he0
    | 1, _ => exact he1
    | 2, _ => exact he2
    | 3, _ => exact he3
    | j + 4, hj => exact absurd hj (by omega)) hA
  have hZZ := va_Zof (A := fun q : Nat => s.heap.size ≤ q) (hts (Cond.laysStatic RX5 "ORDERS_AFTER" "[I") (List.mem_of_getElem? (i := 668) (by decide +kernel))) (hts (Cond.initialized RX5) (List.mem_of_getElem? (i := 48) (by decide +kernel))) hev hA
  have hRO : pRO (l, L, xs) (ad00 tO b) (fun q : Nat => s.heap.size ≤ q) s s.heap := ⟨hZZ, hTT, hX, hbl, hA b hbl⟩
  have hNW : pNW s := ⟨va_Nw.of rfl (hts (Cond.methodLinkNest RX5 9 yX4_init RX5) (List.mem_of_getElem? (i := 69) (by decide +kernel))), va_Nw.of rfl (hts (Cond.methodLinkNest RX2 11 yX3_init RX5) (List.mem_of_getElem? (i := 153) (by decide +kernel))), va_Nw.of rfl (hts (Cond.methodLinkNest RX2 112 yX5_nextOffset RX5) (List.mem_of_getElem? (i := 532) (by decide +kernel))), hao⟩
  have hC : pCX (l, L, xs) (mLw meth.name) room_1 p room_1 s m #[Value.ref b] meth c D (t1, t2, t3) (fun q : Nat => s.heap.size ≤ q) (ad00 tO b) := ⟨hx, hb, hr, hml, hown, fun w hw => hts w (List.mem_filter.mp hw).1, hlocks, rfl, rfl, fun q h => h, hK, hRO, hNW⟩
  have hJ := w_all (g := (l, L, xs)) (nm := meth.name) (Qf := QLw) (Z := Z00) (I := fun _ _ => 0) (L := fun _ => 0) hL okK00 rfl (fun Z' i I L => w_end)
  have hl := lv_entry (([.ref 1001] : List Value).map (cv (ad00 tO b))) (n := 4) (Nat.le_of_ble_eq_true rfl)
  rw [lvc_args] at hl
  have hW := hJ p e room_1 s m #[Value.ref b] below meth c D (t1, t2, t3) (fun q : Nat => s.heap.size ≤ q) (ad00 tO b) 0 hC (ad00 tO b) s.heap [] _ ⟨fun k q h => absurd h (by simp [wS, Z00, zN]), ⟨fun i j p q h => absurd h (by simp [wS, Z00, zN]), fun k q h => absurd h (by simp [wS, Z00, zN])⟩, va_S.rf, hl, okZ00, Nat.le_refl _, Nat.le_refl _, fun _ _ => rfl⟩
  rw [lg_entry_eq]
  intro T hT X
  obtain ⟨t, h1, h2⟩ := hW T hT X
  exact ⟨t, h1, h2 (fun q h => h)⟩
