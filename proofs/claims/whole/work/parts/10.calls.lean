section JC
variable {g : GT} {μ : MT} {Rc : Room} {Qf : QF} {pc : Nat} {lv : List (Nat × Value)} {st : List Value} {uc us : Nat} {Z : ZT} {I : IT} {L : LT}
theorem st_room (ad : Nat → Nat) {st : List Value} (h : (st.map (fun v => v.category)).sum ≤ 8) : ((st.map (cv ad)).map (fun v => v.category)).sum ≤ 8 := by
  rw [List.map_map]
  rw [show (List.map ((fun v : Value => v.category) ∘ cv ad) st) = st.map (fun v => v.category) from List.map_congr_left (fun v _ => cv_cat ad v)]
  exact h
/-- the callee's start out of the caller's state -/
theorem pre_blind {g : GT} {D : va_G} {tc : TC} {ad : Nat → Nat} {Z : ZT} {I : IT} {L : LT} {sz : Nat} {av : List Value} {A : Nat → Prop} : FrameBlind (va_Pc av (fun U => U.heap.size = sz ∧ va_P D vwCl (wS tc ad Z I L) U.heap ∧ va_K D vwCl (tyS tc) U ∧ va_D (fun _ => True) (wS tc ad Z I L) ∧ pRO g ad A U U.heap ∧ pNW U)) := by
  intro a U gf mk q
  obtain ⟨q0, q1, qP, qK, qD, qR, qN⟩ := q
  exact ⟨q0, q1, qP, va_K.moved (u := U) (U := U.calling gf mk a) (Vm.Alike.refl U.vm) qK, qD, pRO.moved (u := U) (U := U.calling gf mk a) (Vm.Alike.refl U.vm) qR, pNW.same (s := U) (U := U.calling gf mk a) rfl qN⟩
theorem pre_at {p : Program} {R : Room} {s : State} {m : MethodId} {args : Array Value} {meth : Method} {c : Code} {D : va_G} {tc : TC} {A : Nat → Prop} {ad0 : Nat → Nat} {n0 : Nat} (hC : pCX g μ Rc p R s m args meth c D tc A ad0) {ad : Nat → Nat} {H : Heap} {locs : List Loc} {ls : Array Slot} (hR : pRL D tc A s μ.2.2.1 ad0 n0 uc lv Z I L ad H locs ls) (av : List Value) (U : State) (hU : U.heap = H) (hW : s.WarmedH U.vm) : va_Pc av (fun U => U.heap.size = H.size ∧ va_P D vwCl (wS tc ad Z I L) U.heap ∧ va_K D vwCl (tyS tc) U ∧ va_D (fun _ => True) (wS tc ad Z I L) ∧ pRO g ad (va_A (wS tc ad Z I L) H.size) U U.heap ∧ pNW U) av.toArray U := by
  have hro := hC.2.2.2.2.2.2.2.2.2.2.2.1
  have hfr : ∀ q, va_A (wS tc ad Z I L) H.size q → A q := by
    intro q h
    rcases h with ⟨k, e', h⟩ | h
    · exact hR.2.1.2 k (q, e') h
    · exact hC.2.2.2.2.2.2.2.2.2.1 q (Nat.le_trans hR.2.2.1.1 h)
  refine ⟨rfl, by rw [hU], by rw [hU]; exact hR.1, va_K.moved hW.alike hC.2.2.2.2.2.2.2.2.2.2.1, hR.2.1.weaken (fun _ _ _ _ => trivial), ?_, hC.2.2.2.2.2.2.2.2.2.2.2.2.warm hW⟩
  rw [hU]
  exact (((hro.go hR.2.2.1 hfr).moved hW.alike)).ad (fun a h => ro_ad hR h)
theorem mw_callB {s : State} {args : Array Value} {R : Room} {own : String} {idx d mc ms n : Nat} {μ' : MT} (hts : ∀ w ∈ gT, w.before args s = true) (hm : MW μ' n) (hl : (Cond.methodLink own idx μ'.1).before args s = true) (hfr : d + 1 ≤ R.frames) (hlo : 64 * d + 64 ≤ R.locals) : CallB R s args own idx μ'.1 μ'.2.1 μ'.2.2.1 μ'.2.2.2 (wM μ') (rmO d mc ms) mc ms n :=
  callB_of n hts (wM_good hm.1) rfl rfl rfl (hts _ (gin hm.2.1 rfl)) hl ⟨hm.2.2.1.1, hm.2.2.1.2, hm.2.2.2.1⟩ ⟨hfr, by have := hm.2.2.2.2; show 8 + (μ'.2.2.1 + 11) + 64 * d ≤ R.locals; omega⟩
set_option maxHeartbeats 1000000 in
theorem j_V {a idx ci n d mc ms : Nat} {μ' : MT} {as : List Value} {stk : List Value} (hd : decode μ.2.1 pc = .ok (.invokevirtual idx, 3)) (hk : lkV μ.1.cls idx μ' n ci) (hstk : stk = as.reverse ++ .ref a :: st) (hn : as.length = n) (hK : zK Z a = ci) (hrf : mc = 0 ∨ rfOK (zN Z) lv st) (hfr : d + 1 ≤ Rc.frames) (hlo : 64 * d + 64 ≤ Rc.locals) (hcl : uc + mc ≤ Rc.cells ∧ us + ms ≤ Rc.slots) (hst : (st.map (fun v => v.category)).sum ≤ 8)
    (hM : CM g d mc ms μ' (.ref a :: as) Z I L (fun r Z' I' L' => JW g μ Rc Qf (pc + 3) lv (r.toList ++ st) (uc + mc) (us + ms) Z' I' L')) : JW g μ Rc Qf pc lv stk uc us Z I L := by
  intro p e R s m args below meth c D tc A ad0 n0 hC ad H locs ls hR
  obtain ⟨hx, hb, hr, hml, hown, hts, hlk, hnm, hRc, hA, hKK, hRO, hNW⟩ := id hC
  obtain ⟨hm, hl, hi, hs, ⟨T, N, hcl9⟩, h7⟩ := hk
  have ha := rl_lt hR hK (by omega)
  subst hRc
  refine run_to hC hR hrf (ms := ms) (a9 := (Value.ref (ad a) :: as.map (cv ad)).toArray) ?_
  refine va_runV (C := μ'.1.cls) (b := ad a) (As := as.map (cv ad)) (rest := st.map (cv ad)) ⟨hx, hb, hml, hown, hts⟩ (hM D tc ad H.size hR.2.2.2.2.1) ⟨mw_callB hts hm (hts _ (gin hl rfl)) hfr hlo, hts _ (gin hi rfl), hts _ (gin hs rfl)⟩ ⟨pre_blind, va_recv hKK hR.1 (ci := ci) (q0 := a) hcl9 ((wS_get ha).trans (by rw [cE_o hK h7])), fun U hU hW => pre_at hC hR _ U hU hW⟩ rfl (by rw [List.length_map]; exact hn) hR.2.2.2.1.1 ?_ (lv_room (st_room ad hst)) hd hcl
  show stk.map (cv ad) = _
  rw [hstk, List.map_append, List.map_reverse]
  rfl
set_option maxHeartbeats 1000000 in
theorem j_S {idx n d mc ms : Nat} {μ' : MT} {as : List Value} {stk : List Value} (hd : decode μ.2.1 pc = .ok (.invokestatic idx, 3)) (hk : lkS μ.1.cls idx μ' n) (hstk : stk = as.reverse ++ st) (hn : as.length = n) (hrf : mc = 0 ∨ rfOK (zN Z) lv st) (hfr : d + 1 ≤ Rc.frames) (hlo : 64 * d + 64 ≤ Rc.locals) (hcl : uc + mc ≤ Rc.cells ∧ us + ms ≤ Rc.slots) (hst : (st.map (fun v => v.category)).sum ≤ 8)
    (hM : CM g d mc ms μ' as Z I L (fun r Z' I' L' => JW g μ Rc Qf (pc + 3) lv (r.toList ++ st) (uc + mc) (us + ms) Z' I' L')) : JW g μ Rc Qf pc lv stk uc us Z I L := by
  intro p e R s m args below meth c D tc A ad0 n0 hC ad H locs ls hR
  obtain ⟨hx, hb, hr, hml, hown, hts, hlk, hnm, hRc, hA, hKK, hRO, hNW⟩ := id hC
  obtain ⟨hm, hl, hs⟩ := hk
  subst hRc
  refine run_to hC hR hrf (ms := ms) (a9 := (as.map (cv ad)).toArray) ?_
  refine va_runS (As := as.map (cv ad)) (rest := st.map (cv ad)) ⟨hx, hb, hml, hown, hts⟩ (hM D tc ad H.size hR.2.2.2.2.1) ⟨mw_callB hts hm (hts _ (gin hl rfl)) hfr hlo, hts _ (gin hs rfl)⟩ ⟨pre_blind, fun U hU hW => pre_at hC hR _ U hU hW⟩ rfl (by rw [List.length_map]; exact hn) hR.2.2.2.1.1 ?_ (lv_room (st_room ad hst)) hd hcl
  show stk.map (cv ad) = _
  rw [hstk, List.map_append, List.map_reverse]
set_option maxHeartbeats 1000000 in
/-- a private static of a nest mate: SideWords.nextOffset, from Receiver -/
theorem j_N {n d mc ms : Nat} {μ' : MT} {as : List Value} {stk : List Value} (hcls : μ.1.cls = RX2) (hy : μ'.1 = yX5_nextOffset) (hd : decode μ.2.1 pc = .ok (.invokestatic 112, 3)) (hk : lkN μ.1.cls 112 μ' n) (hstk : stk = as.reverse ++ st) (hn : as.length = n) (hrf : mc = 0 ∨ rfOK (zN Z) lv st) (hfr : d + 1 ≤ Rc.frames) (hlo : 64 * d + 64 ≤ Rc.locals) (hcl : uc + mc ≤ Rc.cells ∧ us + ms ≤ Rc.slots) (hst : (st.map (fun v => v.category)).sum ≤ 8)
    (hM : CM g d mc ms μ' as Z I L (fun r Z' I' L' => JW g μ Rc Qf (pc + 3) lv (r.toList ++ st) (uc + mc) (us + ms) Z' I' L')) : JW g μ Rc Qf pc lv stk uc us Z I L := by
  intro p e R s m args below meth c D tc A ad0 n0 hC ad H locs ls hR
  obtain ⟨hx, hb, hr, hml, hown, hts, hlk, hnm, hRc, hA, hKK, hRO, hNW⟩ := id hC
  obtain ⟨hm, hl, hs⟩ := hk
  subst hRc
  have hnw : va_Nw (.methodLinkNest μ.1.cls 112 μ'.1 RX5) s := by rw [hcls, hy]; exact hNW.2.2.1
  refine run_to hC hR hrf (ms := ms) (a9 := (as.map (cv ad)).toArray) ?_
  refine va_runSN (host := RX5) (As := as.map (cv ad)) (rest := st.map (cv ad)) ⟨hx, hb, hml, hown, hts⟩ (hM D tc ad H.size hR.2.2.2.2.1) ⟨va_cnB n hts (wM_good hm.1) rfl rfl rfl hnw (hts _ (gin hm.2.1 rfl)) ⟨hm.2.2.1.1, hm.2.2.1.2, hm.2.2.2.1⟩ ⟨hfr, by have := hm.2.2.2.2; show 8 + (μ'.2.2.1 + 11) + 64 * d ≤ R.locals; omega⟩, hts _ (gin hs rfl), trivial⟩ ⟨pre_blind, fun U hU hW => pre_at hC hR _ U hU hW⟩ rfl (by rw [List.length_map]; exact hn) hR.2.2.2.1.1 ?_ (lv_room (st_room ad hst)) hd hcl
  show stk.map (cv ad) = _
  rw [hstk, List.map_append, List.map_reverse]
set_option maxHeartbeats 1000000 in
theorem j_I {a idx n d mc ms : Nat} {μ' : MT} {as : List Value} {stk : List Value} (hd : decode μ.2.1 pc = .ok (.invokespecial idx, 3)) (hk : lkI μ.1.cls idx μ' n) (hstk : stk = as.reverse ++ .ref a :: st) (hn : as.length = n) (hrf : mc = 0 ∨ rfOK (zN Z) lv st) (hfr : d + 1 ≤ Rc.frames) (hlo : 64 * d + 64 ≤ Rc.locals) (hcl : uc + mc ≤ Rc.cells ∧ us + ms ≤ Rc.slots) (hst : (st.map (fun v => v.category)).sum ≤ 8)
    (hM : CM g d mc ms μ' (.ref a :: as) Z I L (fun r Z' I' L' => JW g μ Rc Qf (pc + 3) lv (r.toList ++ st) (uc + mc) (us + ms) Z' I' L')) : JW g μ Rc Qf pc lv stk uc us Z I L := by
  intro p e R s m args below meth c D tc A ad0 n0 hC ad H locs ls hR
  obtain ⟨hx, hb, hr, hml, hown, hts, hlk, hnm, hRc, hA, hKK, hRO, hNW⟩ := id hC
  obtain ⟨hm, hl, hi, hnm9, hret⟩ := hk
  subst hRc
  have hcb := mw_callB (R := R) (mc := mc) (ms := ms) hts hm (hts _ (gin hl rfl)) hfr hlo
  rw [hret] at hcb
  refine run_to hC hR hrf (ms := ms) (a9 := (Value.ref (ad a) :: as.map (cv ad)).toArray) ?_
  refine va_runI (b := ad a) (As := as.map (cv ad)) (rest := st.map (cv ad)) ⟨hx, hb, hml, hown, hts⟩ (hM D tc ad H.size hR.2.2.2.2.1) ⟨hcb, hnm9, hts _ (gin hi rfl)⟩ ⟨pre_blind, fun U hU hW => pre_at hC hR _ U hU hW⟩ rfl (by rw [List.length_map]; exact hn) hR.2.2.2.1.1 ?_ (lv_room (st_room ad hst)) hd hcl
  show stk.map (cv ad) = _
  rw [hstk, List.map_append, List.map_reverse]
  rfl
set_option maxHeartbeats 1000000 in
/-- a nest mate's private constructor -/
theorem j_X {a idx n d mc ms : Nat} {μ' : MT} {as : List Value} {stk : List Value} (hy : (μ.1.cls = RX5 ∧ idx = 9 ∧ μ'.1 = yX4_init) ∨ (μ.1.cls = RX2 ∧ idx = 11 ∧ μ'.1 = yX3_init)) (hd : decode μ.2.1 pc = .ok (.invokespecial idx, 3)) (hk : lkX μ.1.cls idx μ' n) (hstk : stk = as.reverse ++ .ref a :: st) (hn : as.length = n) (hrf : mc = 0 ∨ rfOK (zN Z) lv st) (hfr : d + 1 ≤ Rc.frames) (hlo : 64 * d + 64 ≤ Rc.locals) (hcl : uc + mc ≤ Rc.cells ∧ us + ms ≤ Rc.slots) (hst : (st.map (fun v => v.category)).sum ≤ 8)
    (hM : CM g d mc ms μ' (.ref a :: as) Z I L (fun r Z' I' L' => JW g μ Rc Qf (pc + 3) lv (r.toList ++ st) (uc + mc) (us + ms) Z' I' L')) : JW g μ Rc Qf pc lv stk uc us Z I L := by
  intro p e R s m args below meth c D tc A ad0 n0 hC ad H locs ls hR
  obtain ⟨hx, hb, hr, hml, hown, hts, hlk, hnm, hRc, hA, hKK, hRO, hNW⟩ := id hC
  obtain ⟨hm, hl, hi, hnm9, hret⟩ := hk
  subst hRc
  have hnw : va_Nw (.methodLinkNest μ.1.cls idx μ'.1 RX5) s := by
    rcases hy with ⟨h1, h2, h3⟩ | ⟨h1, h2, h3⟩
    · rw [h1, h2, h3]; exact hNW.1
    · rw [h1, h2, h3]; exact hNW.2.1
  have hcb : va_CN R s args μ.1.cls idx μ'.1 RX5 μ'.2.1 μ'.2.2.1 μ'.2.2.2 (wM μ') (rmO d mc ms) mc ms n := va_cnB n hts (wM_good hm.1) rfl rfl rfl hnw (hts _ (gin hm.2.1 rfl)) ⟨hm.2.2.1.1, hm.2.2.1.2, hm.2.2.2.1⟩ ⟨hfr, by have := hm.2.2.2.2; show 8 + (μ'.2.2.1 + 11) + 64 * d ≤ R.locals; omega⟩
  rw [hret] at hcb
  refine run_to hC hR hrf (ms := ms) (a9 := (Value.ref (ad a) :: as.map (cv ad)).toArray) ?_
  refine va_runIN (host := RX5) (b := ad a) (As := as.map (cv ad)) (rest := st.map (cv ad)) ⟨hx, hb, hml, hown, hts⟩ (hM D tc ad H.size hR.2.2.2.2.1) ⟨hcb, hnm9, hts _ (gin hi rfl)⟩ ⟨pre_blind, fun U hU hW => pre_at hC hR _ U hU hW⟩ rfl (by rw [List.length_map]; exact hn) hR.2.2.2.1.1 ?_ (lv_room (st_room ad hst)) hd hcl
  show stk.map (cv ad) = _
  rw [hstk, List.map_append, List.map_reverse]
  rfl
end JC
