theorem upI_s (I : IT) (a k : Nat) (v : Int32) : upI I a k v a = upd (I a) k v := if_pos rfl
theorem upI_n {I : IT} {a k b : Nat} {v : Int32} (h : b ≠ a) : upI I a k v b = I b := if_neg h
section JA
variable {g : GT} {μ : MT} {Rc : Room} {Qf : QF} {pc : Nat} {lv : List (Nat × Value)} {st : List Value} {uc us : Nat} {Z : ZT} {I : IT} {L : LT}
theorem j_iaload {a : Nat} {x : Int32} (j : Nat) (hd : decode μ.2.1 pc = .ok (.iaload, 1)) (hx : x = nI j) (hK : zK Z a = 7) (hj : j < zL Z a) (k : JW g μ Rc Qf (pc + 1) lv (.int (I a j) :: st) uc us Z I L) : JW g μ Rc Qf pc lv (.int x :: .ref a :: st) uc us Z I L := by
  intro p e R s m args below meth c D tc A ad0 n0 hC ad H locs ls hR
  have ha := rl_lt hR hK (by omega)
  have hlen := hR.2.2.2.2.1.2.1 a
  have hc : x.toNatClampNeg = j := by rw [hx]; exact nI_clamp (by omega)
  refine va_iald (D := D) hC.1 hC.2.1 hC.2.2.2.2.2.2.2.2.2.2.1 hR.1 a 0 ((wS_get ha).trans (by rw [cE_i hK])) rfl (by rw [hx]; exact vp_in_nI hj hlen) hd ?_
  rw [hc]
  exact k p e R s m args below meth c D tc A ad0 n0 hC ad H locs ls hR
theorem j_baload {a : Nat} {x : Int32} (j : Nat) (hd : decode μ.2.1 pc = .ok (.baload, 1)) (hx : x = nI j) (hK : zK Z a = 8) (hj : j < zL Z a) (k : JW g μ Rc Qf (pc + 1) lv (.int (I a j) :: st) uc us Z I L) : JW g μ Rc Qf pc lv (.int x :: .ref a :: st) uc us Z I L := by
  intro p e R s m args below meth c D tc A ad0 n0 hC ad H locs ls hR
  have ha := rl_lt hR hK (by omega)
  have hlen := hR.2.2.2.2.1.2.1 a
  have hc : x.toNatClampNeg = j := by rw [hx]; exact nI_clamp (by omega)
  refine va_zald (D := D) hC.1 hC.2.1 hC.2.2.2.2.2.2.2.2.2.2.1 hR.1 a 1 ((wS_get ha).trans (by rw [cE_z hK])) rfl (by rw [hx]; exact vp_in_nI hj hlen) hd ?_
  rw [hc]
  exact k p e R s m args below meth c D tc A ad0 n0 hC ad H locs ls hR
theorem j_iastore {a : Nat} {x v : Int32} (j : Nat) (hd : decode μ.2.1 pc = .ok (.iastore, 1)) (hx : x = nI j) (hK : zK Z a = 7) (hj : j < zL Z a) (k : JW g μ Rc Qf (pc + 1) lv st uc us Z (upI I a j v) L) : JW g μ Rc Qf pc lv (.int v :: .int x :: .ref a :: st) uc us Z I L := by
  intro p e R s m args below meth c D tc A ad0 n0 hC ad H locs ls hR
  have ha := rl_lt hR hK (by omega)
  have hlen := hR.2.2.2.2.1.2.1 a
  have hc : x.toNatClampNeg = j := by rw [hx]; exact nI_clamp (by omega)
  refine va_iast (D := D) hC.1 hC.2.1 hC.2.2.2.2.2.2.2.2.2.2.1 hR.1 hR.2.1 hR.2.2.1 a 0 ((wS_get ha).trans (by rw [cE_i hK])) rfl (by rw [hx]; exact vp_in_nI hj hlen) hd (fun H1 locs1 hP hD hS => ?_)
  rw [hc] at hP hD
  have e9 : (wS tc ad Z I L).set a (ad a, .inl (tc.1, zL Z a, .inl (upd (I a) j v))) = wS tc ad Z (upI I a j v) L := wS_set ha rfl (by rw [cE_i hK, upI_s]) (fun b _ hne => cE_uI hne)
  rw [e9] at hP hD
  exact k p e R s m args below meth c D tc A ad0 n0 hC ad H1 locs1 ls ⟨hP, hD, hS, hR.2.2.2⟩
theorem j_bastore {a : Nat} {x v : Int32} (j : Nat) (hd : decode μ.2.1 pc = .ok (.bastore, 1)) (hx : x = nI j) (hv : v = 0 ∨ v = 1) (hK : zK Z a = 8) (hj : j < zL Z a) (k : JW g μ Rc Qf (pc + 1) lv st uc us Z (upI I a j v) L) : JW g μ Rc Qf pc lv (.int v :: .int x :: .ref a :: st) uc us Z I L := by
  intro p e R s m args below meth c D tc A ad0 n0 hC ad H locs ls hR
  have ha := rl_lt hR hK (by omega)
  have hlen := hR.2.2.2.2.1.2.1 a
  have hc : x.toNatClampNeg = j := by rw [hx]; exact nI_clamp (by omega)
  have hvn : vp_nar .boolean v = v := by rcases hv with rfl | rfl <;> rfl
  refine va_zast (D := D) hC.1 hC.2.1 hC.2.2.2.2.2.2.2.2.2.2.1 hR.1 hR.2.1 hR.2.2.1 a 1 ((wS_get ha).trans (by rw [cE_z hK])) rfl (by rw [hx]; exact vp_in_nI hj hlen) hd (fun H1 locs1 hP hD hS => ?_)
  rw [hc, hvn] at hP hD
  have e9 : (wS tc ad Z I L).set a (ad a, .inl (tc.2.1, zL Z a, .inl (upd (I a) j v))) = wS tc ad Z (upI I a j v) L := wS_set ha rfl (by rw [cE_z hK, upI_s]) (fun b _ hne => cE_uI hne)
  rw [e9] at hP hD
  exact k p e R s m args below meth c D tc A ad0 n0 hC ad H1 locs1 ls ⟨hP, hD, hS, hR.2.2.2⟩
theorem j_aaload {a b : Nat} {x : Int32} (j : Nat) (hd : decode μ.2.1 pc = .ok (.aaload, 1)) (hx : x = nI j) (hb : aB a + 7 * j = b) (hK : zK Z a = 9) (hj : j < zL Z a) (hS : zS Z a j = true) (k : JW g μ Rc Qf (pc + 1) lv (.ref b :: st) uc us Z I L) : JW g μ Rc Qf pc lv (.int x :: .ref a :: st) uc us Z I L := by
  intro p e R s m args below meth c D tc A ad0 n0 hC ad H locs ls hR
  have ha := rl_lt hR hK (by omega)
  have hlen := hR.2.2.2.2.1.2.1 a
  have hc : x.toNatClampNeg = j := by rw [hx]; exact nI_clamp (by omega)
  refine va_aldq (D := D) (C := RX2) hC.1 hC.2.1 hC.2.2.2.2.2.2.2.2.2.2.1 hR.1 a 2 ((wS_get ha).trans (by rw [cE_q hK])) rfl (by rw [hx]; exact vp_in_nI hj hlen) hd ?_
  rw [hc, if_pos hS, hb]
  exact k p e R s m args below meth c D tc A ad0 n0 hC ad H locs ls hR
theorem j_alen {a : Nat} {v : Int32} (hd : decode μ.2.1 pc = .ok (.arraylength, 1)) (hK : zK Z a = 7 ∨ zK Z a = 9) (hv : nI (zL Z a) = v) (k : JW g μ Rc Qf (pc + 1) lv (.int v :: st) uc us Z I L) : JW g μ Rc Qf pc lv (.ref a :: st) uc us Z I L := by
  intro p e R s m args below meth c D tc A ad0 n0 hC ad H locs ls hR
  rcases hK with hK | hK
  · have ha := rl_lt hR hK (by omega)
    exact va_alen (D := D) hC.1 hC.2.1 hC.2.2.2.2.2.2.2.2.2.2.1 hR.1 a 0 (x := (zL Z a, .inl (I a))) ((wS_get ha).trans (by rw [cE_i hK])) rfl hv hd (k p e R s m args below meth c D tc A ad0 n0 hC ad H locs ls hR)
  · have ha := rl_lt hR hK (by omega)
    exact va_alen (D := D) hC.1 hC.2.1 hC.2.2.2.2.2.2.2.2.2.2.1 hR.1 a 2 (x := (zL Z a, .inr (.inr (.inr (.inr (fun i => if zS Z a i = true then some (ad (aB a + 7 * i)) else none)))))) ((wS_get ha).trans (by rw [cE_q hK])) rfl hv hd (k p e R s m args below meth c D tc A ad0 n0 hC ad H locs ls hR)
/-- the static row, and the script -/
theorem ro_ad {D : va_G} {tc : TC} {A : Nat → Prop} {s : State} {nL : Nat} {ad0 : Nat → Nat} {n0 uc : Nat} {lv : List (Nat × Value)} {Z : ZT} {I : IT} {L : LT} {ad : Nat → Nat} {H : Heap} {locs : List Loc} {ls : Array Slot} (hR : pRL D tc A s nL ad0 n0 uc lv Z I L ad H locs ls) {a : Nat} (h : 1000 ≤ a) : ad a = ad0 a := hR.2.2.2.2.2.2.2 a (Or.inr (Nat.le_of_lt (Nat.lt_of_lt_of_le hR.2.2.2.2.1.2.2.2 h)))
theorem j_gets {idx : Nat} (hd : decode μ.2.1 pc = .ok (.getstatic idx, 3)) (hw : Cond.fieldLink μ.1.cls idx RX5 "ORDERS_AFTER" "[I" ∈ lw_tbl) (k : JW g μ Rc Qf (pc + 3) lv (.ref 1000 :: st) uc us Z I L) : JW g μ Rc Qf pc lv st uc us Z I L := by
  intro p e R s m args below meth c D tc A ad0 n0 hC ad H locs ls hR
  have h := k p e R s m args below meth c D tc A ad0 n0 hC ad H locs ls hR
  have e9 : List.map (cv ad) (.ref 1000 :: st) = .ref (ad0 1000) :: List.map (cv ad) st := by
    show Value.ref (ad 1000) :: _ = _
    rw [ro_ad hR (Nat.le_refl _)]
  rw [e9] at h
  exact va_gets hC.1 hC.2.1 hC.2.2.2.2.2.2.2.2.2.2.2.1.1 hR.2.2.1 hC.2.2.2.2.1 (hC.2.2.2.2.2.1 _ (gin hw rfl)) (fun _ h => h) hd h
theorem j_oaload {x : Int32} (j : Nat) (hd : decode μ.2.1 pc = .ok (.iaload, 1)) (hx : x = nI j) (hj : j < 4) (k : JW g μ Rc Qf (pc + 1) lv (.int (ordF j) :: st) uc us Z I L) : JW g μ Rc Qf pc lv (.int x :: .ref 1000 :: st) uc us Z I L := by
  intro p e R s m args below meth c D tc A ad0 n0 hC ad H locs ls hR
  have hc : x.toNatClampNeg = j := by rw [hx]; exact nI_clamp (by omega)
  have e9 : List.map (cv ad) (.int x :: .ref 1000 :: st) = .int x :: .ref (ad0 1000) :: List.map (cv ad) st := by
    show Value.int x :: Value.ref (ad 1000) :: _ = _
    rw [ro_ad hR (Nat.le_refl _)]
  rw [e9]
  exact va_ti hC.1 hC.2.1 hC.2.2.2.2.2.2.2.2.2.2.2.1.2.1 hR.2.2.1 (by rw [hx]; exact vp_in_nI hj (by decide)) (v := .int (ordF j)) (by rw [hc]) hd (k p e R s m args below meth c D tc A ad0 n0 hC ad H locs ls hR)
theorem j_saload {x : Int32} (j : Nat) (hd : decode μ.2.1 pc = .ok (.iaload, 1)) (hx : x = nI j) (hj : j < g.2.1) (hg : g.2.1 < 2 ^ 31) (k : JW g μ Rc Qf (pc + 1) lv (.int (g.2.2 j) :: st) uc us Z I L) : JW g μ Rc Qf pc lv (.int x :: .ref 1001 :: st) uc us Z I L := by
  intro p e R s m args below meth c D tc A ad0 n0 hC ad H locs ls hR
  have hc : x.toNatClampNeg = j := by rw [hx]; exact nI_clamp (by omega)
  have e9 : List.map (cv ad) (.int x :: .ref 1001 :: st) = .int x :: .ref (ad0 1001) :: List.map (cv ad) st := by
    show Value.int x :: Value.ref (ad 1001) :: _ = _
    rw [ro_ad hR (by omega)]
  rw [e9]
  have hro := hC.2.2.2.2.2.2.2.2.2.2.2.1
  refine va_sld hC.1 hC.2.1 hro.2.2.1 hro.2.2.2.1 hro.2.2.2.2 hR.2.2.1 (by rw [hx]; exact vp_in_nI hj hg) hd ?_
  rw [hc]
  exact k p e R s m args below meth c D tc A ad0 n0 hC ad H locs ls hR
theorem j_salen (hd : decode μ.2.1 pc = .ok (.arraylength, 1)) (k : JW g μ Rc Qf (pc + 1) lv (.int (nI g.2.1) :: st) uc us Z I L) : JW g μ Rc Qf pc lv (.ref 1001 :: st) uc us Z I L := by
  intro p e R s m args below meth c D tc A ad0 n0 hC ad H locs ls hR
  have e9 : List.map (cv ad) (.ref 1001 :: st) = .ref (ad0 1001) :: List.map (cv ad) st := by
    show Value.ref (ad 1001) :: _ = _
    rw [ro_ad hR (by omega)]
  rw [e9]
  have hro := hC.2.2.2.2.2.2.2.2.2.2.2.1
  exact va_slen hC.1 hC.2.1 hro.2.2.1 hro.2.2.2.1 hro.2.2.2.2 hR.2.2.1 hd (k p e R s m args below meth c D tc A ad0 n0 hC ad H locs ls hR)
/-- System.arraycopy of a whole stretch -/
theorem j_copy {idx a b : Nat} {sp dp n : Int32} (sp' dp' n' : Nat) (hd : decode μ.2.1 pc = .ok (.invokestatic idx, 3)) (hw : Cond.methodLink μ.1.cls idx arraycopyName ∈ lw_tbl) (h1 : sp = nI sp') (h2 : dp = nI dp') (h3 : n = nI n') (hKa : zK Z a = 7) (hKb : zK Z b = 7) (ha9 : sp' + n' ≤ zL Z a) (hb9 : dp' + n' ≤ zL Z b) (hw2 : Cond.native arraycopyName ∈ lw_tbl) (hw3 : Cond.static arraycopyName ∈ lw_tbl) (hw4 : Cond.initialized "java/lang/System" ∈ lw_tbl) (k : JW g μ Rc Qf (pc + 3) lv st uc us Z (upR I b (va_cpy (I a) (I b) sp' dp' n')) L) (hfr : 1 ≤ Rc.frames := by exact Nat.le_of_ble_eq_true rfl) (hlo : 8 + (nativeFrameWords "java/lang/System" "arraycopy" 5 + 11) ≤ Rc.locals := by exact Nat.le_of_ble_eq_true rfl) (hst : (st.map (fun v => v.category)).sum ≤ 8 := by exact Nat.le_of_ble_eq_true rfl) : JW g μ Rc Qf pc lv (.int n :: .int dp :: .ref b :: .int sp :: .ref a :: st) uc us Z I L := by
  intro p e R s m args below meth c D tc A ad0 n0 hC ad H locs ls hR
  have ha := rl_lt hR hKa (by omega)
  have hb := rl_lt hR hKb (by omega)
  have hla := hR.2.2.2.2.1.2.1 a
  have hlb := hR.2.2.2.2.1.2.1 b
  have e1 : sp.toNatClampNeg = sp' := by rw [h1]; exact nI_clamp (by omega)
  have e2 : dp.toNatClampNeg = dp' := by rw [h2]; exact nI_clamp (by omega)
  have e3 : n.toNatClampNeg = n' := by rw [h3]; exact nI_clamp (by omega)
  have es : ((st.map (cv ad)).map (fun v => v.category)).sum = (st.map (fun v => v.category)).sum := by
    rw [List.map_map]; congr 1; exact List.map_congr_left (fun v _ => cv_cat ad v)
  obtain ⟨hx, hbc, hr, hml, hown, hts, hlk, hnm, hRc, hA, hK, hRO, hNW⟩ := id hC
  refine va_copyi (D := D) (ty := .int) hx hbc (by rw [hml, hR.2.2.2.1.1]) hown (hts _ (gin hw rfl)) (hts _ (gin hw2 rfl)) (hts _ (gin hw3 rfl)) (hts _ (gin hw4 rfl)) hK hR.1 hR.2.1 hR.2.2.1 a b 0 0 ((wS_get ha).trans (by rw [cE_i hKa])) ((wS_get hb).trans (by rw [cE_i hKb])) rfl rfl rfl (by rw [h1]; exact nI_pos (by omega)) (by rw [h2]; exact nI_pos (by omega)) (by rw [h3]; exact nI_pos (by omega)) (by rw [e1, e3]; exact ha9) (by rw [e2, e3]; exact hb9) (fun i _ => rfl) (by rw [hRc]; exact hfr) (by rw [hRc, es]; omega) hd (fun H1 locs1 hP hD hS => ?_)
  rw [e1, e2, e3] at hP hD
  have e9 : (wS tc ad Z I L).set b (ad b, .inl (tc.1, zL Z b, .inl (va_cpy (I a) (I b) sp' dp' n'))) = wS tc ad Z (upR I b (va_cpy (I a) (I b) sp' dp' n')) L := wS_set hb rfl (by rw [cE_i hKb, upR_s]) (fun q _ hne => cE_uI hne)
  rw [e9] at hP hD
  exact k p e R s m args below meth c D tc A ad0 n0 hC ad H1 locs1 ls ⟨hP, hD, hS, hR.2.2.2⟩
end JA
