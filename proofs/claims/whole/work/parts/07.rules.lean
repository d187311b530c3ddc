theorem j_iconst {g : GT} {μ : MT} {Rc : Room} {Qf : QF} {pc : Nat} {lv : List (Nat × Value)} {st : List Value} {uc us : Nat} {Z : ZT} {I : IT} {L : LT} {n : Int} {v : Int32} (hd : decode μ.2.1 pc = .ok (.iconst n, 1)) (hv : Int32.ofInt n = v) (k : JW g μ Rc Qf (pc + 1) lv (.int v :: st) uc us Z I L) : JW g μ Rc Qf pc lv st uc us Z I L := by
  intro p e R s m args below meth c D tc A ad0 n0 hC ad H locs ls hR
  exact lv_iconst hC.1 hC.2.1 hd hv (k p e R s m args below meth c D tc A ad0 n0 hC ad H locs ls hR)
theorem j_bipush {g : GT} {μ : MT} {Rc : Room} {Qf : QF} {pc : Nat} {lv : List (Nat × Value)} {st : List Value} {uc us : Nat} {Z : ZT} {I : IT} {L : LT} {n : Int} {v : Int32} (hd : decode μ.2.1 pc = .ok (.bipush n, 2)) (hv : (Int8.ofInt n).toInt32 = v) (k : JW g μ Rc Qf (pc + 2) lv (.int v :: st) uc us Z I L) : JW g μ Rc Qf pc lv st uc us Z I L := by
  intro p e R s m args below meth c D tc A ad0 n0 hC ad H locs ls hR
  exact lv_bipush hC.1 hC.2.1 hd hv (k p e R s m args below meth c D tc A ad0 n0 hC ad H locs ls hR)
theorem j_sipush {g : GT} {μ : MT} {Rc : Room} {Qf : QF} {pc : Nat} {lv : List (Nat × Value)} {st : List Value} {uc us : Nat} {Z : ZT} {I : IT} {L : LT} {n : Int} {v : Int32} (hd : decode μ.2.1 pc = .ok (.sipush n, 3)) (hv : (Int16.ofInt n).toInt32 = v) (k : JW g μ Rc Qf (pc + 3) lv (.int v :: st) uc us Z I L) : JW g μ Rc Qf pc lv st uc us Z I L := by
  intro p e R s m args below meth c D tc A ad0 n0 hC ad H locs ls hR
  exact lv_sipush hC.1 hC.2.1 hd hv (k p e R s m args below meth c D tc A ad0 n0 hC ad H locs ls hR)
theorem j_lconst {g : GT} {μ : MT} {Rc : Room} {Qf : QF} {pc : Nat} {lv : List (Nat × Value)} {st : List Value} {uc us : Nat} {Z : ZT} {I : IT} {L : LT} {n : Fin 2} {v : Int64} (hd : decode μ.2.1 pc = .ok (.lconst n, 1)) (hv : Int64.ofNat (n : Nat) = v) (k : JW g μ Rc Qf (pc + 1) lv (.long v :: st) uc us Z I L) : JW g μ Rc Qf pc lv st uc us Z I L := by
  intro p e R s m args below meth c D tc A ad0 n0 hC ad H locs ls hR
  exact lv_lconst hC.1 hC.2.1 hd hv (k p e R s m args below meth c D tc A ad0 n0 hC ad H locs ls hR)
theorem j_ldc {g : GT} {μ : MT} {Rc : Room} {Qf : QF} {pc : Nat} {lv : List (Nat × Value)} {st : List Value} {uc us : Nat} {Z : ZT} {I : IT} {L : LT} {idx : Nat} {v : Int32} (hd : decode μ.2.1 pc = .ok (.ldc idx, 2)) (hw : Cond.constant μ.1.cls idx v ∈ lw_tbl) (k : JW g μ Rc Qf (pc + 2) lv (.int v :: st) uc us Z I L) : JW g μ Rc Qf pc lv st uc us Z I L := by
  intro p e R s m args below meth c D tc A ad0 n0 hC ad H locs ls hR
  exact lv_ldc hC.1 hC.2.1 hC.2.2.2.2.1 (hC.2.2.2.2.2.1 _ (gin hw rfl)) hd (k p e R s m args below meth c D tc A ad0 n0 hC ad H locs ls hR)
theorem j_ldcw {g : GT} {μ : MT} {Rc : Room} {Qf : QF} {pc : Nat} {lv : List (Nat × Value)} {st : List Value} {uc us : Nat} {Z : ZT} {I : IT} {L : LT} {idx : Nat} {v : Int32} (hd : decode μ.2.1 pc = .ok (.ldc_w idx, 3)) (hw : Cond.constant μ.1.cls idx v ∈ lw_tbl) (k : JW g μ Rc Qf (pc + 3) lv (.int v :: st) uc us Z I L) : JW g μ Rc Qf pc lv st uc us Z I L := by
  intro p e R s m args below meth c D tc A ad0 n0 hC ad H locs ls hR
  exact lv_ldcw hC.1 hC.2.1 hC.2.2.2.2.1 (hC.2.2.2.2.2.1 _ (gin hw rfl)) hd (k p e R s m args below meth c D tc A ad0 n0 hC ad H locs ls hR)
theorem j_ldc2 {g : GT} {μ : MT} {Rc : Room} {Qf : QF} {pc : Nat} {lv : List (Nat × Value)} {st : List Value} {uc us : Nat} {Z : ZT} {I : IT} {L : LT} {idx : Nat} {v : Int64} (hd : decode μ.2.1 pc = .ok (.ldc2_w idx, 3)) (hw : Cond.constantLong μ.1.cls idx v ∈ lw_tbl) (k : JW g μ Rc Qf (pc + 3) lv (.long v :: st) uc us Z I L) : JW g μ Rc Qf pc lv st uc us Z I L := by
  intro p e R s m args below meth c D tc A ad0 n0 hC ad H locs ls hR
  exact lv_ldc2 hC.1 hC.2.1 hC.2.2.2.2.1 (hC.2.2.2.2.2.1 _ (gin hw rfl)) hd (k p e R s m args below meth c D tc A ad0 n0 hC ad H locs ls hR)
theorem j_iload_n {g : GT} {μ : MT} {Rc : Room} {Qf : QF} {pc : Nat} {lv : List (Nat × Value)} {st : List Value} {uc us : Nat} {Z : ZT} {I : IT} {L : LT} {n : Fin 4} {x : Int32} (j : Nat) (hd : decode μ.2.1 pc = .ok (.iload_n n, 1)) (hl : lv[j]? = some ((n : Nat), .int x)) (k : JW g μ Rc Qf (pc + 1) lv (.int x :: st) uc us Z I L) : JW g μ Rc Qf pc lv st uc us Z I L := by
  intro p e R s m args below meth c D tc A ad0 n0 hC ad H locs ls hR
  exact lv_iload_n hC.1 hC.2.1 hd rfl (lv_at hR.2.2.2.1 j (lvc_get hl)) (k p e R s m args below meth c D tc A ad0 n0 hC ad H locs ls hR)
theorem j_iload {g : GT} {μ : MT} {Rc : Room} {Qf : QF} {pc : Nat} {lv : List (Nat × Value)} {st : List Value} {uc us : Nat} {Z : ZT} {I : IT} {L : LT} {i : Nat} {x : Int32} (j : Nat) (hd : decode μ.2.1 pc = .ok (.iload i, 2)) (hl : lv[j]? = some (i, .int x)) (k : JW g μ Rc Qf (pc + 2) lv (.int x :: st) uc us Z I L) : JW g μ Rc Qf pc lv st uc us Z I L := by
  intro p e R s m args below meth c D tc A ad0 n0 hC ad H locs ls hR
  exact lv_iload hC.1 hC.2.1 hd (lv_at hR.2.2.2.1 j (lvc_get hl)) (k p e R s m args below meth c D tc A ad0 n0 hC ad H locs ls hR)
theorem j_lload_n {g : GT} {μ : MT} {Rc : Room} {Qf : QF} {pc : Nat} {lv : List (Nat × Value)} {st : List Value} {uc us : Nat} {Z : ZT} {I : IT} {L : LT} {n : Fin 4} {x : Int64} (j : Nat) (hd : decode μ.2.1 pc = .ok (.lload_n n, 1)) (hl : lv[j]? = some ((n : Nat), .long x)) (k : JW g μ Rc Qf (pc + 1) lv (.long x :: st) uc us Z I L) : JW g μ Rc Qf pc lv st uc us Z I L := by
  intro p e R s m args below meth c D tc A ad0 n0 hC ad H locs ls hR
  exact lv_lload_n hC.1 hC.2.1 hd rfl (lv_at hR.2.2.2.1 j (lvc_get hl)) (k p e R s m args below meth c D tc A ad0 n0 hC ad H locs ls hR)
theorem j_lload {g : GT} {μ : MT} {Rc : Room} {Qf : QF} {pc : Nat} {lv : List (Nat × Value)} {st : List Value} {uc us : Nat} {Z : ZT} {I : IT} {L : LT} {i : Nat} {x : Int64} (j : Nat) (hd : decode μ.2.1 pc = .ok (.lload i, 2)) (hl : lv[j]? = some (i, .long x)) (k : JW g μ Rc Qf (pc + 2) lv (.long x :: st) uc us Z I L) : JW g μ Rc Qf pc lv st uc us Z I L := by
  intro p e R s m args below meth c D tc A ad0 n0 hC ad H locs ls hR
  exact lv_lload hC.1 hC.2.1 hd (lv_at hR.2.2.2.1 j (lvc_get hl)) (k p e R s m args below meth c D tc A ad0 n0 hC ad H locs ls hR)
theorem j_aload_n {g : GT} {μ : MT} {Rc : Room} {Qf : QF} {pc : Nat} {lv : List (Nat × Value)} {st : List Value} {uc us : Nat} {Z : ZT} {I : IT} {L : LT} {n : Fin 4} {x : Nat} (j : Nat) (hd : decode μ.2.1 pc = .ok (.aload_n n, 1)) (hl : lv[j]? = some ((n : Nat), .ref x)) (k : JW g μ Rc Qf (pc + 1) lv (.ref x :: st) uc us Z I L) : JW g μ Rc Qf pc lv st uc us Z I L := by
  intro p e R s m args below meth c D tc A ad0 n0 hC ad H locs ls hR
  exact lv_aload_n hC.1 hC.2.1 hd rfl (lv_at hR.2.2.2.1 j (lvc_get hl)) (k p e R s m args below meth c D tc A ad0 n0 hC ad H locs ls hR)
theorem j_aload {g : GT} {μ : MT} {Rc : Room} {Qf : QF} {pc : Nat} {lv : List (Nat × Value)} {st : List Value} {uc us : Nat} {Z : ZT} {I : IT} {L : LT} {i : Nat} {x : Nat} (j : Nat) (hd : decode μ.2.1 pc = .ok (.aload i, 2)) (hl : lv[j]? = some (i, .ref x)) (k : JW g μ Rc Qf (pc + 2) lv (.ref x :: st) uc us Z I L) : JW g μ Rc Qf pc lv st uc us Z I L := by
  intro p e R s m args below meth c D tc A ad0 n0 hC ad H locs ls hR
  exact lv_aload hC.1 hC.2.1 hd (lv_at hR.2.2.2.1 j (lvc_get hl)) (k p e R s m args below meth c D tc A ad0 n0 hC ad H locs ls hR)
theorem j_istore_n {g : GT} {μ : MT} {Rc : Room} {Qf : QF} {pc : Nat} {lv : List (Nat × Value)} {st : List Value} {uc us : Nat} {Z : ZT} {I : IT} {L : LT} {n : Fin 4} {x : Int32} {lv' : List (Nat × Value)} (hd : decode μ.2.1 pc = .ok (.istore_n n, 1)) (hl : ((n : Nat), .int x) :: lv.filter (fun q => !(q.1 == (n : Nat)) && !(q.1 + 1 == (n : Nat) && q.2.category == 2)) = lv') (k : JW g μ Rc Qf (pc + 1) lv' st uc us Z I L) (hn : (n : Nat) < μ.2.2.1 := by decide) : JW g μ Rc Qf pc lv (.int x :: st) uc us Z I L := by
  intro p e R s m args below meth c D tc A ad0 n0 hC ad H locs ls hR
  refine lv_istore_n hC.1 hC.2.1 hd rfl hR.2.2.2.1 hn rfl (fun ls' hl' => ?_)
  have e9 : (((n : Nat), cv ad (.int x)) :: (lvc ad lv).filter (fun q => (fun a b => !(a == (n : Nat)) && !(a + 1 == (n : Nat) && b == 2)) q.1 q.2.category)) = lvc ad lv' := by rw [lvc_filter ad (fun a b => !(a == (n : Nat)) && !(a + 1 == (n : Nat) && b == 2)) lv, ← hl]; rfl
  have hl' : lv_has ls' μ.2.2.1 (lvc ad lv') := by rw [← e9]; exact hl'
  exact k p e R s m args below meth c D tc A ad0 n0 hC ad H locs ls' ⟨hR.1, hR.2.1, hR.2.2.1, hl', hR.2.2.2.2⟩
theorem j_istore {g : GT} {μ : MT} {Rc : Room} {Qf : QF} {pc : Nat} {lv : List (Nat × Value)} {st : List Value} {uc us : Nat} {Z : ZT} {I : IT} {L : LT} {i : Nat} {x : Int32} {lv' : List (Nat × Value)} (hd : decode μ.2.1 pc = .ok (.istore i, 2)) (hl : (i, .int x) :: lv.filter (fun q => !(q.1 == i) && !(q.1 + 1 == i && q.2.category == 2)) = lv') (k : JW g μ Rc Qf (pc + 2) lv' st uc us Z I L) (hn : i < μ.2.2.1 := by decide) : JW g μ Rc Qf pc lv (.int x :: st) uc us Z I L := by
  intro p e R s m args below meth c D tc A ad0 n0 hC ad H locs ls hR
  refine lv_istore hC.1 hC.2.1 hd hR.2.2.2.1 hn rfl (fun ls' hl' => ?_)
  have e9 : ((i, cv ad (.int x)) :: (lvc ad lv).filter (fun q => (fun a b => !(a == i) && !(a + 1 == i && b == 2)) q.1 q.2.category)) = lvc ad lv' := by rw [lvc_filter ad (fun a b => !(a == i) && !(a + 1 == i && b == 2)) lv, ← hl]; rfl
  have hl' : lv_has ls' μ.2.2.1 (lvc ad lv') := by rw [← e9]; exact hl'
  exact k p e R s m args below meth c D tc A ad0 n0 hC ad H locs ls' ⟨hR.1, hR.2.1, hR.2.2.1, hl', hR.2.2.2.2⟩
theorem j_lstore_n {g : GT} {μ : MT} {Rc : Room} {Qf : QF} {pc : Nat} {lv : List (Nat × Value)} {st : List Value} {uc us : Nat} {Z : ZT} {I : IT} {L : LT} {n : Fin 4} {x : Int64} {lv' : List (Nat × Value)} (hd : decode μ.2.1 pc = .ok (.lstore_n n, 1)) (hl : ((n : Nat), .long x) :: lv.filter (fun q => !(q.1 == (n : Nat)) && (!(q.1 == (n : Nat) + 1) && !(q.1 + 1 == (n : Nat) && q.2.category == 2))) = lv') (k : JW g μ Rc Qf (pc + 1) lv' st uc us Z I L) (hn : (n : Nat) + 1 < μ.2.2.1 := by decide) : JW g μ Rc Qf pc lv (.long x :: st) uc us Z I L := by
  intro p e R s m args below meth c D tc A ad0 n0 hC ad H locs ls hR
  refine lv_lstore_n hC.1 hC.2.1 hd rfl hR.2.2.2.1 hn rfl (fun ls' hl' => ?_)
  have e9 : (((n : Nat), cv ad (.long x)) :: (lvc ad lv).filter (fun q => (fun a b => !(a == (n : Nat)) && (!(a == (n : Nat) + 1) && !(a + 1 == (n : Nat) && b == 2))) q.1 q.2.category)) = lvc ad lv' := by rw [lvc_filter ad (fun a b => !(a == (n : Nat)) && (!(a == (n : Nat) + 1) && !(a + 1 == (n : Nat) && b == 2))) lv, ← hl]; rfl
  have hl' : lv_has ls' μ.2.2.1 (lvc ad lv') := by rw [← e9]; exact hl'
  exact k p e R s m args below meth c D tc A ad0 n0 hC ad H locs ls' ⟨hR.1, hR.2.1, hR.2.2.1, hl', hR.2.2.2.2⟩
theorem j_lstore {g : GT} {μ : MT} {Rc : Room} {Qf : QF} {pc : Nat} {lv : List (Nat × Value)} {st : List Value} {uc us : Nat} {Z : ZT} {I : IT} {L : LT} {i : Nat} {x : Int64} {lv' : List (Nat × Value)} (hd : decode μ.2.1 pc = .ok (.lstore i, 2)) (hl : (i, .long x) :: lv.filter (fun q => !(q.1 == i) && (!(q.1 == i + 1) && !(q.1 + 1 == i && q.2.category == 2))) = lv') (k : JW g μ Rc Qf (pc + 2) lv' st uc us Z I L) (hn : i + 1 < μ.2.2.1 := by decide) : JW g μ Rc Qf pc lv (.long x :: st) uc us Z I L := by
  intro p e R s m args below meth c D tc A ad0 n0 hC ad H locs ls hR
  refine lv_lstore hC.1 hC.2.1 hd hR.2.2.2.1 hn rfl (fun ls' hl' => ?_)
  have e9 : ((i, cv ad (.long x)) :: (lvc ad lv).filter (fun q => (fun a b => !(a == i) && (!(a == i + 1) && !(a + 1 == i && b == 2))) q.1 q.2.category)) = lvc ad lv' := by rw [lvc_filter ad (fun a b => !(a == i) && (!(a == i + 1) && !(a + 1 == i && b == 2))) lv, ← hl]; rfl
  have hl' : lv_has ls' μ.2.2.1 (lvc ad lv') := by rw [← e9]; exact hl'
  exact k p e R s m args below meth c D tc A ad0 n0 hC ad H locs ls' ⟨hR.1, hR.2.1, hR.2.2.1, hl', hR.2.2.2.2⟩
theorem j_astore_n {g : GT} {μ : MT} {Rc : Room} {Qf : QF} {pc : Nat} {lv : List (Nat × Value)} {st : List Value} {uc us : Nat} {Z : ZT} {I : IT} {L : LT} {n : Fin 4} {x : Nat} {lv' : List (Nat × Value)} (hd : decode μ.2.1 pc = .ok (.astore_n n, 1)) (hl : ((n : Nat), .ref x) :: lv.filter (fun q => !(q.1 == (n : Nat)) && !(q.1 + 1 == (n : Nat) && q.2.category == 2)) = lv') (k : JW g μ Rc Qf (pc + 1) lv' st uc us Z I L) (hn : (n : Nat) < μ.2.2.1 := by decide) : JW g μ Rc Qf pc lv (.ref x :: st) uc us Z I L := by
  intro p e R s m args below meth c D tc A ad0 n0 hC ad H locs ls hR
  refine lv_astore_n hC.1 hC.2.1 hd rfl hR.2.2.2.1 hn rfl (fun ls' hl' => ?_)
  have e9 : (((n : Nat), cv ad (.ref x)) :: (lvc ad lv).filter (fun q => (fun a b => !(a == (n : Nat)) && !(a + 1 == (n : Nat) && b == 2)) q.1 q.2.category)) = lvc ad lv' := by rw [lvc_filter ad (fun a b => !(a == (n : Nat)) && !(a + 1 == (n : Nat) && b == 2)) lv, ← hl]; rfl
  have hl' : lv_has ls' μ.2.2.1 (lvc ad lv') := by rw [← e9]; exact hl'
  exact k p e R s m args below meth c D tc A ad0 n0 hC ad H locs ls' ⟨hR.1, hR.2.1, hR.2.2.1, hl', hR.2.2.2.2⟩
theorem j_astore {g : GT} {μ : MT} {Rc : Room} {Qf : QF} {pc : Nat} {lv : List (Nat × Value)} {st : List Value} {uc us : Nat} {Z : ZT} {I : IT} {L : LT} {i : Nat} {x : Nat} {lv' : List (Nat × Value)} (hd : decode μ.2.1 pc = .ok (.astore i, 2)) (hl : (i, .ref x) :: lv.filter (fun q => !(q.1 == i) && !(q.1 + 1 == i && q.2.category == 2)) = lv') (k : JW g μ Rc Qf (pc + 2) lv' st uc us Z I L) (hn : i < μ.2.2.1 := by decide) : JW g μ Rc Qf pc lv (.ref x :: st) uc us Z I L := by
  intro p e R s m args below meth c D tc A ad0 n0 hC ad H locs ls hR
  refine lv_astore hC.1 hC.2.1 hd hR.2.2.2.1 hn rfl (fun ls' hl' => ?_)
  have e9 : ((i, cv ad (.ref x)) :: (lvc ad lv).filter (fun q => (fun a b => !(a == i) && !(a + 1 == i && b == 2)) q.1 q.2.category)) = lvc ad lv' := by rw [lvc_filter ad (fun a b => !(a == i) && !(a + 1 == i && b == 2)) lv, ← hl]; rfl
  have hl' : lv_has ls' μ.2.2.1 (lvc ad lv') := by rw [← e9]; exact hl'
  exact k p e R s m args below meth c D tc A ad0 n0 hC ad H locs ls' ⟨hR.1, hR.2.1, hR.2.2.1, hl', hR.2.2.2.2⟩
theorem j_iinc {g : GT} {μ : MT} {Rc : Room} {Qf : QF} {pc : Nat} {lv : List (Nat × Value)} {st : List Value} {uc us : Nat} {Z : ZT} {I : IT} {L : LT} {i : Nat} {n : Int} {x y : Int32} {lv' : List (Nat × Value)} (j : Nat) (hd : decode μ.2.1 pc = .ok (.iinc i n, 3)) (hj : lv[j]? = some (i, .int x)) (hv : Int32.ofInt n = y) (hl : (i, .int (x + y)) :: lv.filter (fun q => !(q.1 == i) && !(q.1 + 1 == i && q.2.category == 2)) = lv') (k : JW g μ Rc Qf (pc + 3) lv' st uc us Z I L) (hn : i < μ.2.2.1 := by decide) : JW g μ Rc Qf pc lv st uc us Z I L := by
  intro p e R s m args below meth c D tc A ad0 n0 hC ad H locs ls hR
  refine lv_iinc (v := x + y) hC.1 hC.2.1 hd hR.2.2.2.1 (k := j) (lvc_get hj) (by rw [hv]) hn rfl (fun ls' hl' => ?_)
  have e9 : ((i, cv ad (.int (x + y))) :: (lvc ad lv).filter (fun q => (fun a b => !(a == i) && !(a + 1 == i && b == 2)) q.1 q.2.category)) = lvc ad lv' := by rw [lvc_filter ad (fun a b => !(a == i) && !(a + 1 == i && b == 2)) lv, ← hl]; rfl
  have hl' : lv_has ls' μ.2.2.1 (lvc ad lv') := by rw [← e9]; exact hl'
  exact k p e R s m args below meth c D tc A ad0 n0 hC ad H locs ls' ⟨hR.1, hR.2.1, hR.2.2.1, hl', hR.2.2.2.2⟩
theorem j_iadd {g : GT} {μ : MT} {Rc : Room} {Qf : QF} {pc : Nat} {lv : List (Nat × Value)} {st : List Value} {uc us : Nat} {Z : ZT} {I : IT} {L : LT} {x y : Int32} (hd : decode μ.2.1 pc = .ok (.iadd, 1)) (k : JW g μ Rc Qf (pc + 1) lv (.int (x + y) :: st) uc us Z I L) : JW g μ Rc Qf pc lv (.int y :: .int x :: st) uc us Z I L := by
  intro p e R s m args below meth c D tc A ad0 n0 hC ad H locs ls hR
  exact lv_iadd hC.1 hC.2.1 hd (k p e R s m args below meth c D tc A ad0 n0 hC ad H locs ls hR)
theorem j_isub {g : GT} {μ : MT} {Rc : Room} {Qf : QF} {pc : Nat} {lv : List (Nat × Value)} {st : List Value} {uc us : Nat} {Z : ZT} {I : IT} {L : LT} {x y : Int32} (hd : decode μ.2.1 pc = .ok (.isub, 1)) (k : JW g μ Rc Qf (pc + 1) lv (.int (x - y) :: st) uc us Z I L) : JW g μ Rc Qf pc lv (.int y :: .int x :: st) uc us Z I L := by
  intro p e R s m args below meth c D tc A ad0 n0 hC ad H locs ls hR
  exact lv_isub hC.1 hC.2.1 hd (k p e R s m args below meth c D tc A ad0 n0 hC ad H locs ls hR)
theorem j_imul {g : GT} {μ : MT} {Rc : Room} {Qf : QF} {pc : Nat} {lv : List (Nat × Value)} {st : List Value} {uc us : Nat} {Z : ZT} {I : IT} {L : LT} {x y : Int32} (hd : decode μ.2.1 pc = .ok (.imul, 1)) (k : JW g μ Rc Qf (pc + 1) lv (.int (x * y) :: st) uc us Z I L) : JW g μ Rc Qf pc lv (.int y :: .int x :: st) uc us Z I L := by
  intro p e R s m args below meth c D tc A ad0 n0 hC ad H locs ls hR
  exact lv_imul hC.1 hC.2.1 hd (k p e R s m args below meth c D tc A ad0 n0 hC ad H locs ls hR)
theorem j_iand {g : GT} {μ : MT} {Rc : Room} {Qf : QF} {pc : Nat} {lv : List (Nat × Value)} {st : List Value} {uc us : Nat} {Z : ZT} {I : IT} {L : LT} {x y : Int32} (hd : decode μ.2.1 pc = .ok (.iand, 1)) (k : JW g μ Rc Qf (pc + 1) lv (.int (x &&& y) :: st) uc us Z I L) : JW g μ Rc Qf pc lv (.int y :: .int x :: st) uc us Z I L := by
  intro p e R s m args below meth c D tc A ad0 n0 hC ad H locs ls hR
  exact lv_iand hC.1 hC.2.1 hd (k p e R s m args below meth c D tc A ad0 n0 hC ad H locs ls hR)
theorem j_ior {g : GT} {μ : MT} {Rc : Room} {Qf : QF} {pc : Nat} {lv : List (Nat × Value)} {st : List Value} {uc us : Nat} {Z : ZT} {I : IT} {L : LT} {x y : Int32} (hd : decode μ.2.1 pc = .ok (.ior, 1)) (k : JW g μ Rc Qf (pc + 1) lv (.int (x ||| y) :: st) uc us Z I L) : JW g μ Rc Qf pc lv (.int y :: .int x :: st) uc us Z I L := by
  intro p e R s m args below meth c D tc A ad0 n0 hC ad H locs ls hR
  exact lv_ior hC.1 hC.2.1 hd (k p e R s m args below meth c D tc A ad0 n0 hC ad H locs ls hR)
theorem j_ixor {g : GT} {μ : MT} {Rc : Room} {Qf : QF} {pc : Nat} {lv : List (Nat × Value)} {st : List Value} {uc us : Nat} {Z : ZT} {I : IT} {L : LT} {x y : Int32} (hd : decode μ.2.1 pc = .ok (.ixor, 1)) (k : JW g μ Rc Qf (pc + 1) lv (.int (x ^^^ y) :: st) uc us Z I L) : JW g μ Rc Qf pc lv (.int y :: .int x :: st) uc us Z I L := by
  intro p e R s m args below meth c D tc A ad0 n0 hC ad H locs ls hR
  exact lv_ixor hC.1 hC.2.1 hd (k p e R s m args below meth c D tc A ad0 n0 hC ad H locs ls hR)
theorem j_ishl {g : GT} {μ : MT} {Rc : Room} {Qf : QF} {pc : Nat} {lv : List (Nat × Value)} {st : List Value} {uc us : Nat} {Z : ZT} {I : IT} {L : LT} {x y : Int32} (hd : decode μ.2.1 pc = .ok (.ishl, 1)) (k : JW g μ Rc Qf (pc + 1) lv (.int (x <<< (y &&& 31)) :: st) uc us Z I L) : JW g μ Rc Qf pc lv (.int y :: .int x :: st) uc us Z I L := by
  intro p e R s m args below meth c D tc A ad0 n0 hC ad H locs ls hR
  exact lv_ishl hC.1 hC.2.1 hd (k p e R s m args below meth c D tc A ad0 n0 hC ad H locs ls hR)
theorem j_ishr {g : GT} {μ : MT} {Rc : Room} {Qf : QF} {pc : Nat} {lv : List (Nat × Value)} {st : List Value} {uc us : Nat} {Z : ZT} {I : IT} {L : LT} {x y : Int32} (hd : decode μ.2.1 pc = .ok (.ishr, 1)) (k : JW g μ Rc Qf (pc + 1) lv (.int (x >>> (y &&& 31)) :: st) uc us Z I L) : JW g μ Rc Qf pc lv (.int y :: .int x :: st) uc us Z I L := by
  intro p e R s m args below meth c D tc A ad0 n0 hC ad H locs ls hR
  exact lv_ishr hC.1 hC.2.1 hd (k p e R s m args below meth c D tc A ad0 n0 hC ad H locs ls hR)
theorem j_iushr {g : GT} {μ : MT} {Rc : Room} {Qf : QF} {pc : Nat} {lv : List (Nat × Value)} {st : List Value} {uc us : Nat} {Z : ZT} {I : IT} {L : LT} {x y : Int32} (hd : decode μ.2.1 pc = .ok (.iushr, 1)) (k : JW g μ Rc Qf (pc + 1) lv (.int ((x.toUInt32 >>> (y.toUInt32 &&& Int32.toUInt32 31)).toInt32) :: st) uc us Z I L) : JW g μ Rc Qf pc lv (.int y :: .int x :: st) uc us Z I L := by
  intro p e R s m args below meth c D tc A ad0 n0 hC ad H locs ls hR
  exact lv_iushr hC.1 hC.2.1 hd rfl (k p e R s m args below meth c D tc A ad0 n0 hC ad H locs ls hR)
theorem j_idiv {g : GT} {μ : MT} {Rc : Room} {Qf : QF} {pc : Nat} {lv : List (Nat × Value)} {st : List Value} {uc us : Nat} {Z : ZT} {I : IT} {L : LT} {x y : Int32} (hd : decode μ.2.1 pc = .ok (.idiv, 1)) (hne : ¬ y = 0) (k : JW g μ Rc Qf (pc + 1) lv (.int (x / y) :: st) uc us Z I L) : JW g μ Rc Qf pc lv (.int y :: .int x :: st) uc us Z I L := by
  intro p e R s m args below meth c D tc A ad0 n0 hC ad H locs ls hR
  exact lv_idiv hC.1 hC.2.1 hd hne (k p e R s m args below meth c D tc A ad0 n0 hC ad H locs ls hR)
theorem j_irem {g : GT} {μ : MT} {Rc : Room} {Qf : QF} {pc : Nat} {lv : List (Nat × Value)} {st : List Value} {uc us : Nat} {Z : ZT} {I : IT} {L : LT} {x y : Int32} (hd : decode μ.2.1 pc = .ok (.irem, 1)) (hne : ¬ y = 0) (k : JW g μ Rc Qf (pc + 1) lv (.int (x - x / y * y) :: st) uc us Z I L) : JW g μ Rc Qf pc lv (.int y :: .int x :: st) uc us Z I L := by
  intro p e R s m args below meth c D tc A ad0 n0 hC ad H locs ls hR
  exact lv_irem hC.1 hC.2.1 hd hne (k p e R s m args below meth c D tc A ad0 n0 hC ad H locs ls hR)
theorem j_ineg {g : GT} {μ : MT} {Rc : Room} {Qf : QF} {pc : Nat} {lv : List (Nat × Value)} {st : List Value} {uc us : Nat} {Z : ZT} {I : IT} {L : LT} {x : Int32} (hd : decode μ.2.1 pc = .ok (.ineg, 1)) (k : JW g μ Rc Qf (pc + 1) lv (.int (-x) :: st) uc us Z I L) : JW g μ Rc Qf pc lv (.int x :: st) uc us Z I L := by
  intro p e R s m args below meth c D tc A ad0 n0 hC ad H locs ls hR
  exact lv_ineg hC.1 hC.2.1 hd (k p e R s m args below meth c D tc A ad0 n0 hC ad H locs ls hR)
theorem j_ladd {g : GT} {μ : MT} {Rc : Room} {Qf : QF} {pc : Nat} {lv : List (Nat × Value)} {st : List Value} {uc us : Nat} {Z : ZT} {I : IT} {L : LT} {x y : Int64} (hd : decode μ.2.1 pc = .ok (.ladd, 1)) (k : JW g μ Rc Qf (pc + 1) lv (.long (x + y) :: st) uc us Z I L) : JW g μ Rc Qf pc lv (.long y :: .long x :: st) uc us Z I L := by
  intro p e R s m args below meth c D tc A ad0 n0 hC ad H locs ls hR
  exact lv_ladd hC.1 hC.2.1 hd (k p e R s m args below meth c D tc A ad0 n0 hC ad H locs ls hR)
theorem j_lsub {g : GT} {μ : MT} {Rc : Room} {Qf : QF} {pc : Nat} {lv : List (Nat × Value)} {st : List Value} {uc us : Nat} {Z : ZT} {I : IT} {L : LT} {x y : Int64} (hd : decode μ.2.1 pc = .ok (.lsub, 1)) (k : JW g μ Rc Qf (pc + 1) lv (.long (x - y) :: st) uc us Z I L) : JW g μ Rc Qf pc lv (.long y :: .long x :: st) uc us Z I L := by
  intro p e R s m args below meth c D tc A ad0 n0 hC ad H locs ls hR
  exact lv_lsub hC.1 hC.2.1 hd (k p e R s m args below meth c D tc A ad0 n0 hC ad H locs ls hR)
theorem j_lmul {g : GT} {μ : MT} {Rc : Room} {Qf : QF} {pc : Nat} {lv : List (Nat × Value)} {st : List Value} {uc us : Nat} {Z : ZT} {I : IT} {L : LT} {x y : Int64} (hd : decode μ.2.1 pc = .ok (.lmul, 1)) (k : JW g μ Rc Qf (pc + 1) lv (.long (x * y) :: st) uc us Z I L) : JW g μ Rc Qf pc lv (.long y :: .long x :: st) uc us Z I L := by
  intro p e R s m args below meth c D tc A ad0 n0 hC ad H locs ls hR
  exact lv_lmul hC.1 hC.2.1 hd (k p e R s m args below meth c D tc A ad0 n0 hC ad H locs ls hR)
theorem j_land {g : GT} {μ : MT} {Rc : Room} {Qf : QF} {pc : Nat} {lv : List (Nat × Value)} {st : List Value} {uc us : Nat} {Z : ZT} {I : IT} {L : LT} {x y : Int64} (hd : decode μ.2.1 pc = .ok (.land, 1)) (k : JW g μ Rc Qf (pc + 1) lv (.long (x &&& y) :: st) uc us Z I L) : JW g μ Rc Qf pc lv (.long y :: .long x :: st) uc us Z I L := by
  intro p e R s m args below meth c D tc A ad0 n0 hC ad H locs ls hR
  exact lv_land hC.1 hC.2.1 hd (k p e R s m args below meth c D tc A ad0 n0 hC ad H locs ls hR)
theorem j_lor {g : GT} {μ : MT} {Rc : Room} {Qf : QF} {pc : Nat} {lv : List (Nat × Value)} {st : List Value} {uc us : Nat} {Z : ZT} {I : IT} {L : LT} {x y : Int64} (hd : decode μ.2.1 pc = .ok (.lor, 1)) (k : JW g μ Rc Qf (pc + 1) lv (.long (x ||| y) :: st) uc us Z I L) : JW g μ Rc Qf pc lv (.long y :: .long x :: st) uc us Z I L := by
  intro p e R s m args below meth c D tc A ad0 n0 hC ad H locs ls hR
  exact lv_lor hC.1 hC.2.1 hd (k p e R s m args below meth c D tc A ad0 n0 hC ad H locs ls hR)
theorem j_lxor {g : GT} {μ : MT} {Rc : Room} {Qf : QF} {pc : Nat} {lv : List (Nat × Value)} {st : List Value} {uc us : Nat} {Z : ZT} {I : IT} {L : LT} {x y : Int64} (hd : decode μ.2.1 pc = .ok (.lxor, 1)) (k : JW g μ Rc Qf (pc + 1) lv (.long (x ^^^ y) :: st) uc us Z I L) : JW g μ Rc Qf pc lv (.long y :: .long x :: st) uc us Z I L := by
  intro p e R s m args below meth c D tc A ad0 n0 hC ad H locs ls hR
  exact lv_lxor hC.1 hC.2.1 hd (k p e R s m args below meth c D tc A ad0 n0 hC ad H locs ls hR)
theorem j_ldiv {g : GT} {μ : MT} {Rc : Room} {Qf : QF} {pc : Nat} {lv : List (Nat × Value)} {st : List Value} {uc us : Nat} {Z : ZT} {I : IT} {L : LT} {x y : Int64} (hd : decode μ.2.1 pc = .ok (.ldiv, 1)) (hne : ¬ y = 0) (k : JW g μ Rc Qf (pc + 1) lv (.long (x / y) :: st) uc us Z I L) : JW g μ Rc Qf pc lv (.long y :: .long x :: st) uc us Z I L := by
  intro p e R s m args below meth c D tc A ad0 n0 hC ad H locs ls hR
  exact lv_ldiv hC.1 hC.2.1 hd hne (k p e R s m args below meth c D tc A ad0 n0 hC ad H locs ls hR)
theorem j_lrem {g : GT} {μ : MT} {Rc : Room} {Qf : QF} {pc : Nat} {lv : List (Nat × Value)} {st : List Value} {uc us : Nat} {Z : ZT} {I : IT} {L : LT} {x y : Int64} (hd : decode μ.2.1 pc = .ok (.lrem, 1)) (hne : ¬ y = 0) (k : JW g μ Rc Qf (pc + 1) lv (.long (x - x / y * y) :: st) uc us Z I L) : JW g μ Rc Qf pc lv (.long y :: .long x :: st) uc us Z I L := by
  intro p e R s m args below meth c D tc A ad0 n0 hC ad H locs ls hR
  exact lv_lrem hC.1 hC.2.1 hd hne (k p e R s m args below meth c D tc A ad0 n0 hC ad H locs ls hR)
theorem j_lcmp {g : GT} {μ : MT} {Rc : Room} {Qf : QF} {pc : Nat} {lv : List (Nat × Value)} {st : List Value} {uc us : Nat} {Z : ZT} {I : IT} {L : LT} {x y : Int64} (hd : decode μ.2.1 pc = .ok (.lcmp, 1)) (k : JW g μ Rc Qf (pc + 1) lv (.int (lg_cmp x y) :: st) uc us Z I L) : JW g μ Rc Qf pc lv (.long y :: .long x :: st) uc us Z I L := by
  intro p e R s m args below meth c D tc A ad0 n0 hC ad H locs ls hR
  exact W.lcmp hC.1 hC.2.1 hd (k p e R s m args below meth c D tc A ad0 n0 hC ad H locs ls hR)
theorem j_lshl {g : GT} {μ : MT} {Rc : Room} {Qf : QF} {pc : Nat} {lv : List (Nat × Value)} {st : List Value} {uc us : Nat} {Z : ZT} {I : IT} {L : LT} {x : Int64} {y : Int32} (hd : decode μ.2.1 pc = .ok (.lshl, 1)) (k : JW g μ Rc Qf (pc + 1) lv (.long (x <<< (y.toInt64 &&& 63)) :: st) uc us Z I L) : JW g μ Rc Qf pc lv (.int y :: .long x :: st) uc us Z I L := by
  intro p e R s m args below meth c D tc A ad0 n0 hC ad H locs ls hR
  exact lv_lshl hC.1 hC.2.1 hd rfl (k p e R s m args below meth c D tc A ad0 n0 hC ad H locs ls hR)
theorem j_lshr {g : GT} {μ : MT} {Rc : Room} {Qf : QF} {pc : Nat} {lv : List (Nat × Value)} {st : List Value} {uc us : Nat} {Z : ZT} {I : IT} {L : LT} {x : Int64} {y : Int32} (hd : decode μ.2.1 pc = .ok (.lshr, 1)) (k : JW g μ Rc Qf (pc + 1) lv (.long (x >>> (y.toInt64 &&& 63)) :: st) uc us Z I L) : JW g μ Rc Qf pc lv (.int y :: .long x :: st) uc us Z I L := by
  intro p e R s m args below meth c D tc A ad0 n0 hC ad H locs ls hR
  exact lv_lshr hC.1 hC.2.1 hd rfl (k p e R s m args below meth c D tc A ad0 n0 hC ad H locs ls hR)
theorem j_lushr {g : GT} {μ : MT} {Rc : Room} {Qf : QF} {pc : Nat} {lv : List (Nat × Value)} {st : List Value} {uc us : Nat} {Z : ZT} {I : IT} {L : LT} {x : Int64} {y : Int32} (hd : decode μ.2.1 pc = .ok (.lushr, 1)) (k : JW g μ Rc Qf (pc + 1) lv (.long ((x.toUInt64 >>> (y.toInt64.toUInt64 &&& Int64.toUInt64 63)).toInt64) :: st) uc us Z I L) : JW g μ Rc Qf pc lv (.int y :: .long x :: st) uc us Z I L := by
  intro p e R s m args below meth c D tc A ad0 n0 hC ad H locs ls hR
  exact lv_lushr hC.1 hC.2.1 hd rfl (k p e R s m args below meth c D tc A ad0 n0 hC ad H locs ls hR)
theorem j_i2l {g : GT} {μ : MT} {Rc : Room} {Qf : QF} {pc : Nat} {lv : List (Nat × Value)} {st : List Value} {uc us : Nat} {Z : ZT} {I : IT} {L : LT} {x : Int32} (hd : decode μ.2.1 pc = .ok (.i2l, 1)) (k : JW g μ Rc Qf (pc + 1) lv (.long x.toInt64 :: st) uc us Z I L) : JW g μ Rc Qf pc lv (.int x :: st) uc us Z I L := by
  intro p e R s m args below meth c D tc A ad0 n0 hC ad H locs ls hR
  exact lv_i2l hC.1 hC.2.1 hd rfl (k p e R s m args below meth c D tc A ad0 n0 hC ad H locs ls hR)
theorem j_l2i {g : GT} {μ : MT} {Rc : Room} {Qf : QF} {pc : Nat} {lv : List (Nat × Value)} {st : List Value} {uc us : Nat} {Z : ZT} {I : IT} {L : LT} {x : Int64} (hd : decode μ.2.1 pc = .ok (.l2i, 1)) (k : JW g μ Rc Qf (pc + 1) lv (.int x.toInt32 :: st) uc us Z I L) : JW g μ Rc Qf pc lv (.long x :: st) uc us Z I L := by
  intro p e R s m args below meth c D tc A ad0 n0 hC ad H locs ls hR
  exact lv_l2i hC.1 hC.2.1 hd rfl (k p e R s m args below meth c D tc A ad0 n0 hC ad H locs ls hR)
theorem j_dup {g : GT} {μ : MT} {Rc : Room} {Qf : QF} {pc : Nat} {lv : List (Nat × Value)} {st : List Value} {uc us : Nat} {Z : ZT} {I : IT} {L : LT} {v : Value} (hd : decode μ.2.1 pc = .ok (.dup, 1)) (hv : v.category = 1) (k : JW g μ Rc Qf (pc + 1) lv (v :: v :: st) uc us Z I L) : JW g μ Rc Qf pc lv (v :: st) uc us Z I L := by
  intro p e R s m args below meth c D tc A ad0 n0 hC ad H locs ls hR
  exact lv_dup hC.1 hC.2.1 hd (by rw [cv_cat]; exact hv) (k p e R s m args below meth c D tc A ad0 n0 hC ad H locs ls hR)
theorem j_dup2 {g : GT} {μ : MT} {Rc : Room} {Qf : QF} {pc : Nat} {lv : List (Nat × Value)} {st : List Value} {uc us : Nat} {Z : ZT} {I : IT} {L : LT} {v w : Value} (hd : decode μ.2.1 pc = .ok (.dup2, 1)) (hv : v.category = 1) (hw : w.category = 1) (k : JW g μ Rc Qf (pc + 1) lv (v :: w :: v :: w :: st) uc us Z I L) : JW g μ Rc Qf pc lv (v :: w :: st) uc us Z I L := by
  intro p e R s m args below meth c D tc A ad0 n0 hC ad H locs ls hR
  exact lv_dup2_11 hC.1 hC.2.1 hd (by rw [cv_cat]; assumption) (by rw [cv_cat]; assumption) (k p e R s m args below meth c D tc A ad0 n0 hC ad H locs ls hR)
theorem j_pop {g : GT} {μ : MT} {Rc : Room} {Qf : QF} {pc : Nat} {lv : List (Nat × Value)} {st : List Value} {uc us : Nat} {Z : ZT} {I : IT} {L : LT} {v : Value} (hd : decode μ.2.1 pc = .ok (.pop, 1)) (hv : v.category = 1) (k : JW g μ Rc Qf (pc + 1) lv st uc us Z I L) : JW g μ Rc Qf pc lv (v :: st) uc us Z I L := by
  intro p e R s m args below meth c D tc A ad0 n0 hC ad H locs ls hR
  exact lv_pop hC.1 hC.2.1 hd (by rw [cv_cat]; exact hv) (k p e R s m args below meth c D tc A ad0 n0 hC ad H locs ls hR)
theorem j_if_eq {g : GT} {μ : MT} {Rc : Room} {Qf : QF} {pc : Nat} {lv : List (Nat × Value)} {st : List Value} {uc us : Nat} {Z : ZT} {I : IT} {L : LT} {x : Int32} {off : Int} {tgt : Nat} (hd : decode μ.2.1 pc = .ok (.ifCond .eq off, 3)) (ht : (pc : Int) + off = (tgt : Int)) (kt : x = 0 → JW g μ Rc Qf tgt lv st uc us Z I L) (kf : ¬ x = 0 → JW g μ Rc Qf (pc + 3) lv st uc us Z I L) : JW g μ Rc Qf pc lv (.int x :: st) uc us Z I L := by
  intro p e R s m args below meth c D tc A ad0 n0 hC ad H locs ls hR
  exact lv_if_eq hC.1 hC.2.1 hd ht (fun h => kt h p e R s m args below meth c D tc A ad0 n0 hC ad H locs ls hR) (fun h => kf h p e R s m args below meth c D tc A ad0 n0 hC ad H locs ls hR)
theorem j_icmp_eq {g : GT} {μ : MT} {Rc : Room} {Qf : QF} {pc : Nat} {lv : List (Nat × Value)} {st : List Value} {uc us : Nat} {Z : ZT} {I : IT} {L : LT} {x y : Int32} {off : Int} {tgt : Nat} (hd : decode μ.2.1 pc = .ok (.if_icmp .eq off, 3)) (ht : (pc : Int) + off = (tgt : Int)) (kt : x = y → JW g μ Rc Qf tgt lv st uc us Z I L) (kf : ¬ x = y → JW g μ Rc Qf (pc + 3) lv st uc us Z I L) : JW g μ Rc Qf pc lv (.int y :: .int x :: st) uc us Z I L := by
  intro p e R s m args below meth c D tc A ad0 n0 hC ad H locs ls hR
  exact lv_icmp_eq hC.1 hC.2.1 hd ht (fun h => kt h p e R s m args below meth c D tc A ad0 n0 hC ad H locs ls hR) (fun h => kf h p e R s m args below meth c D tc A ad0 n0 hC ad H locs ls hR)
theorem j_if_ne {g : GT} {μ : MT} {Rc : Room} {Qf : QF} {pc : Nat} {lv : List (Nat × Value)} {st : List Value} {uc us : Nat} {Z : ZT} {I : IT} {L : LT} {x : Int32} {off : Int} {tgt : Nat} (hd : decode μ.2.1 pc = .ok (.ifCond .ne off, 3)) (ht : (pc : Int) + off = (tgt : Int)) (kt : ¬ x = 0 → JW g μ Rc Qf tgt lv st uc us Z I L) (kf : x = 0 → JW g μ Rc Qf (pc + 3) lv st uc us Z I L) : JW g μ Rc Qf pc lv (.int x :: st) uc us Z I L := by
  intro p e R s m args below meth c D tc A ad0 n0 hC ad H locs ls hR
  exact lv_if_ne hC.1 hC.2.1 hd ht (fun h => kt h p e R s m args below meth c D tc A ad0 n0 hC ad H locs ls hR) (fun h => kf h p e R s m args below meth c D tc A ad0 n0 hC ad H locs ls hR)
theorem j_icmp_ne {g : GT} {μ : MT} {Rc : Room} {Qf : QF} {pc : Nat} {lv : List (Nat × Value)} {st : List Value} {uc us : Nat} {Z : ZT} {I : IT} {L : LT} {x y : Int32} {off : Int} {tgt : Nat} (hd : decode μ.2.1 pc = .ok (.if_icmp .ne off, 3)) (ht : (pc : Int) + off = (tgt : Int)) (kt : ¬ x = y → JW g μ Rc Qf tgt lv st uc us Z I L) (kf : x = y → JW g μ Rc Qf (pc + 3) lv st uc us Z I L) : JW g μ Rc Qf pc lv (.int y :: .int x :: st) uc us Z I L := by
  intro p e R s m args below meth c D tc A ad0 n0 hC ad H locs ls hR
  exact lv_icmp_ne hC.1 hC.2.1 hd ht (fun h => kt h p e R s m args below meth c D tc A ad0 n0 hC ad H locs ls hR) (fun h => kf h p e R s m args below meth c D tc A ad0 n0 hC ad H locs ls hR)
theorem j_if_lt {g : GT} {μ : MT} {Rc : Room} {Qf : QF} {pc : Nat} {lv : List (Nat × Value)} {st : List Value} {uc us : Nat} {Z : ZT} {I : IT} {L : LT} {x : Int32} {off : Int} {tgt : Nat} (hd : decode μ.2.1 pc = .ok (.ifCond .lt off, 3)) (ht : (pc : Int) + off = (tgt : Int)) (kt : x < 0 → JW g μ Rc Qf tgt lv st uc us Z I L) (kf : ¬ x < 0 → JW g μ Rc Qf (pc + 3) lv st uc us Z I L) : JW g μ Rc Qf pc lv (.int x :: st) uc us Z I L := by
  intro p e R s m args below meth c D tc A ad0 n0 hC ad H locs ls hR
  exact lv_if_lt hC.1 hC.2.1 hd ht (fun h => kt h p e R s m args below meth c D tc A ad0 n0 hC ad H locs ls hR) (fun h => kf h p e R s m args below meth c D tc A ad0 n0 hC ad H locs ls hR)
theorem j_icmp_lt {g : GT} {μ : MT} {Rc : Room} {Qf : QF} {pc : Nat} {lv : List (Nat × Value)} {st : List Value} {uc us : Nat} {Z : ZT} {I : IT} {L : LT} {x y : Int32} {off : Int} {tgt : Nat} (hd : decode μ.2.1 pc = .ok (.if_icmp .lt off, 3)) (ht : (pc : Int) + off = (tgt : Int)) (kt : x < y → JW g μ Rc Qf tgt lv st uc us Z I L) (kf : ¬ x < y → JW g μ Rc Qf (pc + 3) lv st uc us Z I L) : JW g μ Rc Qf pc lv (.int y :: .int x :: st) uc us Z I L := by
  intro p e R s m args below meth c D tc A ad0 n0 hC ad H locs ls hR
  exact lv_icmp_lt hC.1 hC.2.1 hd ht (fun h => kt h p e R s m args below meth c D tc A ad0 n0 hC ad H locs ls hR) (fun h => kf h p e R s m args below meth c D tc A ad0 n0 hC ad H locs ls hR)
theorem j_if_ge {g : GT} {μ : MT} {Rc : Room} {Qf : QF} {pc : Nat} {lv : List (Nat × Value)} {st : List Value} {uc us : Nat} {Z : ZT} {I : IT} {L : LT} {x : Int32} {off : Int} {tgt : Nat} (hd : decode μ.2.1 pc = .ok (.ifCond .ge off, 3)) (ht : (pc : Int) + off = (tgt : Int)) (kt : 0 ≤ x → JW g μ Rc Qf tgt lv st uc us Z I L) (kf : ¬ 0 ≤ x → JW g μ Rc Qf (pc + 3) lv st uc us Z I L) : JW g μ Rc Qf pc lv (.int x :: st) uc us Z I L := by
  intro p e R s m args below meth c D tc A ad0 n0 hC ad H locs ls hR
  exact lv_if_ge hC.1 hC.2.1 hd ht (fun h => kt h p e R s m args below meth c D tc A ad0 n0 hC ad H locs ls hR) (fun h => kf h p e R s m args below meth c D tc A ad0 n0 hC ad H locs ls hR)
theorem j_icmp_ge {g : GT} {μ : MT} {Rc : Room} {Qf : QF} {pc : Nat} {lv : List (Nat × Value)} {st : List Value} {uc us : Nat} {Z : ZT} {I : IT} {L : LT} {x y : Int32} {off : Int} {tgt : Nat} (hd : decode μ.2.1 pc = .ok (.if_icmp .ge off, 3)) (ht : (pc : Int) + off = (tgt : Int)) (kt : y ≤ x → JW g μ Rc Qf tgt lv st uc us Z I L) (kf : ¬ y ≤ x → JW g μ Rc Qf (pc + 3) lv st uc us Z I L) : JW g μ Rc Qf pc lv (.int y :: .int x :: st) uc us Z I L := by
  intro p e R s m args below meth c D tc A ad0 n0 hC ad H locs ls hR
  exact lv_icmp_ge hC.1 hC.2.1 hd ht (fun h => kt h p e R s m args below meth c D tc A ad0 n0 hC ad H locs ls hR) (fun h => kf h p e R s m args below meth c D tc A ad0 n0 hC ad H locs ls hR)
theorem j_if_gt {g : GT} {μ : MT} {Rc : Room} {Qf : QF} {pc : Nat} {lv : List (Nat × Value)} {st : List Value} {uc us : Nat} {Z : ZT} {I : IT} {L : LT} {x : Int32} {off : Int} {tgt : Nat} (hd : decode μ.2.1 pc = .ok (.ifCond .gt off, 3)) (ht : (pc : Int) + off = (tgt : Int)) (kt : 0 < x → JW g μ Rc Qf tgt lv st uc us Z I L) (kf : ¬ 0 < x → JW g μ Rc Qf (pc + 3) lv st uc us Z I L) : JW g μ Rc Qf pc lv (.int x :: st) uc us Z I L := by
  intro p e R s m args below meth c D tc A ad0 n0 hC ad H locs ls hR
  exact lv_if_gt hC.1 hC.2.1 hd ht (fun h => kt h p e R s m args below meth c D tc A ad0 n0 hC ad H locs ls hR) (fun h => kf h p e R s m args below meth c D tc A ad0 n0 hC ad H locs ls hR)
theorem j_icmp_gt {g : GT} {μ : MT} {Rc : Room} {Qf : QF} {pc : Nat} {lv : List (Nat × Value)} {st : List Value} {uc us : Nat} {Z : ZT} {I : IT} {L : LT} {x y : Int32} {off : Int} {tgt : Nat} (hd : decode μ.2.1 pc = .ok (.if_icmp .gt off, 3)) (ht : (pc : Int) + off = (tgt : Int)) (kt : y < x → JW g μ Rc Qf tgt lv st uc us Z I L) (kf : ¬ y < x → JW g μ Rc Qf (pc + 3) lv st uc us Z I L) : JW g μ Rc Qf pc lv (.int y :: .int x :: st) uc us Z I L := by
  intro p e R s m args below meth c D tc A ad0 n0 hC ad H locs ls hR
  exact lv_icmp_gt hC.1 hC.2.1 hd ht (fun h => kt h p e R s m args below meth c D tc A ad0 n0 hC ad H locs ls hR) (fun h => kf h p e R s m args below meth c D tc A ad0 n0 hC ad H locs ls hR)
theorem j_if_le {g : GT} {μ : MT} {Rc : Room} {Qf : QF} {pc : Nat} {lv : List (Nat × Value)} {st : List Value} {uc us : Nat} {Z : ZT} {I : IT} {L : LT} {x : Int32} {off : Int} {tgt : Nat} (hd : decode μ.2.1 pc = .ok (.ifCond .le off, 3)) (ht : (pc : Int) + off = (tgt : Int)) (kt : x ≤ 0 → JW g μ Rc Qf tgt lv st uc us Z I L) (kf : ¬ x ≤ 0 → JW g μ Rc Qf (pc + 3) lv st uc us Z I L) : JW g μ Rc Qf pc lv (.int x :: st) uc us Z I L := by
  intro p e R s m args below meth c D tc A ad0 n0 hC ad H locs ls hR
  exact lv_if_le hC.1 hC.2.1 hd ht (fun h => kt h p e R s m args below meth c D tc A ad0 n0 hC ad H locs ls hR) (fun h => kf h p e R s m args below meth c D tc A ad0 n0 hC ad H locs ls hR)
theorem j_icmp_le {g : GT} {μ : MT} {Rc : Room} {Qf : QF} {pc : Nat} {lv : List (Nat × Value)} {st : List Value} {uc us : Nat} {Z : ZT} {I : IT} {L : LT} {x y : Int32} {off : Int} {tgt : Nat} (hd : decode μ.2.1 pc = .ok (.if_icmp .le off, 3)) (ht : (pc : Int) + off = (tgt : Int)) (kt : x ≤ y → JW g μ Rc Qf tgt lv st uc us Z I L) (kf : ¬ x ≤ y → JW g μ Rc Qf (pc + 3) lv st uc us Z I L) : JW g μ Rc Qf pc lv (.int y :: .int x :: st) uc us Z I L := by
  intro p e R s m args below meth c D tc A ad0 n0 hC ad H locs ls hR
  exact lv_icmp_le hC.1 hC.2.1 hd ht (fun h => kt h p e R s m args below meth c D tc A ad0 n0 hC ad H locs ls hR) (fun h => kf h p e R s m args below meth c D tc A ad0 n0 hC ad H locs ls hR)
theorem j_goto {g : GT} {μ : MT} {Rc : Room} {Qf : QF} {pc : Nat} {lv : List (Nat × Value)} {st : List Value} {uc us : Nat} {Z : ZT} {I : IT} {L : LT} {off : Int} {tgt : Nat} (hd : decode μ.2.1 pc = .ok (.goto off, 3)) (ht : (pc : Int) + off = (tgt : Int)) (k : JW g μ Rc Qf tgt lv st uc us Z I L) : JW g μ Rc Qf pc lv st uc us Z I L := by
  intro p e R s m args below meth c D tc A ad0 n0 hC ad H locs ls hR
  exact lv_goto hC.1 hC.2.1 hd ht (k p e R s m args below meth c D tc A ad0 n0 hC ad H locs ls hR)
theorem j_tsIn {g : GT} {μ : MT} {Rc : Room} {Qf : QF} {pc : Nat} {lv : List (Nat × Value)} {st : List Value} {uc us : Nat} {Z : ZT} {I : IT} {L : LT} {dflt lo hi : Int} {offs : Array Int} {len : Nat} {x : Int32} {off : Int} {tgt : Nat} (hd : decode μ.2.1 pc = .ok (.tableswitch dflt lo hi offs, len)) (h1 : ¬ x.toInt < lo) (h2 : ¬ hi < x.toInt) (ho : offs[(x.toInt - lo).toNat]? = some off) (ht : (pc : Int) + off = (tgt : Int)) (k : JW g μ Rc Qf tgt lv st uc us Z I L) : JW g μ Rc Qf pc lv (.int x :: st) uc us Z I L := by
  intro p e R s m args below meth c D tc A ad0 n0 hC ad H locs ls hR
  exact lv_tableIn hC.1 hC.2.1 hd h1 h2 ho ht (k p e R s m args below meth c D tc A ad0 n0 hC ad H locs ls hR)
theorem j_tsOut {g : GT} {μ : MT} {Rc : Room} {Qf : QF} {pc : Nat} {lv : List (Nat × Value)} {st : List Value} {uc us : Nat} {Z : ZT} {I : IT} {L : LT} {dflt lo hi : Int} {offs : Array Int} {len : Nat} {x : Int32} {tgt : Nat} (hd : decode μ.2.1 pc = .ok (.tableswitch dflt lo hi offs, len)) (h : x.toInt < lo ∨ hi < x.toInt) (ht : (pc : Int) + dflt = (tgt : Int)) (k : JW g μ Rc Qf tgt lv st uc us Z I L) : JW g μ Rc Qf pc lv (.int x :: st) uc us Z I L := by
  intro p e R s m args below meth c D tc A ad0 n0 hC ad H locs ls hR
  exact lv_tableOut hC.1 hC.2.1 hd h ht (k p e R s m args below meth c D tc A ad0 n0 hC ad H locs ls hR)
theorem j_lsw {g : GT} {μ : MT} {Rc : Room} {Qf : QF} {pc : Nat} {lv : List (Nat × Value)} {st : List Value} {uc us : Nat} {Z : ZT} {I : IT} {L : LT} {dflt : Int} {ps : Array (Int × Int)} {len : Nat} {x : Int32} {off : Int} {tgt : Nat} (hd : decode μ.2.1 pc = .ok (.lookupswitch dflt ps, len)) (hp : (ps.toList.zip (ps.toList.drop 1)).all (fun (a, next) => a.1 < next.1) = true) (ho : Op.lookupswitch.offset ps.toList dflt x.toInt = off) (ht : (pc : Int) + off = (tgt : Int)) (k : JW g μ Rc Qf tgt lv st uc us Z I L) : JW g μ Rc Qf pc lv (.int x :: st) uc us Z I L := by
  intro p e R s m args below meth c D tc A ad0 n0 hC ad H locs ls hR
  exact lv_lookup hC.1 hC.2.1 hd hp ho ht (k p e R s m args below meth c D tc A ad0 n0 hC ad H locs ls hR)
theorem JW.at {g : GT} {μ : MT} {Rc : Room} {Qf : QF} {pc : Nat} {lv : List (Nat × Value)} {st : List Value} {uc us : Nat} {Z : ZT} {I : IT} {L : LT} {pc' : Nat} {lv' : List (Nat × Value)} {st' : List Value} {Z' : ZT} {I' : IT} {L' : LT} (k : JW g μ Rc Qf pc' lv' st' uc us Z' I' L') (h1 : pc' = pc) (h2 : lv' = lv) (h3 : st' = st) (h4 : Z' = Z) (h5 : I' = I) (h6 : L' = L) : JW g μ Rc Qf pc lv st uc us Z I L := by
  subst h1; subst h2; subst h3; subst h4; subst h5; subst h6; exact k
