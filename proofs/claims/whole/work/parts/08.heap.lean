theorem fA_in {own : String} {idx ci k : Nat} (h : FA own idx ci k) : ci < 7 := by obtain ⟨_, _, _, _, _, _, _, _, _, _, _, _, _, _, _, h⟩ := h; exact h
theorem rl_lt {D : va_G} {tc : TC} {A : Nat → Prop} {s : State} {nL : Nat} {ad0 : Nat → Nat} {n0 uc : Nat} {lv : List (Nat × Value)} {Z : ZT} {I : IT} {L : LT} {ad : Nat → Nat} {H : Heap} {locs : List Loc} {ls : Array Slot} (hR : pRL D tc A s nL ad0 n0 uc lv Z I L ad H locs ls) {a c : Nat} (h : zK Z a = c) (hc : c < 10) : a < zN Z := hR.2.2.2.2.1.1 a (by omega)
section JR
variable {g : GT} {μ : MT} {Rc : Room} {Qf : QF} {pc : Nat} {lv : List (Nat × Value)} {st : List Value} {uc us : Nat} {Z : ZT} {I : IT} {L : LT}
theorem j_get {a idx ci f : Nat} (hd : decode μ.2.1 pc = .ok (.getfield idx, 3)) (hf : FA μ.1.cls idx ci f) (hK : zK Z a = ci) {w : Value} (hw : ∀ ad : Nat → Nat, fV ad Z I L a f = cv ad w) (k : JW g μ Rc Qf (pc + 3) lv (w :: st) uc us Z I L) : JW g μ Rc Qf pc lv (.ref a :: st) uc us Z I L := by
  intro p e R s m args below meth c D tc A ad0 n0 hC ad H locs ls hR
  obtain ⟨C, T, N, ty, hc, hN, hk, hin, hty, hnm, hlk, -, -, -, -, h7⟩ := hf
  have ha := rl_lt hR hK (by omega)
  refine va_get (D := D) (ci := ci) (v := cv ad w) (C := C) (T := T) (N := N) hC.1 hC.2.1 hC.2.2.2.2.2.1 (gin_ws hin) hC.2.2.2.2.1 hC.2.2.2.2.2.2.2.2.2.2.1 hR.1 a ((wS_get ha).trans (by rw [cE_o hK h7])) hc f hk (hC.2.2.2.2.2.1 _ (gin hlk rfl)) (fun _ h => h) ?_ hd (k p e R s m args below meth c D tc A ad0 n0 hC ad H locs ls hR)
  rw [map_get (by omega), hw ad]
theorem j_getI {a idx ci f : Nat} (hd : decode μ.2.1 pc = .ok (.getfield idx, 3)) (hf : FA μ.1.cls idx ci f) (hK : zK Z a = ci) (k : JW g μ Rc Qf (pc + 3) lv (.int (I a f) :: st) uc us Z I L) (h0 : fk ci f ≤ 1 := by exact Nat.le_of_ble_eq_true rfl) : JW g μ Rc Qf pc lv (.ref a :: st) uc us Z I L :=
  j_get hd hf hK (w := .int (I a f)) (fun ad => by unfold fV; rw [hK, if_neg (by omega), if_neg (by omega)]; rfl) k
theorem j_getJ {a idx ci f : Nat} (hd : decode μ.2.1 pc = .ok (.getfield idx, 3)) (hf : FA μ.1.cls idx ci f) (hK : zK Z a = ci) (k : JW g μ Rc Qf (pc + 3) lv (.long (L a) :: st) uc us Z I L) (h0 : fk ci f = 2 := by rfl) : JW g μ Rc Qf pc lv (.ref a :: st) uc us Z I L :=
  j_get hd hf hK (w := .long (L a)) (fun ad => by unfold fV; rw [hK, if_neg (by omega), if_pos h0]; rfl) k
theorem j_getR {a idx ci f b : Nat} (hd : decode μ.2.1 pc = .ok (.getfield idx, 3)) (hf : FA μ.1.cls idx ci f) (hb : a + oF ci f = b) (hK : zK Z a = ci) (hS : zS Z a f = true) (k : JW g μ Rc Qf (pc + 3) lv (.ref b :: st) uc us Z I L) (h0 : fk ci f = 3 := by rfl) : JW g μ Rc Qf pc lv (.ref a :: st) uc us Z I L :=
  j_get hd hf hK (w := .ref b) (fun ad => by unfold fV; rw [hK, if_pos h0, if_pos hS, hb]; rfl) k
theorem fits_int (x : Int32) : fits .int (.int x) = true := rfl
theorem nar_bool {x : Int32} (h : x = 0 ∨ x = 1) : narrow .boolean (.int x) = .int x := by rcases h with rfl | rfl <;> rfl
theorem fits_bool {x : Int32} (h : x = 0 ∨ x = 1) : fits .boolean (.int x) = true := by rcases h with rfl | rfl <;> rfl
theorem okZ_same {Z : ZT} (h : okZ Z) : okZ Z := h
theorem fV_uI {ad : Nat → Nat} {Z : ZT} {I : IT} {L : LT} {a f : Nat} {x : Int32} {n : Nat} (hf : f < n) (h0 : fk (zK Z a) f ≤ 1) : ((List.range n).map (fV ad Z I L a)).set f (.int x) = (List.range n).map (fV ad Z (upI I a f x) L a) := by
  rw [← map_set (f := fV ad Z I L a) (f' := fV ad Z (upI I a f x) L a) hf (fun b _ hne => by unfold fV upI; rw [upR_s, upd_n hne])]
  congr 1
  unfold fV
  rw [if_neg (by omega), if_neg (by omega)]
  show Value.int x = Value.int (upR I a (upd (I a) f x) a f)
  rw [upR_s, upd_s]
theorem fV_uL {ad : Nat → Nat} {Z : ZT} {I : IT} {L : LT} {a f : Nat} {x : Int64} {n : Nat} (hf : f < n) (h0 : fk (zK Z a) f = 2) (h1 : ∀ b, b < n → fk (zK Z a) b = 2 → b = f) : ((List.range n).map (fV ad Z I L a)).set f (.long x) = (List.range n).map (fV ad Z I (upL L a x) a) := by
  rw [← map_set (f := fV ad Z I L a) (f' := fV ad Z I (upL L a x) a) hf (fun b hb hne => by
    unfold fV
    by_cases h3 : fk (zK Z a) b = 3
    · rw [if_pos h3, if_pos h3]
    · rw [if_neg h3, if_neg h3]
      by_cases h2 : fk (zK Z a) b = 2
      · exact absurd (h1 b hb h2) hne
      · rw [if_neg h2, if_neg h2])]
  congr 1
  unfold fV
  rw [if_neg (by omega), if_pos h0, upL_s]
set_option maxHeartbeats 1000000 in
theorem j_putX {a idx ci f : Nat} {x : Int32} (hd : decode μ.2.1 pc = .ok (.putfield idx, 3)) (hf : FA μ.1.cls idx ci f) (hK : zK Z a = ci) (k : JW g μ Rc Qf (pc + 3) lv st uc us Z (upI I a f x) L) (h0 : fk ci f = 0 ∨ fk ci f = 1 ∧ (x = 0 ∨ x = 1)) : JW g μ Rc Qf pc lv (.int x :: .ref a :: st) uc us Z I L := by
  intro p e R s m args below meth c D tc A ad0 n0 hC ad H locs ls hR
  obtain ⟨C, T, N, ty, hc, hN, hk, hin, hty, hnm, hlk, t0, t1, -, -, h7⟩ := hf
  have ha := rl_lt hR hK (by omega)
  have hfin : (T f).2.2.2 = false := by rcases h0 with h | h; exact (t0 h).2; exact (t1 h.1).2
  have hn : narrow (ty f) (.int x) = .int x := by
    rcases h0 with h | h
    · rw [(t0 h).1]; rfl
    · rw [(t1 h.1).1]; exact nar_bool h.2
  have hfit : fits (ty f) (.int x) = true := by
    rcases h0 with h | h
    · rw [(t0 h).1]; rfl
    · rw [(t1 h.1).1]; exact fits_bool h.2
  refine va_put (D := D) (ci := ci) (v := .int x) (ty := ty f) (C := C) (T := T) (N := N) hC.1 hC.2.1 hC.2.2.2.2.2.1 (gin_ws hin) ty hty hnm hC.2.2.2.2.1 hC.2.2.2.2.2.2.2.2.2.2.1 hR.1 hR.2.1 hR.2.2.1 a ((wS_get ha).trans (by rw [cE_o hK h7])) hc f hk (hC.2.2.2.2.2.1 _ (gin hlk rfl)) (fun _ h => h) hfin (hty f hk) hn hfit (by simp; omega) hd (fun H1 locs1 hP hD hS => ?_)
  have e9 : (wS tc ad Z I L).set a (ad a, .inr (ci, ((List.range (nf ci)).map (fV ad Z I L a)).set f (.int x))) = wS tc ad Z (upI I a f x) L := by
    refine wS_set ha rfl ?_ (fun b _ hne => cE_uI hne)
    rw [cE_o hK h7, fV_uI (by omega) (by rw [hK]; omega)]
  rw [e9] at hP hD
  exact k p e R s m args below meth c D tc A ad0 n0 hC ad H1 locs1 ls ⟨hP, hD, hS, hR.2.2.2⟩
theorem j_putI {a idx ci f : Nat} {x : Int32} (hd : decode μ.2.1 pc = .ok (.putfield idx, 3)) (hf : FA μ.1.cls idx ci f) (hK : zK Z a = ci) (k : JW g μ Rc Qf (pc + 3) lv st uc us Z (upI I a f x) L) (h0 : fk ci f = 0 := by rfl) : JW g μ Rc Qf pc lv (.int x :: .ref a :: st) uc us Z I L := j_putX hd hf hK k (Or.inl h0)
theorem j_putZ {a idx ci f : Nat} {x : Int32} (hd : decode μ.2.1 pc = .ok (.putfield idx, 3)) (hf : FA μ.1.cls idx ci f) (hx : x = 0 ∨ x = 1) (hK : zK Z a = ci) (k : JW g μ Rc Qf (pc + 3) lv st uc us Z (upI I a f x) L) (h0 : fk ci f = 1 := by rfl) : JW g μ Rc Qf pc lv (.int x :: .ref a :: st) uc us Z I L := j_putX hd hf hK k (Or.inr ⟨h0, hx⟩)
set_option maxHeartbeats 1000000 in
theorem j_putJ {a idx ci f : Nat} {x : Int64} (hd : decode μ.2.1 pc = .ok (.putfield idx, 3)) (hf : FA μ.1.cls idx ci f) (hK : zK Z a = ci) (k : JW g μ Rc Qf (pc + 3) lv st uc us Z I (upL L a x)) (h0 : fk ci f = 2 := by rfl) (h1 : ∀ b, b < nf ci → fk ci b = 2 → b = f := by decide) : JW g μ Rc Qf pc lv (.long x :: .ref a :: st) uc us Z I L := by
  intro p e R s m args below meth c D tc A ad0 n0 hC ad H locs ls hR
  obtain ⟨C, T, N, ty, hc, hN, hk, hin, hty, hnm, hlk, -, -, t2, -, h7⟩ := hf
  have ha := rl_lt hR hK (by omega)
  refine va_put (D := D) (ci := ci) (v := .long x) (ty := ty f) (C := C) (T := T) (N := N) hC.1 hC.2.1 hC.2.2.2.2.2.1 (gin_ws hin) ty hty hnm hC.2.2.2.2.1 hC.2.2.2.2.2.2.2.2.2.2.1 hR.1 hR.2.1 hR.2.2.1 a ((wS_get ha).trans (by rw [cE_o hK h7])) hc f hk (hC.2.2.2.2.2.1 _ (gin hlk rfl)) (fun _ h => h) (t2 h0).2 (hty f hk) (by rw [(t2 h0).1]; rfl) (by rw [(t2 h0).1]; rfl) (by simp; omega) hd (fun H1 locs1 hP hD hS => ?_)
  have e9 : (wS tc ad Z I L).set a (ad a, .inr (ci, ((List.range (nf ci)).map (fV ad Z I L a)).set f (.long x))) = wS tc ad Z I (upL L a x) := by
    refine wS_set ha rfl ?_ (fun b _ hne => cE_uL hne)
    rw [cE_o hK h7, fV_uL (by omega) (by rw [hK]; exact h0) (by rw [hK]; exact h1)]
  rw [e9] at hP hD
  exact k p e R s m args below meth c D tc A ad0 n0 hC ad H1 locs1 ls ⟨hP, hD, hS, hR.2.2.2⟩
/-- a final reference set: only where the place is the due one -/
def zSet (Z : ZT) (a f : Nat) : ZT := (Z.1, Z.2.1, Z.2.2.1, fun b j => if b = a ∧ j = f then true else Z.2.2.2 b j)
theorem zSet_N (Z : ZT) (a f : Nat) : zN (zSet Z a f) = zN Z := rfl
theorem zSet_K (Z : ZT) (a f b : Nat) : zK (zSet Z a f) b = zK Z b := rfl
theorem zSet_L (Z : ZT) (a f b : Nat) : zL (zSet Z a f) b = zL Z b := rfl
theorem zSet_s (Z : ZT) (a f : Nat) : zS (zSet Z a f) a f = true := by unfold zS zSet; exact if_pos ⟨rfl, rfl⟩
theorem zSet_n {Z : ZT} {a f b j : Nat} (h : ¬ (b = a ∧ j = f)) : zS (zSet Z a f) b j = zS Z b j := by unfold zS zSet; exact if_neg h
theorem zSet_k {Z : ZT} {a f b j : Nat} (h : zS Z b j = true) : zS (zSet Z a f) b j = true := by
  by_cases q : b = a ∧ j = f
  · obtain ⟨rfl, rfl⟩ := q; exact zSet_s _ _ _
  · rw [zSet_n q]; exact h
theorem zSet_ok {Z : ZT} {a f : Nat} (h : okZ Z) (ht : tG Z a f < zN Z) : okZ (zSet Z a f) := by
  refine ⟨h.1, h.2.1, fun b j hb hs => ?_, h.2.2.2⟩
  by_cases q : b = a ∧ j = f
  · obtain ⟨rfl, rfl⟩ := q; exact ht
  · rw [zSet_n q] at hs; exact h.2.2.1 b j hb hs
set_option maxHeartbeats 1000000 in
theorem j_putR {a idx ci f b : Nat} (hd : decode μ.2.1 pc = .ok (.putfield idx, 3)) (hf : FA μ.1.cls idx ci f) (hown : (vwCl[ci]?).map (fun q => q.1) = some μ.1.cls) (hin9 : μ.1.name = "<init>") (hb : a + oF ci f = b) (hK : zK Z a = ci) (hbn : b < zN Z) (k : JW g μ Rc Qf (pc + 3) lv st uc us (zSet Z a f) I L) (h0 : fk ci f = 3 := by rfl) : JW g μ Rc Qf pc lv (.ref b :: .ref a :: st) uc us Z I L := by
  intro p e R s m args below meth c D tc A ad0 n0 hC ad H locs ls hR
  obtain ⟨C, T, N, ty, hc, hN, hk, hin, hty, hnm, hlk, -, -, -, t3, h7⟩ := hf
  have ha := rl_lt hR hK (by omega)
  have hC9 : C = μ.1.cls := by rw [hc] at hown; exact Option.some.inj hown
  have hfit : narrow (ty f) (.ref (ad b)) = .ref (ad b) ∧ fits (ty f) (.ref (ad b)) = true := by
    have := (t3 h0).1
    revert this
    cases ty f <;> intro h <;> first | exact ⟨rfl, rfl⟩ | (exact absurd h (by decide))
  refine va_putF (D := D) (ci := ci) (v := .ref (ad b)) (ty := ty f) (C := C) (T := T) (N := N) hC.1 hC.2.1 hC.2.2.2.2.2.1 (gin_ws hin) ty hty hnm hC.2.2.2.2.1 hC.2.2.2.2.2.2.2.2.2.2.1 hR.1 hR.2.1 hR.2.2.1 a ((wS_get ha).trans (by rw [cE_o hK h7])) hc f hk (hC.2.2.2.2.2.1 _ (gin hlk rfl)) (fun _ h => h) (t3 h0).2.1 (hC.2.2.2.2.2.2.2.1.trans hin9) ((t3 h0).2.2.trans hC9) (hty f hk) hfit.1 hfit.2 (by simp; omega) hd (fun H1 locs1 hP hD hS => ?_)
  have e9 : (wS tc ad Z I L).set a (ad a, .inr (ci, ((List.range (nf ci)).map (fV ad Z I L a)).set f (.ref (ad b)))) = wS tc ad (zSet Z a f) I L := by
    refine wS_set ha rfl ?_ (fun q _ hne => ?_)
    · rw [cE_o (Z := zSet Z a f) hK h7]
      rw [← map_set (f := fV ad Z I L a) (f' := fV ad (zSet Z a f) I L a) (show f < nf ci by omega) (fun j _ hne => by unfold fV; rw [zSet_n (fun q => hne q.2), zSet_K])]
      have e8 : fV ad (zSet Z a f) I L a f = .ref (ad b) := by
        unfold fV
        rw [zSet_K, hK, if_pos h0, if_pos (zSet_s Z a f), hb]
      rw [e8]
    · have hv : fV ad (zSet Z a f) I L q = fV ad Z I L q := by funext j; unfold fV; rw [zSet_n (fun z => hne z.1)]; rfl
      have hz : (fun i => if zS (zSet Z a f) q i = true then some (ad (aB q + 7 * i)) else none) = (fun i => if zS Z q i = true then some (ad (aB q + 7 * i)) else none) := by funext i; rw [zSet_n (fun z => hne z.1)]
      unfold cE
      rw [hv, hz]
      rfl
  rw [e9] at hP hD
  refine k p e R s m args below meth c D tc A ad0 n0 hC ad H1 locs1 ls ⟨hP, hD, hS, hR.2.2.2.1, zSet_ok hR.2.2.2.2.1 ?_, hR.2.2.2.2.2⟩
  unfold tG
  rw [if_neg (by omega), hK, hb]
  exact hbn
end JR
