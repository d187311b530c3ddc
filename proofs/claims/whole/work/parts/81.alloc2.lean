/-! WORLDS THAT GROW: what stood stays -/
def ZM (Z Z' : ZT) : Prop := zN Z ≤ zN Z' ∧ okK Z' ∧ ∀ b, b < zN Z → zK Z' b = zK Z b ∧ zL Z' b = zL Z b ∧ ∀ j, zS Z b j = true → zS Z' b j = true
theorem ZM.rfl' {Z : ZT} (h : okK Z) : ZM Z Z := ⟨Nat.le_refl _, h, fun _ _ => ⟨rfl, rfl, fun _ h => h⟩⟩
theorem ZM.tr {Z Z' Z'' : ZT} (h : ZM Z Z') (h2 : ZM Z' Z'') : ZM Z Z'' := ⟨Nat.le_trans h.1 h2.1, h2.2.1, fun b hb => ⟨(h2.2.2 b (Nat.lt_of_lt_of_le hb h.1)).1.trans (h.2.2 b hb).1, (h2.2.2 b (Nat.lt_of_lt_of_le hb h.1)).2.1.trans (h.2.2 b hb).2.1, fun j hj => (h2.2.2 b (Nat.lt_of_lt_of_le hb h.1)).2.2 j ((h.2.2 b hb).2.2 j hj)⟩⟩
theorem ZM.k {Z Z' : ZT} (h : ZM Z Z') {b c : Nat} (hc : zK Z b = c) (hb : b < zN Z) : zK Z' b = c := (h.2.2 b hb).1.trans hc
theorem ZM.l {Z Z' : ZT} (h : ZM Z Z') {b c : Nat} (hc : zL Z b = c) (hb : b < zN Z) : zL Z' b = c := (h.2.2 b hb).2.1.trans hc
theorem ZM.s {Z Z' : ZT} (h : ZM Z Z') {b j : Nat} (hc : zS Z b j = true) (hb : b < zN Z) : zS Z' b j = true := (h.2.2 b hb).2.2 j hc
theorem ZM.new {Z : ZT} (h : okK Z) {k : Nat} (hk : k < 10) (len : Nat) : ZM Z (zNew Z k len) := ⟨by rw [zNew_N]; omega, h.new hk len, fun b hb => ⟨zNew_K (by omega), zNew_L (by omega), fun j hj => by rw [zNew_S (by omega)]; exact hj⟩⟩
theorem ZM.set {Z : ZT} (h : okK Z) (a f : Nat) : ZM Z (zSet Z a f) := ⟨Nat.le_refl _, h.set a f, fun _ _ => ⟨rfl, rfl, fun _ hj => zSet_k hj⟩⟩
section JB
variable {g : GT} {μ : MT} {Rc : Room} {Qf : QF} {pc : Nat} {lv : List (Nat × Value)} {st : List Value} {uc us : Nat} {Z : ZT} {I : IT} {L : LT}
theorem j_put2 {a idx ci f b : Nat} (hd : decode μ.2.1 pc = .ok (.putfield idx, 3)) (hf : FA μ.1.cls idx ci f) (hown : (vwCl[ci]?).map (fun q => q.1) = some μ.1.cls) (hin9 : μ.1.name = "<init>") (hkk : okK Z) (hb : a + oF ci f = b) (hK : zK Z a = ci) (hbn : b < zN Z) (k : ∀ Z', ZM Z Z' → zN Z' = zN Z → zS Z' a f = true → JW g μ Rc Qf (pc + 3) lv st uc us Z' I L) (h0 : fk ci f = 3 := by rfl) : JW g μ Rc Qf pc lv (.ref b :: .ref a :: st) uc us Z I L :=
  j_putR hd hf hown hin9 hb hK hbn (k _ (ZM.set hkk a f) rfl (zSet_s Z a f)) h0
theorem j_aast2 {a b : Nat} {x : Int32} (j : Nat) (hd : decode μ.2.1 pc = .ok (.aastore, 1)) (hkk : okK Z) (hx9 : x = nI j) (hb9 : aB a + 7 * j = b) (hKa : zK Z a = 9) (hj : j < zL Z a) (hKb : zK Z b = 2) (k : ∀ Z', ZM Z Z' → zN Z' = zN Z → zS Z' a j = true → JW g μ Rc Qf (pc + 1) lv st uc us Z' I L) : JW g μ Rc Qf pc lv (.ref b :: .int x :: .ref a :: st) uc us Z I L :=
  j_aast j hd hx9 hb9 hKa hj hKb (k _ (ZM.set hkk a j) rfl (zSet_s Z a j))
theorem j_new2 {idx ci n : Nat} (hn0 : zN Z = n) (hd : decode μ.2.1 pc = .ok (.new idx, 3)) (hw : NWd μ.1.cls idx ci) (h7 : ci < 7) (hkk : okK Z) (hrf : rfL n (st ++ lv.map Prod.snd)) (hn : n + 1 < 1000) (hcl : uc + 1 ≤ Rc.cells ∧ us + nf ci ≤ Rc.slots) (k : ∀ Z', ZM Z Z' → zN Z' = n + 1 → zK Z' n = ci → JW g μ Rc Qf (pc + 3) lv (.ref n :: st) (uc + 1) (us + nf ci) Z' (upR I n (fun _ => 0)) (upL L n 0)) : JW g μ Rc Qf pc lv st uc us Z I L := by
  subst hn0
  exact j_new hd hw hkk (rf_of hrf) hn hcl (k _ (ZM.new hkk (by omega) 0) rfl (zNew_Ks Z ci 0))
theorem j_rowI {a ci f len idx n : Nat} {x : Int32} (hn0 : zN Z = n) (hd1 : decode μ.2.1 pc = .ok (.newarray .int, 2)) (hd2 : decode μ.2.1 (pc + 2) = .ok (.putfield idx, 3)) (hf : FA μ.1.cls idx ci f) (hown : (vwCl[ci]?).map (fun q => q.1) = some μ.1.cls) (hin9 : μ.1.name = "<init>") (hx : x = nI len) (hl : len < 10000) (hb : a + oF ci f = n) (hK : zK Z a = ci) (hkk : okK Z) (hrf : rfL n ((.ref a :: st) ++ lv.map Prod.snd)) (hn : n + 1 < 1000) (hcl : uc + 1 ≤ Rc.cells ∧ us + len ≤ Rc.slots) (k : ∀ Z', ZM Z Z' → zN Z' = n + 1 → zK Z' n = 7 → zL Z' n = len → zS Z' a f = true → JW g μ Rc Qf (pc + 2 + 3) lv st (uc + 1) (us + len) Z' (upR I n (fun _ => 0)) (upL L n 0)) (h7 : ci < 7) (h0 : fk ci f = 3 := by rfl) : JW g μ Rc Qf pc lv (.int x :: .ref a :: st) uc us Z I L := by
  subst hn0
  have hz := ZM.new hkk (show 7 < 10 by decide) len
  have ha : a < zN Z := (rfL.all hrf _ (List.mem_cons_self) a rfl).elim id (fun h => by
    have h : 1000 ≤ a := h
    omega)
  refine j_newi len hd1 hx hl hkk (rf_of hrf) hn hcl ?_
  refine j_put2 hd2 hf hown hin9 hz.2.1 hb (hz.k hK ha) (by rw [zNew_N]; omega) (fun Z' hz2 hN hs => ?_) h0
  exact k Z' (hz.tr hz2) (hN.trans (zNew_N Z 7 len)) (hz2.k (zNew_Ks Z 7 len) (by rw [zNew_N]; omega)) (hz2.l (zNew_Ls Z 7 len) (by rw [zNew_N]; omega)) hs
theorem j_rowZ {a ci f len idx n : Nat} {x : Int32} (hn0 : zN Z = n) (hd1 : decode μ.2.1 pc = .ok (.newarray .boolean, 2)) (hd2 : decode μ.2.1 (pc + 2) = .ok (.putfield idx, 3)) (hf : FA μ.1.cls idx ci f) (hown : (vwCl[ci]?).map (fun q => q.1) = some μ.1.cls) (hin9 : μ.1.name = "<init>") (hx : x = nI len) (hl : len < 10000) (hb : a + oF ci f = n) (hK : zK Z a = ci) (hkk : okK Z) (hrf : rfL n ((.ref a :: st) ++ lv.map Prod.snd)) (hn : n + 1 < 1000) (hcl : uc + 1 ≤ Rc.cells ∧ us + len ≤ Rc.slots) (k : ∀ Z', ZM Z Z' → zN Z' = n + 1 → zK Z' n = 8 → zL Z' n = len → zS Z' a f = true → JW g μ Rc Qf (pc + 2 + 3) lv st (uc + 1) (us + len) Z' (upR I n (fun _ => 0)) (upL L n 0)) (h7 : ci < 7) (h0 : fk ci f = 3 := by rfl) : JW g μ Rc Qf pc lv (.int x :: .ref a :: st) uc us Z I L := by
  subst hn0
  have hz := ZM.new hkk (show 8 < 10 by decide) len
  have ha : a < zN Z := (rfL.all hrf _ (List.mem_cons_self) a rfl).elim id (fun h => by
    have h : 1000 ≤ a := h
    omega)
  refine j_newz len hd1 hx hl hkk (rf_of hrf) hn hcl ?_
  refine j_put2 hd2 hf hown hin9 hz.2.1 hb (hz.k hK ha) (by rw [zNew_N]; omega) (fun Z' hz2 hN hs => ?_) h0
  exact k Z' (hz.tr hz2) (hN.trans (zNew_N Z 8 len)) (hz2.k (zNew_Ks Z 8 len) (by rw [zNew_N]; omega)) (hz2.l (zNew_Ls Z 8 len) (by rw [zNew_N]; omega)) hs
theorem j_rowQ {a ci f len idx idx2 n : Nat} {x : Int32} (hn0 : zN Z = n) (hd1 : decode μ.2.1 pc = .ok (.anewarray idx2, 3)) (hw : Cond.classLink μ.1.cls idx2 RX2 ∈ lw_tbl) (hd2 : decode μ.2.1 (pc + 3) = .ok (.putfield idx, 3)) (hf : FA μ.1.cls idx ci f) (hown : (vwCl[ci]?).map (fun q => q.1) = some μ.1.cls) (hin9 : μ.1.name = "<init>") (hx : x = nI len) (hl : len < 10000) (hb : a + oF ci f = n) (hK : zK Z a = ci) (hkk : okK Z) (hrf : rfL n ((.ref a :: st) ++ lv.map Prod.snd)) (hn : n + 1 < 1000) (hcl : uc + 1 ≤ Rc.cells ∧ us + len ≤ Rc.slots) (k : ∀ Z', ZM Z Z' → zN Z' = n + 1 → zK Z' n = 9 → zL Z' n = len → zS Z' a f = true → JW g μ Rc Qf (pc + 3 + 3) lv st (uc + 1) (us + len) Z' (upR I n (fun _ => 0)) (upL L n 0)) (h7 : ci < 7) (h0 : fk ci f = 3 := by rfl) : JW g μ Rc Qf pc lv (.int x :: .ref a :: st) uc us Z I L := by
  subst hn0
  have hz := ZM.new hkk (show 9 < 10 by decide) len
  have ha : a < zN Z := (rfL.all hrf _ (List.mem_cons_self) a rfl).elim id (fun h => by
    have h : 1000 ≤ a := h
    omega)
  refine j_newq len hd1 hw hx hl hkk (rf_of hrf) hn hcl ?_
  refine j_put2 hd2 hf hown hin9 hz.2.1 hb (hz.k hK ha) (by rw [zNew_N]; omega) (fun Z' hz2 hN hs => ?_) h0
  exact k Z' (hz.tr hz2) (hN.trans (zNew_N Z 9 len)) (hz2.k (zNew_Ks Z 9 len) (by rw [zNew_N]; omega)) (hz2.l (zNew_Ls Z 9 len) (by rw [zNew_N]; omega)) hs
end JB
theorem isR.zm {Z Z' : ZT} {r : Nat} (h : isR Z r) (hz : ZM Z Z') (hr : r + 7 ≤ zN Z) : isR Z' r := by
  obtain ⟨h1, h2, h3, h4, h5, h6, h7, h8, h9, h10, h11, h12, h13, h14, h15, h16, h17, h18⟩ := h
  exact ⟨hz.k h1 (by omega), hz.s h2 (by omega), hz.s h3 (by omega), hz.k h4 (by omega), hz.s h5 (by omega), hz.s h6 (by omega), hz.s h7 (by omega), hz.s h8 (by omega), hz.k h9 (by omega), hz.l h10 (by omega), hz.k h11 (by omega), hz.l h12 (by omega), hz.k h13 (by omega), hz.l h14 (by omega), hz.k h15 (by omega), hz.l h16 (by omega), hz.k h17 (by omega), hz.l h18 (by omega)⟩
theorem isCo.zm {Z Z' : ZT} (h : isCo Z) (hz : ZM Z Z') (hr : 8 ≤ zN Z) : isCo Z' := by
  obtain ⟨h1, h2, h3, h4, h5, h6, h7, h8, h9, h10, h11, h12, h13⟩ := h
  exact ⟨hz.k h1 (by omega), hz.s h2 (by omega), hz.s h3 (by omega), hz.s h4 (by omega), hz.s h5 (by omega), hz.k h6 (by omega), hz.l h7 (by omega), hz.k h8 (by omega), hz.l h9 (by omega), hz.k h10 (by omega), hz.l h11 (by omega), hz.k h12 (by omega), hz.l h13 (by omega)⟩
theorem isTx.zm {Z Z' : ZT} (h : isTx Z) (hz : ZM Z Z') (hr : 3 ≤ zN Z) : isTx Z' := by
  obtain ⟨h1, h2, h3, h4⟩ := h
  exact ⟨hz.k h1 (by omega), hz.s h2 (by omega), hz.k h3 (by omega), hz.l h4 (by omega)⟩
theorem isA.zm {Z Z' : ZT} (h : isA Z) (hz : ZM Z Z') (hr : 115 ≤ zN Z) : isA Z' := by
  obtain ⟨h1, h2, h3, h4, h5, h6⟩ := h
  exact ⟨hz.k h1 (by omega), hz.s h2 (by omega), hz.k h3 (by omega), hz.l h4 (by omega), fun i hi => hz.s (h5 i hi) (by omega), fun i hi => (h6 i hi).zm hz (by omega)⟩
theorem isX.zm {Z Z' : ZT} (h : isX Z) (hz : ZM Z Z') (hr : 198 ≤ zN Z) : isX Z' := by
  obtain ⟨x0, y0, y1, y2, y3, y4, y5, y6, y7, y8, y9, xT, xC, xN, xA, b1, b2, b3, b4, b5, b6, t1, t2, t3, t4, e1, e2, e3, e4, e5, e6⟩ := h
  exact ⟨hz.k x0 (by omega), hz.s y0 (by omega), hz.s y1 (by omega), hz.s y2 (by omega), hz.s y3 (by omega), hz.s y4 (by omega), hz.s y5 (by omega), hz.s y6 (by omega), hz.s y7 (by omega), hz.s y8 (by omega), hz.s y9 (by omega), xT.zm hz (by omega), xC.zm hz (by omega), xN.zm hz (by omega), xA.zm hz (by omega), hz.k b1 (by omega), hz.l b2 (by omega), fun i hi => hz.s (b3 i hi) (by omega), fun i hi => (b4 i hi).zm hz (by omega), hz.k b5 (by omega), hz.l b6 (by omega), hz.k t1 (by omega), hz.l t2 (by omega), fun i hi => hz.s (t3 i hi) (by omega), fun i hi => (t4 i hi).zm hz (by omega), hz.k e1 (by omega), hz.l e2 (by omega), hz.k e3 (by omega), hz.l e4 (by omega), hz.k e5 (by omega), hz.l e6 (by omega)⟩
