/-! PLACES MADE: new objects and rows -/
def zNew (Z : ZT) (k len : Nat) : ZT := (Z.1 + 1, fun a => if a = Z.1 then k else Z.2.1 a, fun a => if a = Z.1 then len else Z.2.2.1 a, fun a j => if a = Z.1 then false else Z.2.2.2 a j)
theorem zNew_N (Z : ZT) (k len : Nat) : zN (zNew Z k len) = zN Z + 1 := rfl
theorem zNew_Ks (Z : ZT) (k len : Nat) : zK (zNew Z k len) (zN Z) = k := if_pos rfl
theorem zNew_Ls (Z : ZT) (k len : Nat) : zL (zNew Z k len) (zN Z) = len := if_pos rfl
theorem zNew_Ss (Z : ZT) (k len j : Nat) : zS (zNew Z k len) (zN Z) j = false := if_pos rfl
theorem zNew_K {Z : ZT} {k len a : Nat} (h : a ≠ zN Z) : zK (zNew Z k len) a = zK Z a := if_neg h
theorem zNew_L {Z : ZT} {k len a : Nat} (h : a ≠ zN Z) : zL (zNew Z k len) a = zL Z a := if_neg h
theorem zNew_S {Z : ZT} {k len a j : Nat} (h : a ≠ zN Z) : zS (zNew Z k len) a j = zS Z a j := if_neg h
def adS (ad : Nat → Nat) (n q : Nat) : Nat → Nat := fun a => if a = n then q else ad a
theorem adS_s (ad : Nat → Nat) (n q : Nat) : adS ad n q n = q := if_pos rfl
theorem adS_n {ad : Nat → Nat} {n q a : Nat} (h : a ≠ n) : adS ad n q a = ad a := if_neg h
def okK (Z : ZT) : Prop := ∀ a, a < zN Z → zK Z a < 10
theorem okK.new {Z : ZT} (h : okK Z) {k : Nat} (hk : k < 10) (len : Nat) : okK (zNew Z k len) := by
  intro a ha
  rw [zNew_N] at ha
  by_cases e : a = zN Z
  · rw [e, zNew_Ks]; exact hk
  · rw [zNew_K e]; exact h a (by omega)
theorem okK.set {Z : ZT} (h : okK Z) (a f : Nat) : okK (zSet Z a f) := h
theorem okZ.new {Z : ZT} (h : okZ Z) (k : Nat) {len : Nat} (hl : len < 2 ^ 31) (hn : zN Z + 1 < 1000) : okZ (zNew Z k len) := by
  obtain ⟨h1, h2, h3, h4⟩ := h
  refine ⟨fun a ha => ?_, fun a => ?_, fun a j ha hs => ?_, hn⟩
  · rw [zNew_N]
    by_cases e : a = zN Z
    · omega
    · rw [zNew_K e] at ha
      have := h1 a ha
      omega
  · by_cases e : a = zN Z
    · rw [e, zNew_Ls]; exact hl
    · rw [zNew_L e]; exact h2 a
  · by_cases e : a = zN Z
    · rw [e, zNew_Ss] at hs
      exact absurd hs (by decide)
    · rw [zNew_S e] at hs
      rw [zNew_N] at ha ⊢
      have := h3 a j (by omega) hs
      unfold tG at this ⊢
      rw [zNew_K e]
      omega
theorem cE_new {tc : TC} {ad : Nat → Nat} {Z : ZT} {I : IT} {L : LT} {b k len q : Nat} {f : Nat → Int32} {v : Int64} (hok : okZ Z) (hkk : okK Z) (hb : b < zN Z) : cE tc (adS ad (zN Z) q) (zNew Z k len) (upR I (zN Z) f) (upL L (zN Z) v) b = cE tc ad Z I L b := by
  have hne : b ≠ zN Z := by omega
  have hk := hkk b hb
  unfold cE
  rw [zNew_K hne, zNew_L hne, upR_n hne]
  by_cases h7 : zK Z b < 7
  · rw [if_pos h7, if_pos h7]
    congr 2
    refine List.map_congr_left (fun j _ => ?_)
    unfold fV
    rw [zNew_K hne, zNew_S hne, upR_n hne, upL_n hne]
    by_cases h3 : fk (zK Z b) j = 3
    · rw [if_pos h3, if_pos h3]
      by_cases hs : zS Z b j = true
      · rw [if_pos hs, if_pos hs]
        have ht := hok.2.2.1 b j hb hs
        unfold tG at ht
        rw [if_neg (by omega)] at ht
        rw [adS_n (by omega)]
      · rw [if_neg hs, if_neg hs]
    · rw [if_neg h3, if_neg h3]
  · rw [if_neg h7, if_neg h7]
    by_cases h8 : zK Z b = 7
    · rw [if_pos h8, if_pos h8]
    · rw [if_neg h8, if_neg h8]
      by_cases h9 : zK Z b = 8
      · rw [if_pos h9, if_pos h9]
      · rw [if_neg h9, if_neg h9]
        congr 7
        funext i
        rw [zNew_S hne]
        by_cases hs : zS Z b i = true
        · rw [if_pos hs, if_pos hs]
          have ht := hok.2.2.1 b i hb hs
          unfold tG at ht
          rw [if_pos (by omega)] at ht
          rw [adS_n (by omega)]
        · rw [if_neg hs, if_neg hs]
theorem wS_new {tc : TC} {ad : Nat → Nat} {Z : ZT} {I : IT} {L : LT} {k len q : Nat} {f : Nat → Int32} {v : Int64} (hok : okZ Z) (hkk : okK Z) : wS tc (adS ad (zN Z) q) (zNew Z k len) (upR I (zN Z) f) (upL L (zN Z) v) = wS tc ad Z I L ++ [(q, cE tc (adS ad (zN Z) q) (zNew Z k len) (upR I (zN Z) f) (upL L (zN Z) v) (zN Z))] := by
  unfold wS
  rw [zNew_N, List.range_succ, List.map_append, List.map_cons, List.map_nil, adS_s]
  congr 1
  refine List.map_congr_left (fun a ha => ?_)
  have ha := List.mem_range.mp ha
  rw [adS_n (by omega), cE_new hok hkk ha]
/-- references that stay as they are -/
def rv (n : Nat) (v : Value) : Prop := match v with
  | .ref a => a < n ∨ 1000 ≤ a
  | _ => True
def rfL (n : Nat) : List Value → Prop
  | [] => True
  | v :: l => rv n v ∧ rfL n l
theorem rfL.all {n : Nat} : ∀ {l : List Value}, rfL n l → ∀ v ∈ l, ∀ a, v = .ref a → a < n ∨ 1000 ≤ a
  | [], _, v, hv, _, _ => absurd hv List.not_mem_nil
  | w :: l, h, v, hv, a, ha => by
    rcases List.mem_cons.mp hv with e | e
    · subst e
      have := h.1
      rw [ha] at this
      exact this
    · exact rfL.all h.2 v e a ha
theorem rf_of {n : Nat} {lv : List (Nat × Value)} {st : List Value} (h : rfL n (st ++ lv.map Prod.snd)) : rfOK n lv st := fun v hv a ha => h.all v hv a ha
section JA
variable {g : GT} {μ : MT} {Rc : Room} {Qf : QF} {pc : Nat} {lv : List (Nat × Value)} {st : List Value} {uc us : Nat} {Z : ZT} {I : IT} {L : LT}
theorem rl_new {D : va_G} {tc : TC} {A : Nat → Prop} {s : State} {nL : Nat} {ad0 : Nat → Nat} {n0 : Nat} {ad : Nat → Nat} {H : Heap} {locs : List Loc} {ls : Array Slot} (hR : pRL D tc A s nL ad0 n0 uc lv Z I L ad H locs ls) (hkk : okK Z) (hrf : rfOK (zN Z) lv st) {q k len : Nat} {H1 : Heap} {f : Nat → Int32} {v : Int64} (hlen : len < 2 ^ 31) (hn : zN Z + 1 < 1000) (hP : va_P D vwCl (wS tc ad Z I L ++ [(q, cE tc (adS ad (zN Z) q) (zNew Z k len) (upR I (zN Z) f) (upL L (zN Z) v) (zN Z))]) H1) (hD : va_D A (wS tc ad Z I L ++ [(q, cE tc (adS ad (zN Z) q) (zNew Z k len) (upR I (zN Z) f) (upL L (zN Z) v) (zN Z))])) (hS : va_S A s.heap H1 locs) : pRL D tc A s nL ad0 n0 (uc + 1) lv (zNew Z k len) (upR I (zN Z) f) (upL L (zN Z) v) (adS ad (zN Z) q) H1 locs ls ∧ st.map (cv (adS ad (zN Z) q)) = st.map (cv ad) := by
  obtain ⟨hP0, hD0, hS0, hl, hok, hn1, hn2, had⟩ := hR
  have hrefs : ∀ v ∈ st ++ lv.map Prod.snd, ∀ a, v = .ref a → adS ad (zN Z) q a = ad a := by
    intro w hw a ha
    rcases hrf w hw a ha with h | h
    · exact adS_n (Nat.ne_of_lt h)
    · exact adS_n (Nat.ne_of_gt (Nat.lt_of_lt_of_le (show zN Z < 1000 by omega) h))
  refine ⟨⟨by rw [wS_new hok hkk]; exact hP, by rw [wS_new hok hkk]; exact hD, hS, ?_, hok.new k hlen hn, ?_, ?_, ?_⟩, cv_list (fun v hv => hrefs v (List.mem_append_left _ hv))⟩
  · rw [cv_lvc (fun v hv => hrefs v (List.mem_append_right _ hv))]
    exact hl
  · rw [zNew_N]; omega
  · rw [zNew_N]; omega
  · intro a ha
    rw [zNew_N] at ha
    rw [adS_n (by omega)]
    exact had a (by omega)
def dfV (ci j : Nat) : Value := if fk ci j = 3 then .null else if fk ci j = 2 then .long 0 else .int 0
theorem cE_o0 {tc : TC} {ad : Nat → Nat} {ci len : Nat} (h7 : ci < 7) : cE tc ad (zNew Z ci len) (upR I (zN Z) (fun _ => 0)) (upL L (zN Z) 0) (zN Z) = .inr (ci, (List.range (nf ci)).map (dfV ci)) := by
  rw [cE_o (zNew_Ks Z ci len) h7]
  congr 2
  refine List.map_congr_left (fun j _ => ?_)
  unfold fV dfV
  rw [zNew_Ks, zNew_Ss, upR_s, upL_s]
  rfl
def NWd (own : String) (idx ci : Nat) : Prop := ∃ (C : String) (T : u_T) (N : Nat) (ty : Nat → FieldType), vwCl[ci]? = some (C, T, N) ∧ nf ci = N ∧ ci < 7 ∧ (∀ w ∈ u_ws C T N, w ∈ lw_tbl) ∧ (∀ k, k < N → parseFieldDescriptor (T k).2.2.1 = some (ty k)) ∧ Cond.classLink own idx C ∈ lw_tbl ∧ Cond.instantiable C N ∈ lw_tbl ∧ Cond.initialized C ∈ lw_tbl ∧ (∀ j, j < N → defaultValue (ty j) = vp_V ((List.range N).map (dfV ci)) j)
theorem j_new {idx ci : Nat} (hd : decode μ.2.1 pc = .ok (.new idx, 3)) (hw : NWd μ.1.cls idx ci) (hkk : okK Z) (hrf : rfOK (zN Z) lv st) (hn : zN Z + 1 < 1000) (hcl : uc + 1 ≤ Rc.cells ∧ us + nf ci ≤ Rc.slots) (k : JW g μ Rc Qf (pc + 3) lv (.ref (zN Z) :: st) (uc + 1) (us + nf ci) (zNew Z ci 0) (upR I (zN Z) (fun _ => 0)) (upL L (zN Z) 0)) : JW g μ Rc Qf pc lv st uc us Z I L := by
  intro p e R s m args below meth c D tc A ad0 n0 hC ad H locs ls hR
  obtain ⟨hx, hb, hr, hml, hown, hts, hlk, hnm, hRc, hA, hKK, hRO, hNW⟩ := id hC
  obtain ⟨C, T, N, ty, hc, hN, h7, hin, hty, h1, h2, h3, hdf⟩ := hw
  subst hRc
  subst hN
  refine va_new (T := T) (ci := ci) (fs := (List.range (nf ci)).map (dfV ci)) hx hb hts (gin_ws hin) ty hty hown (hts _ (gin h1 rfl)) (hts _ (gin h2 rfl)) (hts _ (gin h3 rfl)) hKK hR.1 hR.2.1 hR.2.2.1 hA hc hdf hcl.1 hcl.2 hd (fun q H1 hP1 hD1 hS1 => ?_)
  rw [← cE_o0 (tc := tc) (ad := adS ad (zN Z) q) (Z := Z) (I := I) (L := L) (len := 0) h7] at hP1 hD1
  obtain ⟨hR1, hst⟩ := rl_new (st := st) hR hkk hrf (by decide) hn hP1 hD1 hS1
  have := k p e R s m args below meth c D tc A ad0 n0 hC _ H1 locs ls hR1
  rw [List.map_cons, hst] at this
  rw [show cv (adS ad (zN Z) q) (.ref (zN Z)) = .ref q from congrArg Value.ref (adS_s ad (zN Z) q)] at this
  exact this
theorem j_newi {x : Int32} (len : Nat) (hd : decode μ.2.1 pc = .ok (.newarray .int, 2)) (hx9 : x = nI len) (hl : len < 10000) (hkk : okK Z) (hrf : rfOK (zN Z) lv st) (hn : zN Z + 1 < 1000) (hcl : uc + 1 ≤ Rc.cells ∧ us + len ≤ Rc.slots) (k : JW g μ Rc Qf (pc + 2) lv (.ref (zN Z) :: st) (uc + 1) (us + len) (zNew Z 7 len) (upR I (zN Z) (fun _ => 0)) (upL L (zN Z) 0)) : JW g μ Rc Qf pc lv (.int x :: st) uc us Z I L := by
  intro p e R s m args below meth c D tc A ad0 n0 hC ad H locs ls hR
  obtain ⟨hx, hb, hr, hml, hown, hts, hlk, hnm, hRc, hA, hKK, hRO, hNW⟩ := id hC
  subst hRc
  subst hx9
  refine va_newa (atype := .int) (ty := .int) (a0 := (len, .inl (fun _ => 0))) hx hb (hts _ (gin (List.mem_of_getElem? (i := 81) (by decide +kernel)) rfl)) rfl hKK hR.1 hR.2.1 hR.2.2.1 hA (fun _ => rfl) (nI_pos (by omega)) (nI_clamp (by omega)) (by show len * 4 ≤ 536870912; omega) hcl.1 hcl.2 hd (fun q cA H1 hK1 hP1 hD1 hS1 => ?_)
  have e1 := va_nm_int (hK1.2 3 (cA, .int) rfl).2
  have e2 := va_nm_int (hKK.2 0 (tc.1, .int) rfl).2
  have ec : cA = tc.1 := Option.some.inj (e1.symm.trans e2)
  subst ec
  have hce : cE tc (adS ad (zN Z) q) (zNew Z 7 len) (upR I (zN Z) (fun _ => 0)) (upL L (zN Z) 0) (zN Z) = .inl (tc.1, (len, .inl (fun _ => 0))) := by
    rw [cE_i (zNew_Ks Z 7 len), zNew_Ls, upR_s]
  rw [← hce] at hP1 hD1
  obtain ⟨hR1, hst⟩ := rl_new (st := st) hR hkk hrf (by omega) hn hP1 hD1 hS1
  have := k p e R s m args below meth c D tc A ad0 n0 hC _ H1 locs ls hR1
  rw [List.map_cons, hst] at this
  rw [show cv (adS ad (zN Z) q) (.ref (zN Z)) = .ref q from congrArg Value.ref (adS_s ad (zN Z) q)] at this
  exact this
theorem j_newz {x : Int32} (len : Nat) (hd : decode μ.2.1 pc = .ok (.newarray .boolean, 2)) (hx9 : x = nI len) (hl : len < 10000) (hkk : okK Z) (hrf : rfOK (zN Z) lv st) (hn : zN Z + 1 < 1000) (hcl : uc + 1 ≤ Rc.cells ∧ us + len ≤ Rc.slots) (k : JW g μ Rc Qf (pc + 2) lv (.ref (zN Z) :: st) (uc + 1) (us + len) (zNew Z 8 len) (upR I (zN Z) (fun _ => 0)) (upL L (zN Z) 0)) : JW g μ Rc Qf pc lv (.int x :: st) uc us Z I L := by
  intro p e R s m args below meth c D tc A ad0 n0 hC ad H locs ls hR
  obtain ⟨hx, hb, hr, hml, hown, hts, hlk, hnm, hRc, hA, hKK, hRO, hNW⟩ := id hC
  subst hRc
  subst hx9
  refine va_newa (atype := .boolean) (ty := .boolean) (a0 := (len, .inl (fun _ => 0))) hx hb (hts _ (gin (List.mem_of_getElem? (i := 317) (by decide +kernel)) rfl)) rfl hKK hR.1 hR.2.1 hR.2.2.1 hA (fun _ => rfl) (nI_pos (by omega)) (nI_clamp (by omega)) (by show len * 1 ≤ 536870912; omega) hcl.1 hcl.2 hd (fun q cA H1 hK1 hP1 hD1 hS1 => ?_)
  have e1 := va_nm_boolean (hK1.2 3 (cA, .boolean) rfl).2
  have e2 := va_nm_boolean (hKK.2 1 (tc.2.1, .boolean) rfl).2
  have ec : cA = tc.2.1 := Option.some.inj (e1.symm.trans e2)
  subst ec
  have hce : cE tc (adS ad (zN Z) q) (zNew Z 8 len) (upR I (zN Z) (fun _ => 0)) (upL L (zN Z) 0) (zN Z) = .inl (tc.2.1, (len, .inl (fun _ => 0))) := by
    rw [cE_z (zNew_Ks Z 8 len), zNew_Ls, upR_s]
  rw [← hce] at hP1 hD1
  obtain ⟨hR1, hst⟩ := rl_new (st := st) hR hkk hrf (by omega) hn hP1 hD1 hS1
  have := k p e R s m args below meth c D tc A ad0 n0 hC _ H1 locs ls hR1
  rw [List.map_cons, hst] at this
  rw [show cv (adS ad (zN Z) q) (.ref (zN Z)) = .ref q from congrArg Value.ref (adS_s ad (zN Z) q)] at this
  exact this
theorem j_newq {x : Int32} {idx : Nat} (len : Nat) (hd : decode μ.2.1 pc = .ok (.anewarray idx, 3)) (hw : Cond.classLink μ.1.cls idx RX2 ∈ lw_tbl) (hx9 : x = nI len) (hl : len < 10000) (hkk : okK Z) (hrf : rfOK (zN Z) lv st) (hn : zN Z + 1 < 1000) (hcl : uc + 1 ≤ Rc.cells ∧ us + len ≤ Rc.slots) (k : JW g μ Rc Qf (pc + 3) lv (.ref (zN Z) :: st) (uc + 1) (us + len) (zNew Z 9 len) (upR I (zN Z) (fun _ => 0)) (upL L (zN Z) 0)) : JW g μ Rc Qf pc lv (.int x :: st) uc us Z I L := by
  intro p e R s m args below meth c D tc A ad0 n0 hC ad H locs ls hR
  obtain ⟨hx, hb, hr, hml, hown, hts, hlk, hnm, hRc, hA, hKK, hRO, hNW⟩ := id hC
  subst hRc
  subst hx9
  refine va_newq (C := RX2) hx hb hown (hts _ (gin hw rfl)) hNW.2.2.2 hKK hR.1 hR.2.1 hR.2.2.1 hA (nI_pos (by omega)) (nI_clamp (by omega)) (by omega) hcl.1 hcl.2 hd (fun q cA H1 hK1 hP1 hD1 hS1 => ?_)
  obtain ⟨_, _, _, _, _, e1⟩ := (hK1.2 3 (cA, .object RX2) rfl).2
  obtain ⟨_, _, _, _, _, e2⟩ := (hKK.2 2 (tc.2.2, .object RX2) rfl).2
  have ec : cA = tc.2.2 := Option.some.inj (e1.symm.trans e2)
  subst ec
  have hce : cE tc (adS ad (zN Z) q) (zNew Z 9 len) (upR I (zN Z) (fun _ => 0)) (upL L (zN Z) 0) (zN Z) = .inl (tc.2.2, (len, .inr (.inr (.inr (.inr (fun _ => none)))))) := by
    rw [cE_q (zNew_Ks Z 9 len), zNew_Ls]
    congr 7
    funext i
    rw [zNew_Ss]
    rfl
  rw [← hce] at hP1 hD1
  obtain ⟨hR1, hst⟩ := rl_new (st := st) hR hkk hrf (by omega) hn hP1 hD1 hS1
  have := k p e R s m args below meth c D tc A ad0 n0 hC _ H1 locs ls hR1
  rw [List.map_cons, hst] at this
  rw [show cv (adS ad (zN Z) q) (.ref (zN Z)) = .ref q from congrArg Value.ref (adS_s ad (zN Z) q)] at this
  exact this
theorem cE_zS {tc : TC} {ad : Nat → Nat} {a f b : Nat} (h : b ≠ a) : cE tc ad (zSet Z a f) I L b = cE tc ad Z I L b := by
  have hs : ∀ j, zS (zSet Z a f) b j = zS Z b j := fun j => zSet_n (fun z => h z.1)
  unfold cE
  rw [zSet_K, zSet_L]
  have hv : fV ad (zSet Z a f) I L b = fV ad Z I L b := by
    funext j
    unfold fV
    rw [zSet_K, hs]
  rw [hv]
  simp only [hs]
theorem j_aast {a b : Nat} {x : Int32} (j : Nat) (hd : decode μ.2.1 pc = .ok (.aastore, 1)) (hx9 : x = nI j) (hb9 : aB a + 7 * j = b) (hKa : zK Z a = 9) (hj : j < zL Z a) (hKb : zK Z b = 2) (k : JW g μ Rc Qf (pc + 1) lv st uc us (zSet Z a j) I L) : JW g μ Rc Qf pc lv (.ref b :: .int x :: .ref a :: st) uc us Z I L := by
  intro p e R s m args below meth c D tc A ad0 n0 hC ad H locs ls hR
  obtain ⟨hx, hb, hr, hml, hown, hts, hlk, hnm, hRc, hA, hKK, hRO, hNW⟩ := id hC
  have ha := rl_lt hR hKa (by decide)
  have hbl := rl_lt hR hKb (by decide)
  have hlz := hR.2.2.2.2.1.2.1 a
  subst hx9
  have hclamp : (nI j).toNatClampNeg = j := nI_clamp (by omega)
  refine va_astq hx hb hKK hR.1 hR.2.1 hR.2.2.1 a 2 b 2 (r := (RX2, TX2, 15)) ((wS_get ha).trans (by rw [cE_q hKa])) rfl ((wS_get hbl).trans (by rw [cE_o hKb (by decide)])) rfl (nI_in hj (by omega)) hd (fun H1 locs1 hP1 hD1 hS1 => ?_)
  have hset : (wS tc ad Z I L).set a (ad a, .inl (tc.2.2, (zL Z a, .inr (.inr (.inr (.inr (va_up (fun i => if zS Z a i = true then some (ad (aB a + 7 * i)) else none) (nI j).toNatClampNeg (some (ad b))))))))) = wS tc ad (zSet Z a j) I L := by
    refine wS_set ha rfl ?_ (fun c _ hc => cE_zS hc)
    rw [cE_q (show zK (zSet Z a j) a = 9 from hKa), zSet_L, hclamp]
    congr 7
    funext i
    unfold va_up
    by_cases e : i = j
    · subst e
      rw [zSet_s, if_pos rfl, if_pos rfl, hb9]
    · rw [zSet_n (fun z => e z.2), if_neg e]
  rw [hset] at hP1 hD1
  refine k p e R s m args below meth c D tc A ad0 n0 hC ad H1 locs1 ls ⟨hP1, hD1, hS1, hR.2.2.2.1, zSet_ok hR.2.2.2.2.1 ?_, hR.2.2.2.2.2⟩
  unfold tG
  rw [if_pos hKa, hb9]
  exact hbl
theorem j_oinit {a idx : Nat} (hd : decode μ.2.1 pc = .ok (.invokespecial idx, 3)) (hw : Cond.methodLink μ.1.cls idx Lib.objectInit ∈ lw_tbl) (k : JW g μ Rc Qf (pc + 3) lv st uc us Z I L) (hfr : 1 ≤ Rc.frames := by exact Nat.le_of_ble_eq_true rfl) (hlo : 40 ≤ Rc.locals := by exact Nat.le_of_ble_eq_true rfl) (hst : (st.map (fun v => v.category)).sum ≤ 8 := by exact Nat.le_of_ble_eq_true rfl) : JW g μ Rc Qf pc lv (.ref a :: st) uc us Z I L := by
  intro p e R s m args below meth c D tc A ad0 n0 hC ad H locs ls hR
  obtain ⟨hx, hb, hr, hml, hown, hts, hlk, hnm, hRc, hA, hKK, hRO, hNW⟩ := id hC
  subst hRc
  have h8 := st_room ad hst
  refine W.objInit hx hb hown (hts _ (gin hw rfl)) (hts _ (gin (List.mem_of_getElem? (i := 65) (by decide +kernel)) rfl)) (hts _ (gin (List.mem_of_getElem? (i := 66) (by decide +kernel)) rfl)) rfl (by rw [hml]; exact hR.2.2.2.1.1) rfl hd hfr ?_ (k p e R s m args below meth c D tc A ad0 n0 hC ad H locs ls hR)
  show 2 * 0 + ((st.map (cv ad)).map fun v => v.category).sum + 12 ≤ R.locals
  omega
end JA
theorem dfX0 : ∀ j, j < 3 → defaultValue (tyX0 j) = vp_V ((List.range 3).map (dfV 0)) j
  | 0, _ => rfl
  | 1, _ => rfl
  | 2, _ => rfl
  | j + 3, h => absurd h (by omega)
theorem nwd0 {own : String} {idx : Nat} (hw : Cond.classLink own idx RX0 ∈ lw_tbl) : NWd own idx 0 := ⟨RX0, TX0, 3, tyX0, rfl, rfl, by decide, inX0, tyX0_ok, hw, List.mem_of_getElem? (i := 261) (by decide +kernel), List.mem_of_getElem? (i := 55) (by decide +kernel), dfX0⟩
theorem dfX1 : ∀ j, j < 9 → defaultValue (tyX1 j) = vp_V ((List.range 9).map (dfV 1)) j
  | 0, _ => rfl
  | 1, _ => rfl
  | 2, _ => rfl
  | 3, _ => rfl
  | 4, _ => rfl
  | 5, _ => rfl
  | 6, _ => rfl
  | 7, _ => rfl
  | 8, _ => rfl
  | j + 9, h => absurd h (by omega)
theorem nwd1 {own : String} {idx : Nat} (hw : Cond.classLink own idx RX1 ∈ lw_tbl) : NWd own idx 1 := ⟨RX1, TX1, 9, tyX1, rfl, rfl, by decide, inX1, tyX1_ok, hw, List.mem_of_getElem? (i := 83) (by decide +kernel), List.mem_of_getElem? (i := 50) (by decide +kernel), dfX1⟩
theorem dfX2 : ∀ j, j < 15 → defaultValue (tyX2 j) = vp_V ((List.range 15).map (dfV 2)) j
  | 0, _ => rfl
  | 1, _ => rfl
  | 2, _ => rfl
  | 3, _ => rfl
  | 4, _ => rfl
  | 5, _ => rfl
  | 6, _ => rfl
  | 7, _ => rfl
  | 8, _ => rfl
  | 9, _ => rfl
  | 10, _ => rfl
  | 11, _ => rfl
  | 12, _ => rfl
  | 13, _ => rfl
  | 14, _ => rfl
  | j + 15, h => absurd h (by omega)
theorem nwd2 {own : String} {idx : Nat} (hw : Cond.classLink own idx RX2 ∈ lw_tbl) : NWd own idx 2 := ⟨RX2, TX2, 15, tyX2, rfl, rfl, by decide, inX2, tyX2_ok, hw, List.mem_of_getElem? (i := 146) (by decide +kernel), List.mem_of_getElem? (i := 53) (by decide +kernel), dfX2⟩
theorem dfX3 : ∀ j, j < 9 → defaultValue (tyX3 j) = vp_V ((List.range 9).map (dfV 3)) j
  | 0, _ => rfl
  | 1, _ => rfl
  | 2, _ => rfl
  | 3, _ => rfl
  | 4, _ => rfl
  | 5, _ => rfl
  | 6, _ => rfl
  | 7, _ => rfl
  | 8, _ => rfl
  | j + 9, h => absurd h (by omega)
theorem nwd3 {own : String} {idx : Nat} (hw : Cond.classLink own idx RX3 ∈ lw_tbl) : NWd own idx 3 := ⟨RX3, TX3, 9, tyX3, rfl, rfl, by decide, inX3, tyX3_ok, hw, List.mem_of_getElem? (i := 152) (by decide +kernel), List.mem_of_getElem? (i := 54) (by decide +kernel), dfX3⟩
theorem dfX4 : ∀ j, j < 2 → defaultValue (tyX4 j) = vp_V ((List.range 2).map (dfV 4)) j
  | 0, _ => rfl
  | 1, _ => rfl
  | j + 2, h => absurd h (by omega)
theorem nwd4 {own : String} {idx : Nat} (hw : Cond.classLink own idx RX4 ∈ lw_tbl) : NWd own idx 4 := ⟨RX4, TX4, 2, tyX4, rfl, rfl, by decide, inX4, tyX4_ok, hw, List.mem_of_getElem? (i := 68) (by decide +kernel), List.mem_of_getElem? (i := 49) (by decide +kernel), dfX4⟩
theorem dfX5 : ∀ j, j < 12 → defaultValue (tyX5 j) = vp_V ((List.range 12).map (dfV 5)) j
  | 0, _ => rfl
  | 1, _ => rfl
  | 2, _ => rfl
  | 3, _ => rfl
  | 4, _ => rfl
  | 5, _ => rfl
  | 6, _ => rfl
  | 7, _ => rfl
  | 8, _ => rfl
  | 9, _ => rfl
  | 10, _ => rfl
  | 11, _ => rfl
  | j + 12, h => absurd h (by omega)
theorem nwd5 {own : String} {idx : Nat} (hw : Cond.classLink own idx RX5 ∈ lw_tbl) : NWd own idx 5 := ⟨RX5, TX5, 12, tyX5, rfl, rfl, by decide, inX5, tyX5_ok, hw, List.mem_of_getElem? (i := 60) (by decide +kernel), List.mem_of_getElem? (i := 48) (by decide +kernel), dfX5⟩
theorem dfX6 : ∀ j, j < 27 → defaultValue (tyX6 j) = vp_V ((List.range 27).map (dfV 6)) j
  | 0, _ => rfl
  | 1, _ => rfl
  | 2, _ => rfl
  | 3, _ => rfl
  | 4, _ => rfl
  | 5, _ => rfl
  | 6, _ => rfl
  | 7, _ => rfl
  | 8, _ => rfl
  | 9, _ => rfl
  | 10, _ => rfl
  | 11, _ => rfl
  | 12, _ => rfl
  | 13, _ => rfl
  | 14, _ => rfl
  | 15, _ => rfl
  | 16, _ => rfl
  | 17, _ => rfl
  | 18, _ => rfl
  | 19, _ => rfl
  | 20, _ => rfl
  | 21, _ => rfl
  | 22, _ => rfl
  | 23, _ => rfl
  | 24, _ => rfl
  | 25, _ => rfl
  | 26, _ => rfl
  | j + 27, h => absurd h (by omega)
theorem nwd6 {own : String} {idx : Nat} (hw : Cond.classLink own idx RX6 ∈ lw_tbl) : NWd own idx 6 := ⟨RX6, TX6, 27, tyX6, rfl, rfl, by decide, inX6, tyX6_ok, hw, List.mem_of_getElem? (i := 711) (by decide +kernel), List.mem_of_getElem? (i := 56) (by decide +kernel), dfX6⟩
theorem clL_7 : Cond.classLink RL 7 RX5 ∈ lw_tbl := List.mem_of_getElem? (i := 59) (by decide +kernel)
theorem clL_10 : Cond.classLink RL 10 RX6 ∈ lw_tbl := List.mem_of_getElem? (i := 710) (by decide +kernel)
theorem clX5_7 : Cond.classLink RX5 7 RX4 ∈ lw_tbl := List.mem_of_getElem? (i := 67) (by decide +kernel)
theorem clX5_16 : Cond.classLink RX5 16 RX1 ∈ lw_tbl := List.mem_of_getElem? (i := 82) (by decide +kernel)
theorem clX5_23 : Cond.classLink RX5 23 RX2 ∈ lw_tbl := List.mem_of_getElem? (i := 145) (by decide +kernel)
theorem clX5_30 : Cond.classLink RX5 30 RX0 ∈ lw_tbl := List.mem_of_getElem? (i := 260) (by decide +kernel)
theorem clX2_9 : Cond.classLink RX2 9 RX3 ∈ lw_tbl := List.mem_of_getElem? (i := 151) (by decide +kernel)
theorem clX0_9 : Cond.classLink RX0 9 RX2 ∈ lw_tbl := List.mem_of_getElem? (i := 266) (by decide +kernel)
theorem oiX0 : Cond.methodLink RX0 3 Lib.objectInit ∈ lw_tbl := List.mem_of_getElem? (i := 265) (by decide +kernel)
theorem oiX1 : Cond.methodLink RX1 3 Lib.objectInit ∈ lw_tbl := List.mem_of_getElem? (i := 87) (by decide +kernel)
theorem oiX2 : Cond.methodLink RX2 3 Lib.objectInit ∈ lw_tbl := List.mem_of_getElem? (i := 150) (by decide +kernel)
theorem oiX3 : Cond.methodLink RX3 3 Lib.objectInit ∈ lw_tbl := List.mem_of_getElem? (i := 156) (by decide +kernel)
theorem oiX4 : Cond.methodLink RX4 3 Lib.objectInit ∈ lw_tbl := List.mem_of_getElem? (i := 72) (by decide +kernel)
theorem oiX5 : Cond.methodLink RX5 1 Lib.objectInit ∈ lw_tbl := List.mem_of_getElem? (i := 64) (by decide +kernel)
theorem oiX6 : Cond.methodLink RX6 1 Lib.objectInit ∈ lw_tbl := List.mem_of_getElem? (i := 715) (by decide +kernel)
