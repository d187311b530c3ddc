/-! THE CLASS'S OWN CELLS -/
theorem REC.vc {V V' : IT} {ρ : RT} (h : REC V ρ) (e : ∀ j, j < 7 → V' j = V j) : REC V' ρ := by
  unfold REC SHW PTS at h ⊢
  rw [e 0 (by decide), e 1 (by decide), e 2 (by decide), e 3 (by decide), e 4 (by decide), e 5 (by decide), e 6 (by decide)]
  exact h
theorem rec_wr {I V : IT} {r : Nat} {ρ : RT} (h : REC V ρ) : REC (vw (wr I r V) r) ρ := h.vc (fun _ hj => wr_at I r V hj)
theorem rec_fr {I I' : IT} {s : Nat} {ρ : RT} (h : REC (vw I s) ρ) (e : ∀ j, j < 7 → I' (s + j) = I (s + j)) : REC (vw I' s) ρ := h.vc e
theorem c_copy {g : GT} {Z : ZT} {I : IT} {L : LT} {Post : PT} {r s : Nat} {ρ : RT} (hZ : isR Z r) (hZs : isR Z s) (hd : s + 7 ≤ r ∨ r + 7 ≤ s) (hS : REC (vw I s) ρ) (h2 : ρ 3 = 0 ∨ ρ 3 = 1) (hp : ∀ V', REC V' ρ → Post none Z (wr I r V') L) : CM g 2 0 0 mX2_copyFrom [.ref r, .ref s] Z I L Post := by
  have h := c_copyFrom (g := g) (V := vw I r) hZ hZs hd hS h2 hp
  rw [wr_vw] at h
  exact h
theorem c_clr {g : GT} {Z : ZT} {I : IT} {L : LT} {Post : PT} {r : Nat} (hZ : isR Z r) (hp : ∀ V', REC V' fr0 → Post none Z (wr I r V') L) : CM g 3 0 0 mX2_clear [.ref r] Z I L Post := by
  have h := c_clear (g := g) (V := vw I r) hZ hp
  rw [wr_vw] at h
  exact h
theorem c_hears {g : GT} {Z : ZT} {I : IT} {L : LT} {Post : PT} {r n R : Nat} {ρ : RT} {c : CT} (hZ : isR Z r) (hZc : isCo Z) (hc : CC I c) (hr : 8 ≤ r) (hV : REC (vw I r) ρ) (hok : OKr c.2.2.1 ρ) (hn : n ≤ 60) (hR : R < 2 ^ 62) (hp : ∀ V', REC V' (hsF c n ρ R) → Post none Z (wr I r V') L) : CM g 5 0 0 mX2_hearBits [.ref r, .ref 3, .long (lN R), .int (nI n)] Z I L Post := by
  have h := c_cHearBits (g := g) (V := vw I r) hZ hZc hc hr hV hok hn hR hp
  rw [wr_vw] at h
  exact h
theorem c_sync {g : GT} {Z : ZT} {I : IT} {L : LT} {Post : PT} {r : Nat} {ρ : RT} (hK : zK Z r = 2) (hV : REC (vw I r) ρ) (h2 : ρ 3 = 0 ∨ ρ 3 = 1) (hp : Post (some (.int (ρ 3))) Z I L) : CM g 0 0 0 mX2_syncBit [.ref r] Z I L Post := by
  have h := c_syncBit (g := g) (I := I) (Z := Z) (L := L) (Post := Post) (V := vw I r) hK hV h2 (by rw [wr_vw]; exact hp)
  rw [wr_vw] at h
  exact h
theorem c_over {g : GT} {Z : ZT} {I : IT} {L : LT} {Post : PT} {r : Nat} {ρ : RT} (hZ : isR Z r) (hV : REC (vw I r) ρ) (h2 : ρ 3 = 0 ∨ ρ 3 = 1) (hp : ∀ V', REC V' (rsF ρ) → Post none Z (wr I r V') L) : CM g 2 0 0 mX2_startOver [.ref r] Z I L Post := by
  have h := c_startOver (g := g) (V := vw I r) hZ hV h2 hp
  rw [wr_vw] at h
  exact h
theorem c_tel {g : GT} {Z : ZT} {I : IT} {L : LT} {Post : PT} {r w : Nat} {ρ : RT} (hK : zK Z r = 2) (hV : REC (vw I r) ρ) (h2 : ρ 3 = 0 ∨ ρ 3 = 1) (h3 : 3 ≤ w) (h12 : w ≤ 12) (hp : Post (some (.int (tlF ρ w))) Z I L) : CM g 1 0 0 mX2_tell [.ref r, .int (nI w)] Z I L Post := by
  have h := c_tell (g := g) (I := I) (Z := Z) (L := L) (Post := Post) (V := vw I r) hK hV h2 h3 h12 (by rw [wr_vw]; exact hp)
  rw [wr_vw] at h
  exact h
theorem c_cnt {g : GT} {Z : ZT} {I : IT} {L : LT} {Post : PT} {r w : Nat} {ρ : RT} (hK : zK Z r = 2) (hV : REC (vw I r) ρ) (hw : w ≤ 2) (hp : Post (some (.int (ρ (10 + w)))) Z I L) : CM g 0 0 0 mX2_countOf [.ref r, .int (nI w)] Z I L Post := by
  have h := c_countOf (g := g) (I := I) (Z := Z) (L := L) (Post := Post) (V := vw I r) hK hV hw (by rw [wr_vw]; exact hp)
  rw [wr_vw] at h
  exact h
theorem c_index {g : GT} {Z : ZT} {I : IT} {L : LT} {Post : PT} {r m : Nat} {x : Int32} {ρ : RT} (hZ : isR Z r) (hV : SHW (vw I r) ρ) (hm : ρ 30 = nI m) (hm8 : m ≤ 8) (hp : ∀ q, q < m → nI (abN ρ q m) = x → Post (some (.int (nI q))) Z I L) (hn : (∀ q, q < m → nI (abN ρ q m) ≠ x) → Post (some (.int (-1))) Z I L) : CM g 1 0 0 mX3_indexInOrder [.ref (r + 1), .int x] Z I L Post := by
  have h := c_indexInOrder (g := g) (I := I) (Z := Z) (L := L) (Post := Post) (V := vw I r) (x := x) hZ hV hm hm8 (by rw [wr_vw]; exact hp) (by rw [wr_vw]; exact hn)
  rw [wr_vw] at h
  exact h
def isA (Z : ZT) : Prop := zK Z 15 = 0 ∧ zS Z 15 0 = true ∧ zK Z 16 = 9 ∧ zL Z 16 = 14 ∧ (∀ i, i < 14 → zS Z 16 i = true) ∧ (∀ i, i < 14 → isR Z (17 + 7 * i))
def cA (I : IT) (nx ac : Nat) (dn : Nat → RT) : Prop := nx < 14 ∧ ac ≤ 14 ∧ I 15 1 = nI nx ∧ I 15 2 = nI ac ∧ ∀ j, j < ac → REC (vw I (17 + 7 * ((nx + 13 - j) % 14))) (dn ((nx + 13 - j) % 14))
def dnU (dn : Nat → RT) (i : Nat) (ρ : RT) : Nat → RT := fun k => if k = i then ρ else dn k
theorem min14 {n : Nat} (h : n ≤ 14) : (if (14 : Int32) < nI (n + 1) then (14 : Int32) else nI (n + 1)) = nI (min (n + 1) 14) := by
  rcases Nat.lt_or_ge 14 (n + 1) with z | z
  · rw [if_pos (show (14 : Int32) < nI (n + 1) from nI_lt (a := 14) z (by omega)), Nat.min_eq_right (by omega)]; rfl
  · rw [if_neg (show ¬ (14 : Int32) < nI (n + 1) from nI_nlt (a := 14) z (by decide)), Nat.min_eq_left z]
theorem c_remember {g : GT} {Z : ZT} {I : IT} {L : LT} {Post : PT} {nx ac : Nat} {dn : Nat → RT} {ρ : RT} (hA : isA Z) (hN : isR Z 8) (hc : cA I nx ac dn) (hV : REC (vw I 8) ρ) (h2 : ρ 3 = 0 ∨ ρ 3 = 1) (hp : ∀ I', (∀ a, a < 15 ∨ 115 ≤ a → I' a = I a) → cA I' ((nx + 1) % 14) (min (ac + 1) 14) (dnU dn nx ρ) → Post none Z I' L) : CM g 3 0 0 mX0_remember [.ref 15, .ref 8] Z I L Post := by
  obtain ⟨a1, a2, a3, a4, a5, a6⟩ := id hA
  obtain ⟨b1, b2, b3, b4, b5⟩ := id hc
  have a5n := a5 nx b1
  have k1 := (a6 nx b1).1
  refine CM_intro ?_
  refine j_aload_n 0 dX0_remember_0 rfl (j_getR (b := 16) dX0_remember_1 fX0_11 rfl (by first | assumption | rfl) (by first | assumption | rfl) (j_aload_n 0 dX0_remember_4 rfl (j_getI dX0_remember_5 fX0_17 (by first | assumption | rfl) (j_aaload (b := 17 + 7 * nx) nx dX0_remember_8 b3 rfl (by first | assumption | rfl) (by omega) (by first | assumption | rfl) (j_aload_n 1 dX0_remember_9 rfl (j_V1 dX0_remember_10 kX0_25 (by first | assumption | rfl) (c_copy (a6 nx b1) hN (by omega) hV h2 ?_)))))))
  intro V' hV'
  have e15 : wr I (17 + 7 * nx) V' 15 = I 15 := wr_n (by omega)
  refine j_aload_n 0 dX0_remember_13 rfl (j_aload_n 0 dX0_remember_14 rfl (j_getI dX0_remember_15 fX0_17 (by first | assumption | rfl) (j_iconst (v := 1) dX0_remember_18 rfl (j_iadd dX0_remember_19 ?_))))
  rw [e15, b3, nI_1]
  refine j_bipush (v := 14) dX0_remember_20 rfl (j_irem dX0_remember_22 (by decide) ?_)
  rw [show nI (nx + 1) - nI (nx + 1) / 14 * 14 = nI ((nx + 1) % 14) from remI (d := 14) (by omega) (by decide) (by decide)]
  refine j_putI dX0_remember_23 fX0_17 (by first | assumption | rfl) (j_aload_n 0 dX0_remember_26 rfl (j_aload_n 0 dX0_remember_27 rfl (j_getI dX0_remember_28 fX0_21 (by first | assumption | rfl) (j_iconst (v := 1) dX0_remember_31 rfl (j_iadd dX0_remember_32 ?_)))))
  have eac : (upI (wr I (17 + 7 * nx) V') 15 1 (nI ((nx + 1) % 14))) 15 2 = nI ac := by
    show wr I (17 + 7 * nx) V' 15 2 = _
    rw [e15]
    exact b4
  rw [eac, nI_1]
  refine j_bipush (v := 14) dX0_remember_33 rfl (j_mmin dX0_remember_35 kX0_29 ?_)
  rw [min14 b2]
  refine j_putI dX0_remember_38 fX0_21 (by first | assumption | rfl) (j_vret dX0_remember_41 ?_)
  have fr : ∀ a, a ≠ 15 → upI (upI (wr I (17 + 7 * nx) V') 15 1 (nI ((nx + 1) % 14))) 15 2 (nI (min (ac + 1) 14)) a = wr I (17 + 7 * nx) V' a := fun a ha => by
    show upR _ 15 _ a = _
    rw [upR_n ha]
    show upR _ 15 _ a = _
    rw [upR_n ha]
  refine hp _ (fun a ha => ?_) ⟨Nat.mod_lt _ (by decide), Nat.min_le_right _ _, ?_, ?_, fun j hj => ?_⟩
  · rw [fr a (by omega), wr_n (by omega)]
  · rfl
  · rfl
  · by_cases e : j = 0
    · subst e
      rw [show ((nx + 1) % 14 + 13 - 0) % 14 = nx by omega]
      refine rec_fr (I := wr I (17 + 7 * nx) V') ?_ (fun j hj => fr _ (by omega))
      rw [show dnU dn nx ρ nx = ρ from if_pos rfl]
      exact rec_wr hV'
    · have hi : ((nx + 1) % 14 + 13 - j) % 14 = (nx + 13 - (j - 1)) % 14 := by omega
      have hne : (nx + 13 - (j - 1)) % 14 ≠ nx := by omega
      have h14 : (nx + 13 - (j - 1)) % 14 < 14 := Nat.mod_lt _ (by decide)
      rw [hi]
      rw [show dnU dn nx ρ ((nx + 13 - (j - 1)) % 14) = dn ((nx + 13 - (j - 1)) % 14) from if_neg hne]
      refine rec_fr (b5 (j - 1) (by omega)) (fun i hi => ?_)
      rw [fr _ (by omega), wr_n (by omega)]
theorem c_takeBack {g : GT} {Z : ZT} {I : IT} {L : LT} {Post : PT} {nx ac : Nat} {dn : Nat → RT} (hA : isA Z) (hN : isR Z 8) (hc : cA I nx ac dn) (h2 : ∀ j, j < ac → dn ((nx + 13 - j) % 14) 3 = 0 ∨ dn ((nx + 13 - j) % 14) 3 = 1) (h0 : ac = 0 → Post (some (.int 0)) Z I L) (hp : 0 < ac → ∀ I', (∀ a, a < 8 ∨ 16 ≤ a → I' a = I a) → cA I' ((nx + 13) % 14) (ac - 1) dn → REC (vw I' 8) (dn ((nx + 13) % 14)) → Post (some (.int 1)) Z I' L) : CM g 3 0 0 mX0_takeBack [.ref 15, .ref 8] Z I L Post := by
  obtain ⟨a1, a2, a3, a4, a5, a6⟩ := id hA
  obtain ⟨b1, b2, b3, b4, b5⟩ := id hc
  have hm : (nx + 13) % 14 < 14 := Nat.mod_lt _ (by decide)
  have a5n := a5 _ hm
  have k1 := hN.1
  refine CM_intro ?_
  refine j_aload_n 0 dX0_takeBack_0 rfl (j_getI dX0_takeBack_1 fX0_21 (by first | assumption | rfl) (j_if_ne (tgt := 9) dX0_takeBack_4 rfl (fun h1 => ?_) (fun h1 => ?_)))
  · rw [b4] at h1
    have hac : 0 < ac := Nat.pos_of_ne_zero (fun z => h1 (by rw [z]; rfl))
    refine j_aload_n 0 dX0_takeBack_9 rfl (j_aload_n 0 dX0_takeBack_10 rfl (j_getI dX0_takeBack_11 fX0_17 (by first | assumption | rfl) (j_bipush (v := 14) dX0_takeBack_14 rfl (j_iadd dX0_takeBack_16 (j_iconst (v := 1) dX0_takeBack_17 rfl (j_isub dX0_takeBack_18 ?_))))))
    rw [b3, show nI nx + (14 : Int32) - 1 = nI (nx + 13) from by rw [show (14 : Int32) = nI 14 from rfl, nI_add, show (1 : Int32) = nI 1 from rfl, pk_sub (by omega)]; exact congrArg nI (by omega)]
    refine j_bipush (v := 14) dX0_takeBack_19 rfl (j_irem dX0_takeBack_21 (by decide) ?_)
    rw [show nI (nx + 13) - nI (nx + 13) / 14 * 14 = nI ((nx + 13) % 14) from remI (d := 14) (by omega) (by decide) (by decide)]
    refine j_putI dX0_takeBack_22 fX0_17 (by first | assumption | rfl) (j_aload_n 0 dX0_takeBack_25 rfl (j_dup dX0_takeBack_26 rfl (j_getI dX0_takeBack_27 fX0_21 (by first | assumption | rfl) (j_iconst (v := 1) dX0_takeBack_30 rfl (j_isub dX0_takeBack_31 ?_)))))
    rw [show (upI I 15 1 (nI ((nx + 13) % 14))) 15 2 = nI ac from b4, show nI ac - (1 : Int32) = nI (ac - 1) from pk_sub (b := 1) (by omega)]
    have fr : ∀ a, a ≠ 15 → upI (upI I 15 1 (nI ((nx + 13) % 14))) 15 2 (nI (ac - 1)) a = I a := fun a ha => by
      show upR _ 15 _ a = _
      rw [upR_n ha]
      show upR _ 15 _ a = _
      rw [upR_n ha]
    refine j_putI dX0_takeBack_32 fX0_21 (by first | assumption | rfl) (j_aload_n 1 dX0_takeBack_35 rfl (j_aload_n 0 dX0_takeBack_36 rfl (j_getR (b := 16) dX0_takeBack_37 fX0_11 rfl (by first | assumption | rfl) (by first | assumption | rfl) (j_aload_n 0 dX0_takeBack_40 rfl (j_getI dX0_takeBack_41 fX0_17 (by first | assumption | rfl) (j_aaload (b := 17 + 7 * ((nx + 13) % 14)) ((nx + 13) % 14) dX0_takeBack_44 (by first | assumption | rfl) rfl (by first | assumption | rfl) (by omega) (by first | assumption | rfl) (j_V1 dX0_takeBack_45 kX0_25 (by first | assumption | rfl) (c_copy hN (a6 _ hm) (by omega) (rec_fr (b5 0 hac) (fun j hj => fr _ (by omega))) (h2 0 hac) ?_))))))))
    intro V' hV'
    refine j_iconst (v := 1) dX0_takeBack_48 rfl (j_zret dX0_takeBack_49 (by decide) ?_)
    have fr2 : ∀ a, a < 8 ∨ 15 ≤ a → wr (upI (upI I 15 1 (nI ((nx + 13) % 14))) 15 2 (nI (ac - 1))) 8 V' a = upI (upI I 15 1 (nI ((nx + 13) % 14))) 15 2 (nI (ac - 1)) a := fun a ha => wr_n (by omega)
    refine hp hac _ (fun a ha => ?_) ⟨hm, by omega, ?_, ?_, fun j hj => ?_⟩ (rec_wr hV')
    · rw [fr2 a (by omega), fr a (by omega)]
    · rw [fr2 15 (by omega)]; rfl
    · rw [fr2 15 (by omega)]; rfl
    · rw [show ((nx + 13) % 14 + 13 - j) % 14 = (nx + 13 - (j + 1)) % 14 by omega]
      have h14 : (nx + 13 - (j + 1)) % 14 < 14 := Nat.mod_lt _ (by decide)
      refine rec_fr (b5 (j + 1) (by omega)) (fun i hi => ?_)
      rw [fr2 _ (by omega), fr _ (by omega)]
  · rw [b4] at h1
    refine j_iconst (v := 0) dX0_takeBack_7 rfl (j_zret dX0_takeBack_8 (by decide) ?_)
    exact h0 (nI_inj (b := 0) (by omega) (by decide) h1)
theorem c_forget {g : GT} {Z : ZT} {I : IT} {L : LT} {Post : PT} (hK : zK Z 15 = 0) (hp : Post none Z (upI I 15 2 0) L) : CM g 0 0 0 mX0_forget [.ref 15] Z I L Post := by
  refine CM_intro ?_
  refine j_aload_n 0 dX0_forget_0 rfl (j_iconst (v := 0) dX0_forget_1 rfl (j_putI dX0_forget_2 fX0_21 (by first | assumption | rfl) (j_vret dX0_forget_5 ?_)))
  exact hp
theorem cA.gone {I : IT} {nx ac : Nat} {dn : Nat → RT} (h : cA I nx ac dn) : cA (upI I 15 2 0) nx 0 dn := ⟨h.1, Nat.zero_le _, h.2.2.1, rfl, fun _ hj => absurd hj (Nat.not_lt_zero _)⟩
theorem cA.fr {I I' : IT} {nx ac : Nat} {dn : Nat → RT} (h : cA I nx ac dn) (e : ∀ a, 15 ≤ a → a < 115 → I' a = I a) : cA I' nx ac dn := by
  obtain ⟨h1, h2, h3, h4, h5⟩ := h
  refine ⟨h1, h2, by rw [e 15 (by omega) (by omega)]; exact h3, by rw [e 15 (by omega) (by omega)]; exact h4, fun j hj => ?_⟩
  have : (nx + 13 - j) % 14 < 14 := Nat.mod_lt _ (by decide)
  exact rec_fr (h5 j hj) (fun i hi => e _ (by omega) (by omega))
