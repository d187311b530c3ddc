theorem c_fill {g : GT} {Z : ZT} {I : IT} {L : LT} {Post : PT} {a n : Nat} {v : Int32} (hK : zK Z a = 7) (hL : zL Z a = n) (hn : n < 2 ^ 31) (hp : Post none Z (upR I a (flF (I a) v n)) L) : CM g 0 0 0 mJ7_fill_53178 [.ref a, .int v] Z I L Post := by
  refine CM_intro ?_
  have loop : ∀ (m k : Nat), k + m = n → JW g mJ7_fill_53178 (rmO 0 0 0) (QM Post 0 0) 5 [(3, .int (nI n)), (2, .int (nI k)), (0, .ref a), (1, .int v)] [] 0 0 Z (upR I a (flF (I a) v k)) L := by
    intro m
    induction m with
    | zero =>
      intro k hk
      have : k = n := by omega
      subst this
      refine j_iload_n 1 dJ7_fill_53178_5 rfl (j_iload_n 0 dJ7_fill_53178_6 rfl (j_icmp_ge (tgt := 20) dJ7_fill_53178_7 rfl (fun h1 => ?_) (fun h1 => ?_)))
      · refine j_vret dJ7_fill_53178_20 ?_
        exact hp
      · exact absurd (Int32.le_refl _) h1
    | succ m ih =>
      intro k hk
      refine j_iload_n 1 dJ7_fill_53178_5 rfl (j_iload_n 0 dJ7_fill_53178_6 rfl (j_icmp_ge (tgt := 20) dJ7_fill_53178_7 rfl (fun h1 => ?_) (fun h1 => ?_)))
      · exact absurd h1 (nI_ge (show k < n by omega) hn)
      · refine j_aload_n 2 dJ7_fill_53178_10 rfl (j_iload_n 1 dJ7_fill_53178_11 rfl (j_iload_n 3 dJ7_fill_53178_12 rfl (j_iastore k dJ7_fill_53178_13 (by first | assumption | rfl) (by first | assumption | rfl) (by omega) (j_iinc (y := 1) (lv' := [(2, _), (3, _), (0, _), (1, _)]) 1 dJ7_fill_53178_14 rfl rfl rfl (j_goto (tgt := 5) dJ7_fill_53178_17 rfl ?_)))))
        simp only [upI, upR_R, upR_s, flF_s]
        rw [nI_1]
        exact JW.locals [1, 0, 2, 3] rfl (ih (k + 1) (by omega))
  refine j_iconst (v := 0) dJ7_fill_53178_0 rfl (j_istore_n (lv' := [(2, _), (0, _), (1, _)]) dJ7_fill_53178_1 rfl (j_aload_n 1 dJ7_fill_53178_2 rfl (j_alen (v := nI n) dJ7_fill_53178_3 (by first | exact Or.inl (by first | assumption | rfl) | exact Or.inr (by first | assumption | rfl)) (by rw [hL]) (j_istore_n (lv' := [(3, _), (2, _), (0, _), (1, _)]) dJ7_fill_53178_4 rfl ?_))))
  have h0 := loop n 0 (by omega)
  rw [flF_0, fa_self] at h0
  exact h0
theorem c_nextOffset {g : GT} {Z : ZT} {I : IT} {L : LT} {Post : PT} {k : Nat} (hp : Post (some (.int (nI ((k + 1) % 4)))) Z I L) : CM g 0 0 0 mX5_nextOffset [.int (nI k)] Z I L Post := by
  refine CM_intro ?_
  refine j_iload_n 0 dX5_nextOffset_0 rfl (j_iconst (v := 1) dX5_nextOffset_1 rfl (j_iadd dX5_nextOffset_2 (j_iconst (v := 3) dX5_nextOffset_3 rfl (j_iand dX5_nextOffset_4 (j_iret dX5_nextOffset_5 ?_)))))
  rw [nI_1, and3]
  exact hp
theorem c_cRestOf {g : GT} {Z : ZT} {I : IT} {L : LT} {Post : PT} {gn w : Nat} (h1 : zK Z 3 = 1) (h2 : zS Z 3 1 = true) (h3 : zK Z 5 = 7) (h4 : zL Z 5 = 256) (hI : I 5 (w / 64) = nI (lfN gn (64 * (w / 64)))) (hw : w < 16384) (hp : Post (some (.int (nI (lfN gn w)))) Z I L) : CM g 0 0 0 mX1_restOf [.ref 3, .int (nI w)] Z I L Post := by
  refine CM_intro ?_
  refine j_aload_n 0 dX1_restOf_0 rfl (j_getR (b := 5) dX1_restOf_1 fX1_15 rfl (by first | assumption | rfl) (by first | assumption | rfl) (j_iload_n 1 dX1_restOf_4 rfl (j_bipush (v := 6) dX1_restOf_5 rfl (j_ishr dX1_restOf_7 (j_sipush (v := 255) dX1_restOf_8 rfl (j_iand dX1_restOf_11 (j_iaload (w / 64) dX1_restOf_12 (by rw [show (6 : Int32) = nI 6 from rfl, shrI (by omega) (by decide), and255]; exact congrArg nI (Nat.mod_eq_of_lt (by omega))) (by first | assumption | rfl) (by omega) (j_iload_n 1 dX1_restOf_13 rfl (j_bipush (v := 63) dX1_restOf_14 rfl (j_iand dX1_restOf_16 (j_ixor dX1_restOf_17 (j_iret dX1_restOf_18 ?_))))))))))))
  rw [hI, and63, fb_xorI, ← lfN_split]
  exact hp
theorem c_restFor {g : GT} {Z : ZT} {I : IT} {L : LT} {Post : PT} {c : CT} {k w : Nat} (hZ : isCo Z) (hc : CC I c) (hk : k < 4) (hw : w < 16384) (hp : Post (some (.int (nI (lfN c.1 (w ^^^ c.2.1 k))))) Z I L) : CM g 1 0 0 mX1_restFor [.ref 3, .int (nI k), .int (nI w)] Z I L Post := by
  obtain ⟨z1, z2, z3, z4, z5, z6, z7, z8, z9, z10, z11, z12, z13⟩ := id hZ
  obtain ⟨c1, c2, c3, c4, c5, c6, c7, c8, c9, c10, c11⟩ := id hc
  refine CM_intro ?_
  refine j_aload_n 0 dX1_restFor_0 rfl (j_iload_n 2 dX1_restFor_1 rfl (j_V1 dX1_restFor_2 kX1_71 (by first | assumption | rfl) (c_cRestOf z1 z3 z8 z9 (c8 _ (by omega)) hw (j_aload_n 0 dX1_restFor_5 rfl (j_getR (b := 4) dX1_restFor_6 fX1_9 rfl (by first | assumption | rfl) (by first | assumption | rfl) (j_iload_n 1 dX1_restFor_9 rfl (j_iaload k dX1_restFor_10 (by first | assumption | rfl) (by first | assumption | rfl) (by omega) (j_ixor dX1_restFor_11 (j_iret dX1_restFor_12 ?_)))))))))
  rw [c3 k hk, fb_xorI]
  rw [lfN_xor, lfN_id c.1 (c4 k hk)] at hp
  exact hp
theorem or_low {a b : Nat} (hb : b < 64) : (a * 64) ||| b = 64 * a + b := by
  rw [Nat.mul_comm a 64, show (64 : Nat) = 2 ^ 6 from rfl]
  exact (Nat.two_pow_add_eq_or_of_lt (i := 6) hb a).symm
theorem c_plainWord {g : GT} {Z : ZT} {I : IT} {L : LT} {Post : PT} {c : CT} {d : Nat} (hZ : isCo Z) (hc : CC I c) (hd : d < 256) (hp : Post (some (.int (nI (64 * d + lfN c.1 (64 * d))))) Z I L) : CM g 0 0 0 mX1_plainWord [.ref 3, .int (nI d)] Z I L Post := by
  obtain ⟨z1, z2, z3, z4, z5, z6, z7, z8, z9, z10, z11, z12, z13⟩ := id hZ
  obtain ⟨c1, c2, c3, c4, c5, c6, c7, c8, c9, c10, c11⟩ := id hc
  refine CM_intro ?_
  refine j_iload_n 1 dX1_plainWord_0 rfl (j_bipush (v := 6) dX1_plainWord_1 rfl (j_ishl dX1_plainWord_3 (j_aload_n 0 dX1_plainWord_4 rfl (j_getR (b := 5) dX1_plainWord_5 fX1_15 rfl (by first | assumption | rfl) (by first | assumption | rfl) (j_iload_n 1 dX1_plainWord_8 rfl (j_iaload d dX1_plainWord_9 (by first | assumption | rfl) (by first | assumption | rfl) (by omega) (j_ior dX1_plainWord_10 (j_iret dX1_plainWord_11 ?_))))))))
  rw [show (6 : Int32) = nI 6 from rfl, shlI (by omega) (by decide), c8 d hd, fa_or, show d * 2 ^ 6 = d * 64 from rfl, or_low (lfN_lt c2 (by omega))]
  exact hp
theorem xor_low {a b c : Nat} (hb : b < 64) (hc : c < 64) : (64 * a + b) ^^^ c = 64 * a + (b ^^^ c) := by
  have hx := xor_lt64 hb hc
  have e1 : 64 * a + b = (64 * a) ^^^ b := by
    conv => lhs; rw [split6 (w := 64 * a + b)]
    rw [show (64 * a + b) / 64 = a by omega, show (64 * a + b) % 64 = b by omega]
  have e2 : 64 * a + (b ^^^ c) = (64 * a) ^^^ (b ^^^ c) := by
    conv => lhs; rw [split6 (w := 64 * a + (b ^^^ c))]
    rw [show (64 * a + (b ^^^ c)) / 64 = a by omega, show (64 * a + (b ^^^ c)) % 64 = b ^^^ c by omega]
  rw [e1, e2, Nat.xor_assoc]
theorem c_cWordOf {g : GT} {Z : ZT} {I : IT} {L : LT} {Post : PT} {c : CT} {k d : Nat} (hZ : isCo Z) (hc : CC I c) (hk : k < 4) (hd : d < 256) (hp : Post (some (.int (nI (wdN c k d)))) Z I L) : CM g 1 0 0 mX1_wordOf [.ref 3, .int (nI k), .int (nI d)] Z I L Post := by
  obtain ⟨z1, z2, z3, z4, z5, z6, z7, z8, z9, z10, z11, z12, z13⟩ := id hZ
  obtain ⟨c1, c2, c3, c4, c5, c6, c7, c8, c9, c10, c11⟩ := id hc
  refine CM_intro ?_
  refine j_aload_n 0 dX1_wordOf_0 rfl (j_iload_n 2 dX1_wordOf_1 rfl (j_V1 dX1_wordOf_2 kX1_74 (by first | assumption | rfl) (c_plainWord hZ hc hd (j_aload_n 0 dX1_wordOf_5 rfl (j_getR (b := 4) dX1_wordOf_6 fX1_9 rfl (by first | assumption | rfl) (by first | assumption | rfl) (j_iload_n 1 dX1_wordOf_9 rfl (j_iaload k dX1_wordOf_10 (by first | assumption | rfl) (by first | assumption | rfl) (by omega) (j_ixor dX1_wordOf_11 (j_iret dX1_wordOf_12 ?_)))))))))
  rw [c3 k hk, fb_xorI, xor_low (lfN_lt c2 (by omega)) (c4 k hk)]
  exact hp
theorem c_hitOf {g : GT} {Z : ZT} {I : IT} {L : LT} {Post : PT} {c : CT} {w : Nat} (hZ : isCo Z) (hc : CC I c) (hw : w < 16384) (hp : Post (some (.int (if hitN c w = 4 then -9 else nI (hitN c w)))) Z I L) : CM g 1 0 0 mX1_hitOf [.ref 3, .int (nI w)] Z I L Post := by
  obtain ⟨z1, z2, z3, z4, z5, z6, z7, z8, z9, z10, z11, z12, z13⟩ := id hZ
  obtain ⟨c1, c2, c3, c4, c5, c6, c7, c8, c9, c10, c11⟩ := id hc
  have hx := lfN_lt c2 hw
  refine CM_intro ?_
  refine j_aload_n 0 dX1_hitOf_0 rfl (j_getR (b := 6) dX1_hitOf_1 fX1_18 rfl (by first | assumption | rfl) (by first | assumption | rfl) (j_aload_n 0 dX1_hitOf_4 rfl (j_iload_n 1 dX1_hitOf_5 rfl (j_V1 dX1_hitOf_6 kX1_71 (by first | assumption | rfl) (c_cRestOf z1 z3 z8 z9 (c8 _ (by omega)) hw (j_iaload (lfN c.1 w) dX1_hitOf_9 (by first | assumption | rfl) (by first | assumption | rfl) (by omega) (j_iret dX1_hitOf_10 ?_)))))))
  rw [c9 _ hx, ← hitN_R]
  exact hp
/-- what a BLOCK is taken for -/
def bkI (c : CT) (k w : Nat) : Int32 := if lfN c.1 (w ^^^ c.2.1 k) = 0 then nI w else if c.2.2.2 (lfN c.1 (w ^^^ c.2.1 k)) = 0 then -9 else nI (w ^^^ c.2.2.2 (lfN c.1 (w ^^^ c.2.1 k)))
theorem c_blockOf {g : GT} {Z : ZT} {I : IT} {L : LT} {Post : PT} {c : CT} {k w : Nat} (hZ : isCo Z) (hc : CC I c) (hk : k < 4) (hw : w < 16384) (hp : Post (some (.int (bkI c k w))) Z I L) : CM g 1 0 0 mX1_blockOf [.ref 3, .int (nI w), .int (nI (lfN c.1 (w ^^^ c.2.1 k)))] Z I L Post := by
  obtain ⟨z1, z2, z3, z4, z5, z6, z7, z8, z9, z10, z11, z12, z13⟩ := id hZ
  obtain ⟨c1, c2, c3, c4, c5, c6, c7, c8, c9, c10, c11⟩ := id hc
  have hx : lfN c.1 (w ^^^ c.2.1 k) < 64 := lfN_lt c2 (xor_lt14 hw (Nat.lt_trans (c4 k hk) (by decide)))
  have hs := c11 _ hx
  unfold bkI at hp
  generalize lfN c.1 (w ^^^ c.2.1 k) = x at hx hp hs ⊢
  refine CM_intro ?_
  refine j_iload_n 2 dX1_blockOf_0 rfl (j_if_ne (tgt := 6) dX1_blockOf_1 rfl (fun h1 => ?_) (fun h1 => ?_))
  · rw [if_neg (fun z => h1 (by rw [z]; rfl))] at hp
    refine j_aload_n 0 dX1_blockOf_6 rfl (j_getR (b := 7) dX1_blockOf_7 fX1_21 rfl (by first | assumption | rfl) (by first | assumption | rfl) (j_iload_n 2 dX1_blockOf_10 rfl (j_iaload x dX1_blockOf_11 (by first | assumption | rfl) (by first | assumption | rfl) (by omega) (j_if_ne (tgt := 20) dX1_blockOf_12 rfl (fun h2 => ?_) (fun h2 => ?_)))))
    · rw [c10 x hx] at h2
      rw [if_neg (fun z => h2 (by rw [z]; rfl))] at hp
      refine j_iload_n 1 dX1_blockOf_20 rfl (j_aload_n 0 dX1_blockOf_21 rfl (j_getR (b := 7) dX1_blockOf_22 fX1_21 rfl (by first | assumption | rfl) (by first | assumption | rfl) (j_iload_n 2 dX1_blockOf_25 rfl (j_iaload x dX1_blockOf_26 (by first | assumption | rfl) (by first | assumption | rfl) (by omega) (j_ixor dX1_blockOf_27 (j_iret dX1_blockOf_28 ?_))))))
      rw [c10 x hx, fb_xorI]
      exact hp
    · rw [c10 x hx] at h2
      rw [if_pos (nI_inj (b := 0) (by omega) (by decide) h2)] at hp
      refine j_bipush (v := -9) dX1_blockOf_15 rfl (j_goto (tgt := 28) dX1_blockOf_17 rfl (j_iret dX1_blockOf_28 ?_))
      exact hp
  · rw [if_pos (nI_inj (b := 0) (by omega) (by decide) h1)] at hp
    refine j_iload_n 1 dX1_blockOf_4 rfl (j_iret dX1_blockOf_5 ?_)
    exact hp
/-- what becomes of a set of turned bits -/
def ftN (c : CT) (s : Nat) : Nat := if lfN c.1 s = 0 then 0 else if c.2.2.2 (lfN c.1 s) = 0 then 3 else if c.2.2.2 (lfN c.1 s) = s then 1 else 2
theorem c_fateOf {g : GT} {Z : ZT} {I : IT} {L : LT} {Post : PT} {c : CT} {w : Nat} (hZ : isCo Z) (hc : CC I c) (hw : w < 16384) (hp : Post (some (.int (nI (ftN c w)))) Z I L) : CM g 1 0 0 mX1_fateOf [.ref 3, .int (nI w)] Z I L Post := by
  obtain ⟨z1, z2, z3, z4, z5, z6, z7, z8, z9, z10, z11, z12, z13⟩ := id hZ
  obtain ⟨c1, c2, c3, c4, c5, c6, c7, c8, c9, c10, c11⟩ := id hc
  have hx : lfN c.1 w < 64 := lfN_lt c2 hw
  unfold ftN at hp
  refine CM_intro ?_
  refine j_aload_n 0 dX1_fateOf_0 rfl (j_iload_n 1 dX1_fateOf_1 rfl (j_V1 dX1_fateOf_2 kX1_71 (by first | assumption | rfl) (c_cRestOf z1 z3 z8 z9 (c8 _ (by omega)) hw (j_istore_n (lv' := [(2, _), (0, _), (1, _)]) dX1_fateOf_5 rfl (j_iload_n 0 dX1_fateOf_6 rfl (j_if_ne (tgt := 12) dX1_fateOf_7 rfl (fun h1 => ?_) (fun h1 => ?_)))))))
  · rw [if_neg (fun z => h1 (by rw [z]; rfl))] at hp
    have hs := c11 _ hx
    generalize lfN c.1 w = x at hx hp hs ⊢
    refine j_aload_n 1 dX1_fateOf_12 rfl (j_getR (b := 7) dX1_fateOf_13 fX1_21 rfl (by first | assumption | rfl) (by first | assumption | rfl) (j_iload_n 0 dX1_fateOf_16 rfl (j_iaload x dX1_fateOf_17 (by first | assumption | rfl) (by first | assumption | rfl) (by omega) (j_if_ne (tgt := 23) dX1_fateOf_18 rfl (fun h2 => ?_) (fun h2 => ?_)))))
    · rw [c10 x hx] at h2
      rw [if_neg (fun z => h2 (by rw [z]; rfl))] at hp
      refine j_aload_n 1 dX1_fateOf_23 rfl (j_getR (b := 7) dX1_fateOf_24 fX1_21 rfl (by first | assumption | rfl) (by first | assumption | rfl) (j_iload_n 0 dX1_fateOf_27 rfl (j_iaload x dX1_fateOf_28 (by first | assumption | rfl) (by first | assumption | rfl) (by omega) (j_iload_n 2 dX1_fateOf_29 rfl (j_icmp_ne (tgt := 37) dX1_fateOf_30 rfl (fun h3 => ?_) (fun h3 => ?_))))))
      · rw [c10 x hx] at h3
        rw [if_neg (fun z => h3 (by rw [z]))] at hp
        refine j_iconst (v := 2) dX1_fateOf_37 rfl (j_iret dX1_fateOf_38 ?_)
        exact hp
      · rw [c10 x hx] at h3
        rw [if_pos (nI_inj (by omega) (by omega) h3)] at hp
        refine j_iconst (v := 1) dX1_fateOf_33 rfl (j_goto (tgt := 38) dX1_fateOf_34 rfl (j_iret dX1_fateOf_38 ?_))
        exact hp
    · rw [c10 x hx] at h2
      rw [if_pos (nI_inj (b := 0) (by omega) (by decide) h2)] at hp
      refine j_iconst (v := 3) dX1_fateOf_21 rfl (j_iret dX1_fateOf_22 ?_)
      exact hp
  · rw [if_pos (nI_inj (b := 0) (by omega) (by decide) h1)] at hp
    refine j_iconst (v := 0) dX1_fateOf_10 rfl (j_iret dX1_fateOf_11 ?_)
    exact hp
