theorem c_withoutLast {g : GT} {Z : ZT} {I : IT} {L : LT} {Post : PT} {R n : Nat} (hR : R < 2 ^ 63) (hn : n < 100) (hp : Post (some (.long (lN (R / htN n)))) Z I L) : CM g 0 0 0 mX5_withoutLast [.long (lN R), .int (nI n)] Z I L Post := by
  refine CM_intro ?_
  have loop : ∀ (m k : Nat), k + m = n → JW g mX5_withoutLast (rmO 0 0 0) (QM Post 0 0) 5 [(5, .int (nI k)), (3, .long (lN (R / htN k))), (0, .long (lN R)), (2, .int (nI n))] [] 0 0 Z I L := by
    intro m
    induction m with
    | zero =>
      intro k hk
      have : k = n := by omega
      subst this
      refine j_iload 0 dX5_withoutLast_5 rfl (j_iload_n 3 dX5_withoutLast_7 rfl (j_icmp_ge (tgt := 23) dX5_withoutLast_8 rfl (fun h1 => ?_) (fun h1 => ?_)))
      · refine j_lload_n 1 dX5_withoutLast_23 rfl (j_lret dX5_withoutLast_24 ?_)
        exact hp
      · exact absurd (nI_le (Nat.le_refl _) (by omega)) h1
    | succ m ih =>
      intro k hk
      have hi := ih (k + 1) (by omega)
      have hle : R / htN k ≤ R := Nat.div_le_self _ _
      refine j_iload 0 dX5_withoutLast_5 rfl (j_iload_n 3 dX5_withoutLast_7 rfl (j_icmp_ge (tgt := 23) dX5_withoutLast_8 rfl (fun h1 => ?_) (fun h1 => ?_)))
      · exact absurd h1 (nI_ge (by omega) (by omega))
      · refine j_lload_n 1 dX5_withoutLast_11 rfl (j_ldc2 (v := 100000) dX5_withoutLast_12 (List.mem_of_getElem? (i := 625) (by decide +kernel)) (j_ldiv dX5_withoutLast_15 (by decide) ?_))
        rw [show lN (R / htN k) / (100000 : Int64) = lN (R / htN k / 100000) from pk_lDiv (b := 100000) (by omega) (by decide) (by decide), Nat.div_div_eq_div_mul, show htN k * 100000 = htN (k + 1) from (Nat.pow_succ _ _).symm]
        refine j_lstore_n (lv' := [(3, _), (5, _), (0, _), (2, _)]) dX5_withoutLast_16 rfl (j_iinc (y := 1) (lv' := [(5, _), (3, _), (0, _), (2, _)]) 1 dX5_withoutLast_17 rfl rfl rfl (j_goto (tgt := 5) dX5_withoutLast_20 rfl ?_))
        rw [nI_1]
        exact JW.locals [0, 1, 2, 3] rfl hi
  have h0 := loop n 0 (by omega)
  rw [show R / htN 0 = R from Nat.div_one R] at h0
  refine j_lload_n 0 dX5_withoutLast_0 rfl (j_lstore_n (lv' := [(3, _), (0, _), (2, _)]) dX5_withoutLast_1 rfl (j_iconst (v := 0) dX5_withoutLast_2 rfl (j_istore (lv' := [(5, _), (3, _), (0, _), (2, _)]) dX5_withoutLast_3 rfl ?_)))
  exact JW.locals [0, 1, 2, 3] rfl h0
theorem c_canHear {g : GT} {Z : ZT} {I : IT} {L : LT} {Post : PT} {r a d : Nat} {c : CT} {σ : RT} (x0 : zK Z 0 = 5) (y1 : zS Z 0 1 = true) (hZ : isR Z r) (hr : 8 ≤ r) (xC : isCo Z) (sC : CC I c) (oC : okC c) (hV : REC (vw I r) σ) (ho : OKz c σ) (ha : a < 4) (hd : d < 256) (hp : ∀ V', REC V' (hsF c 14 σ (wdN c a d)) → Post (some (.int 1)) Z (wr I r V') L) : CM g 6 0 0 mX5_canHear [.ref 0, .ref r, .int (nI a), .int (nI d)] Z I L Post := by
  have k1 := hZ.1
  have k2 := xC.1
  have hw := wdN_lt oC.2.2.1 (oC.2.2.2.1 a ha) hd
  refine CM_intro ?_
  refine j_iload_n 2 dX5_canHear_0 rfl (j_S1 dX5_canHear_1 kX5_109 (c_isOffset ⟨fun _ _ _ => ?_, fun h => absurd rfl (h a ha)⟩))
  refine j_if_eq (tgt := 14) dX5_canHear_4 rfl (fun h9 => absurd h9 (by decide)) (fun _ => (j_iload_n 3 dX5_canHear_7 rfl (j_S1 dX5_canHear_8 kX5_161 (c_isByte ⟨fun _ _ _ => ?_, fun h => absurd rfl (h d hd)⟩))))
  refine j_if_ne (tgt := 16) dX5_canHear_11 rfl (fun _ => (j_aload_n 1 dX5_canHear_16 rfl (j_aload_n 0 dX5_canHear_17 rfl (j_getR (b := 3) dX5_canHear_18 fX5_19 rfl (by first | assumption | rfl) (by first | assumption | rfl) (j_aload_n 0 dX5_canHear_21 rfl (j_getR (b := 3) dX5_canHear_22 fX5_19 rfl (by first | assumption | rfl) (by first | assumption | rfl) (j_iload_n 2 dX5_canHear_25 rfl (j_iload_n 3 dX5_canHear_26 rfl (j_V2 dX5_canHear_27 kX5_164 (by first | assumption | rfl) (c_cWordOf xC sC ha hd ?_)))))))))) (fun h9 => absurd h9 (by decide))
  refine j_i2l dX5_canHear_30 ?_
  rw [nI_l (by omega)]
  refine j_bipush (v := 14) dX5_canHear_31 rfl (j_V3 dX5_canHear_33 kX5_204 (by first | assumption | rfl) (c_hears (n := 14) hZ xC sC hr hV ho.1 (by decide) (by omega) (fun V' hV' => ?_)))
  refine j_iconst (v := 1) dX5_canHear_36 rfl (j_zret dX5_canHear_37 (by decide) ?_)
  exact hp V' hV'
theorem c_canHearNot {g : GT} {Z : ZT} {I : IT} {L : LT} {Post : PT} {r a d : Nat} (h : ¬ (a < 4 ∧ d < 256)) (ha : a < 2 ^ 31) (hd : d < 2 ^ 31) (hp : Post (some (.int 0)) Z I L) : CM g 6 0 0 mX5_canHear [.ref 0, .ref r, .int (nI a), .int (nI d)] Z I L Post := by
  refine CM_intro ?_
  by_cases ha4 : a < 4
  · refine j_iload_n 2 dX5_canHear_0 rfl (j_S1 dX5_canHear_1 kX5_109 (c_isOffset ⟨fun _ _ _ => ?_, fun h => absurd rfl (h a ha4)⟩))
    refine j_if_eq (tgt := 14) dX5_canHear_4 rfl (fun h9 => absurd h9 (by decide)) (fun _ => (j_iload_n 3 dX5_canHear_7 rfl (j_S1 dX5_canHear_8 kX5_161 (c_isByte ⟨fun j hj e => absurd (nI_inj hd (by omega) e) (by omega), fun _ => ?_⟩))))
    refine j_if_ne (tgt := 16) dX5_canHear_11 rfl (fun h9 => absurd (by decide) h9) (fun _ => (j_iconst (v := 0) dX5_canHear_14 rfl (j_zret dX5_canHear_15 (by decide) ?_)))
    exact hp
  · refine j_iload_n 2 dX5_canHear_0 rfl (j_S1 dX5_canHear_1 kX5_109 (c_isOffset ⟨fun j hj e => absurd (nI_inj ha (by omega) e) (by omega), fun _ => ?_⟩))
    refine j_if_eq (tgt := 14) dX5_canHear_4 rfl (fun _ => (j_iconst (v := 0) dX5_canHear_14 rfl (j_zret dX5_canHear_15 (by decide) ?_))) (fun h9 => absurd (by decide) h9)
    exact hp
theorem c_canReset {g : GT} {Z : ZT} {I : IT} {L : LT} {Post : PT} {r : Nat} {σ : RT} (hZ : isR Z r) (hV : REC (vw I r) σ) (h2 : σ 3 = 0 ∨ σ 3 = 1) (hp : ∀ V', REC V' (rsF σ) → Post (some (.int 1)) Z (wr I r V') L) : CM g 3 0 0 mX5_canReset [.ref r, .int 20000] Z I L Post := by
  have k1 := hZ.1
  refine CM_intro ?_
  refine j_iload_n 1 dX5_canReset_0 rfl (j_sipush (v := 20000) dX5_canReset_1 rfl (j_icmp_eq (tgt := 9) dX5_canReset_4 rfl (fun _ => (j_aload_n 0 dX5_canReset_9 rfl (j_V0 dX5_canReset_10 kX5_221 (by first | assumption | rfl) (c_over hZ hV h2 (fun V' hV' => ?_))))) (fun h9 => absurd (by decide) h9)))
  refine j_iconst (v := 1) dX5_canReset_13 rfl (j_zret dX5_canReset_14 (by decide) ?_)
  exact hp V' hV'
theorem c_canResetNot {g : GT} {Z : ZT} {I : IT} {L : LT} {Post : PT} {r : Nat} {x : Int32} (hx : x ≠ 20000) (hp : Post (some (.int 0)) Z I L) : CM g 3 0 0 mX5_canReset [.ref r, .int x] Z I L Post := by
  refine CM_intro ?_
  refine j_iload_n 1 dX5_canReset_0 rfl (j_sipush (v := 20000) dX5_canReset_1 rfl (j_icmp_eq (tgt := 9) dX5_canReset_4 rfl (fun h1 => ?_) (fun h1 => ?_)))
  · exact absurd h1 hx
  · refine j_iconst (v := 0) dX5_canReset_7 rfl (j_zret dX5_canReset_8 (by decide) ?_)
    exact hp
