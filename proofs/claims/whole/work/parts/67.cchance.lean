noncomputable def wsN (c : CT) (G : Int32) (x : Nat) : Nat → Nat → RT → Nat
  | 0, _, σ => if σ 3 = 1 then 1 else 0
  | r + 1, d, σ => (10 - x) * wsN c G x r (d + 1) (hsF c 14 σ (gwN c G 0 (d % 4))) + x * wsN c G x r (d + 1) (hsF c 14 σ (gwN c G 15 (d % 4)))
theorem ws_le {c : CT} {G : Int32} {x : Nat} (hx : x ≤ 10) : ∀ (r d : Nat) (σ : RT), wsN c G x r d σ ≤ 10 ^ r
  | 0, _, σ => by
    show (if σ 3 = 1 then 1 else 0) ≤ 1
    split <;> omega
  | r + 1, d, σ => by
    have h1 := ws_le (c := c) (G := G) hx r (d + 1) (hsF c 14 σ (gwN c G 0 (d % 4)))
    have h2 := ws_le (c := c) (G := G) hx r (d + 1) (hsF c 14 σ (gwN c G 15 (d % 4)))
    show (10 - x) * wsN c G x r (d + 1) (hsF c 14 σ (gwN c G 0 (d % 4))) + x * wsN c G x r (d + 1) (hsF c 14 σ (gwN c G 15 (d % 4))) ≤ 10 ^ (r + 1)
    have h3 := Nat.mul_le_mul (Nat.le_refl (10 - x)) h1
    have h4 := Nat.mul_le_mul (Nat.le_refl x) h2
    have h5 : (10 - x) * 10 ^ r + x * 10 ^ r = 10 ^ (r + 1) := by
      rw [← Nat.add_mul, show 10 - x + x = 10 by omega, Nat.pow_succ, Nat.mul_comm]
    omega
theorem rt_w {c : CT} (oC : okC c) (G : Int32) : ∀ k, k < 4 → rtN c G 0 4 / 2 ^ (14 * (3 - k)) % 16384 = gwN c G 0 k := by
  intro k hk
  have h0 := gwN_lt (G := G) (t := 0) oC.2.2.1 (oC.2.2.2.1 0 (by decide))
  have h1 := gwN_lt (G := G) (t := 0) oC.2.2.1 (oC.2.2.2.1 1 (by decide))
  have h2 := gwN_lt (G := G) (t := 0) oC.2.2.1 (oC.2.2.2.1 2 (by decide))
  have h3 := gwN_lt (G := G) (t := 0) oC.2.2.1 (oC.2.2.2.1 3 (by decide))
  rw [rt_row4]
  unfold row4
  have : k = 0 ∨ k = 1 ∨ k = 2 ∨ k = 3 := by omega
  rcases this with r | r | r | r <;> subst r
  · rw [show 2 ^ (14 * (3 - 0)) = 4398046511104 from rfl]; omega
  · rw [show 2 ^ (14 * (3 - 1)) = 268435456 from rfl]; omega
  · rw [show 2 ^ (14 * (3 - 2)) = 16384 from rfl]; omega
  · rw [show 2 ^ (14 * (3 - 3)) = 1 from rfl]; omega
theorem hs_w0 {c : CT} (oC : okC c) (G : Int32) (σ : RT) {k : Nat} (hk : k < 4) : hsF c 14 σ (rtN c G 0 4 / 2 ^ (14 * (3 - k))) = hsF c 14 σ (gwN c G 0 k) := by
  rw [← hsF_mod, show 2 ^ 14 = 16384 from rfl, rt_w oC G k hk]
theorem hs_w1 {c : CT} (oC : okC c) (G : Int32) (σ : RT) {k : Nat} (hk : k < 4) : hsF c 14 σ (rtN c G 0 4 / 2 ^ (14 * (3 - k)) ^^^ 16383) = hsF c 14 σ (gwN c G 15 k) := by
  rw [← hsF_mod, Nat.xor_mod_two_pow, show 2 ^ 14 = 16384 from rfl, rt_w oC G k hk, show 16383 % 16384 = 16383 from rfl, gw0]
  unfold gwN
  rw [show (15 : Nat).testBit k = true by revert k; decide, if_pos rfl]
theorem row_lt {c : CT} (oC : okC c) (G : Int32) (s : Nat) : rtN c G 0 4 / 2 ^ s < 2 ^ 56 := Nat.lt_of_le_of_lt (Nat.div_le_self _ _) (rt_lt (G := G) (t := 0) oC.2.2.1 oC.2.2.2.1 4 (Nat.le_refl 4))
theorem c_ws0 {g : GT} {Z : ZT} {I : IT} {L : LT} {Post : PT} {c : CT} {G : Int32} {x wo d : Nat} {σ : RT} (hX : isX Z) (sC : CC I c) (oC : okC c) (hx : x ≤ 10) (hd : d + 0 = wo) (hw : wo ≤ 8) (hV : REC (vw I (135 + 7 * d)) σ) (oN : OKz c σ) (hp : ∀ I', (∀ a, a < 142 + 7 * d ∨ 198 ≤ a → I' a = I a) → Post (some (.int (nI (wsN c G x 0 d σ)))) Z I' L) : CM g 6 0 0 mX5_waysToSync [.ref 3, .ref 117, .long (lN (rtN c G 0 4)), .int (nI x), .int (nI wo), .int (nI d)] Z I L Post := by
  obtain ⟨x0, y0, y1, y2, y3, y4, y5, y6, y7, y8, y9, xT, xC, xN, xA, b1, b2, b3, b4, b5, b6, t1, t2, t3, t4, e1, e2, e3, e4, e5, e6⟩ := id hX
  have q0 := (t4 d (by omega)).1
  have s0 := t3 d (by omega)
  have hp := hp I (fun _ _ => rfl)
  have hp : Post (some (.int (nI (if σ 3 = 1 then 1 else 0)))) Z I L := hp
  refine CM_intro ?_
  refine j_iload 5 dX5_waysToSync_0 rfl (j_iload 4 dX5_waysToSync_2 rfl (j_icmp_ge (tgt := 16) dX5_waysToSync_4 rfl (fun g1 => ?_) (fun g1 => ?_)))
  · refine j_aload_n 1 dX5_waysToSync_16 rfl (j_iload 5 dX5_waysToSync_17 rfl (j_aaload (b := 135 + 7 * d) d dX5_waysToSync_19 (by first | assumption | rfl) rfl (by first | assumption | rfl) (by omega) (by first | assumption | rfl) (j_V0 dX5_waysToSync_20 kX5_208 (by first | assumption | rfl) (c_sync q0 hV oN.1.2.1 ?_))))
    refine j_iret dX5_waysToSync_23 ?_
    rcases oN.1.2.1 with e | e
    · rw [e, if_neg (by decide)] at hp
      rw [e]
      exact hp
    · rw [e, if_pos rfl] at hp
      rw [e]
      exact hp
  · exact absurd (nI_le (by omega) (by omega)) g1
theorem c_ws1 {g : GT} {Z : ZT} {I : IT} {L : LT} {Post : PT} {c : CT} {G : Int32} {x wo d : Nat} {σ : RT} (hX : isX Z) (sC : CC I c) (oC : okC c) (hx : x ≤ 10) (hd : d + 1 = wo) (hw : wo ≤ 8) (hV : REC (vw I (135 + 7 * d)) σ) (oN : OKz c σ) (hp : ∀ I', (∀ a, a < 142 + 7 * d ∨ 198 ≤ a → I' a = I a) → Post (some (.int (nI (wsN c G x 1 d σ)))) Z I' L) : CM g 7 0 0 mX5_waysToSync [.ref 3, .ref 117, .long (lN (rtN c G 0 4)), .int (nI x), .int (nI wo), .int (nI d)] Z I L Post := by
  obtain ⟨x0, y0, y1, y2, y3, y4, y5, y6, y7, y8, y9, xT, xC, xN, xA, b1, b2, b3, b4, b5, b6, t1, t2, t3, t4, e1, e2, e3, e4, e5, e6⟩ := id hX
  have q0 := (t4 d (by omega)).1
  have s0 := t3 d (by omega)
  have q1 := (t4 (d + 1) (by omega)).1
  have s1 := t3 (d + 1) (by omega)
  have d4 : d % 4 < 4 := Nat.mod_lt _ (by decide)
  have hRl := row_lt oC G (14 * (3 - d % 4))
  have hp : ∀ I', (∀ a, a < 142 + 7 * d ∨ 198 ≤ a → I' a = I a) → Post (some (.int (nI ((10 - x) * wsN c G x 0 (d + 1) (hsF c 14 σ (gwN c G 0 (d % 4))) + x * wsN c G x 0 (d + 1) (hsF c 14 σ (gwN c G 15 (d % 4))))))) Z I' L := hp
  refine CM_intro ?_
  have t99 : ∀ I1 : IT, (∀ a, a < 142 + 7 * d ∨ 198 ≤ a → I1 a = I a) → JW g mX5_waysToSync (rmO 7 0 0) (QM Post 0 0) 99 [(10, .int (nI ((10 - x) * wsN c G x 0 (d + 1) (hsF c 14 σ (gwN c G 0 (d % 4)))))), (9, .ref (135 + 7 * (d + 1))), (7, .long (lN (rtN c G 0 4 / 2 ^ (14 * (3 - d % 4))))), (0, .ref 3), (1, .ref 117), (2, .long (lN (rtN c G 0 4))), (4, .int (nI x)), (5, .int (nI wo)), (6, .int (nI d))] [] 0 0 Z I1 L := by
    intro I1 e
    refine j_iload 6 dX5_waysToSync_99 rfl (j_if_le (tgt := 149) dX5_waysToSync_101 rfl (fun g1 => ?_) (fun g1 => ?_))
    · have h0 : x = 0 := by
        rcases Nat.eq_zero_or_pos x with z | z
        · exact z
        · exact absurd g1 (nI_nle z (by omega))
      subst h0
      refine j_iload 0 dX5_waysToSync_149 rfl (j_iret dX5_waysToSync_151 ?_)
      have := hp I1 e
      rw [Nat.zero_mul, Nat.add_zero] at this
      exact this
    · refine j_aload 1 dX5_waysToSync_104 rfl (j_aload_n 4 dX5_waysToSync_106 rfl (j_iload 8 dX5_waysToSync_107 rfl (j_aaload (b := 135 + 7 * d) d dX5_waysToSync_109 (by first | assumption | rfl) rfl (by first | assumption | rfl) (by omega) (by first | assumption | rfl) (j_V1 dX5_waysToSync_110 kX5_266 (by first | assumption | rfl) (c_copy (t4 (d + 1) (by omega)) (t4 d (by omega)) (by omega) (rec_fr hV (fun j hj => e _ (by omega))) oN.1.2.1 (fun V1 hV1 => ?_))))))
      refine j_aload 1 dX5_waysToSync_113 rfl (j_aload_n 3 dX5_waysToSync_115 rfl (j_lload 2 dX5_waysToSync_116 rfl (j_ldc2 (v := 16383) dX5_waysToSync_118 (List.mem_of_getElem? (i := 666) (by decide +kernel)) (j_lxor dX5_waysToSync_121 ?_))))
      rw [show (16383 : Int64) = lN 16383 from rfl, fb_xorL]
      have hxl : rtN c G 0 4 / 2 ^ (14 * (3 - d % 4)) ^^^ 16383 < 2 ^ 56 := Nat.xor_lt_two_pow hRl (by decide)
      refine j_bipush (v := 14) dX5_waysToSync_122 rfl (j_V3 dX5_waysToSync_124 kX5_204 (by first | assumption | rfl) (c_hears (n := 14) (t4 (d + 1) (by omega)) xC (sC.fr (fun a _ _ => by rw [wr_n (by omega)]; exact e a (by omega))) (by omega) (rec_wr hV1) oN.1 (by decide) (by omega) (fun V2 hV2 => ?_)))
      rw [wr_wr]
      rw [hs_w1 oC G σ d4] at hV2
      refine j_iload 0 dX5_waysToSync_127 rfl (j_iload 6 dX5_waysToSync_129 rfl (j_aload_n 3 dX5_waysToSync_131 rfl (j_aload_n 4 dX5_waysToSync_132 rfl (j_lload_n 5 dX5_waysToSync_133 rfl (j_iload 6 dX5_waysToSync_134 rfl (j_iload 7 dX5_waysToSync_136 rfl (j_iload 8 dX5_waysToSync_138 rfl (j_iconst (v := 1) dX5_waysToSync_140 rfl (j_iadd dX5_waysToSync_141 ?_)))))))))
      rw [nI_1]
      refine j_S6 dX5_waysToSync_142 kX5_269 (c_ws0 hX (sC.fr (fun a _ _ => by rw [wr_n (by omega)]; exact e a (by omega))) oC hx (by omega) hw (rec_wr hV2) (OKz.hs oC _ 14 oN) (fun I2 e2 => ?_))
      refine j_imul dX5_waysToSync_145 (j_iadd dX5_waysToSync_146 ?_)
      rw [pk_mul, nI_add]
      refine j_istore (lv' := [(10, _), (9, _), (7, _), (0, _), (1, _), (2, _), (4, _), (5, _), (6, _)]) dX5_waysToSync_147 rfl (j_iload 0 dX5_waysToSync_149 rfl (j_iret dX5_waysToSync_151 ?_))
      exact hp I2 (fun a ha => by rw [e2 a (by omega), wr_n (by omega)]; exact e a ha)
  refine j_iload 5 dX5_waysToSync_0 rfl (j_iload 4 dX5_waysToSync_2 rfl (j_icmp_ge (tgt := 16) dX5_waysToSync_4 rfl (fun g1 => ?_) (fun g1 => ?_)))
  · exact absurd g1 (nI_ge (by omega) (by omega))
  · refine j_iload 5 dX5_waysToSync_7 rfl (j_iconst (v := 1) dX5_waysToSync_9 rfl (j_iadd dX5_waysToSync_10 (j_aload_n 1 dX5_waysToSync_11 rfl (j_alen (v := (nI 9)) dX5_waysToSync_12 (by first | exact Or.inl (by first | assumption | rfl) | exact Or.inr (by first | assumption | rfl)) (congrArg nI t2) (j_icmp_lt (tgt := 24) dX5_waysToSync_13 rfl (fun g2 => ?_) (fun g2 => ?_))))))
    · refine j_lload_n 2 dX5_waysToSync_24 rfl (j_bipush (v := 14) dX5_waysToSync_25 rfl (j_iconst (v := 3) dX5_waysToSync_27 rfl (j_iload 5 dX5_waysToSync_28 rfl (j_iconst (v := 3) dX5_waysToSync_30 rfl (j_iand dX5_waysToSync_31 (j_isub dX5_waysToSync_32 (j_imul dX5_waysToSync_33 ?_)))))))
      rw [and3, sh14 _ d4]
      refine j_lshr dX5_waysToSync_34 ?_
      rw [shrL (Nat.lt_of_lt_of_le (rt_lt (G := G) (t := 0) oC.2.2.1 oC.2.2.2.1 4 (Nat.le_refl 4)) (by decide)) (by omega)]
      refine j_lstore (lv' := [(7, _), (0, _), (1, _), (2, _), (4, _), (5, _), (6, _)]) dX5_waysToSync_35 rfl (j_aload_n 2 dX5_waysToSync_37 rfl (j_iload 6 dX5_waysToSync_38 rfl (j_iconst (v := 1) dX5_waysToSync_40 rfl (j_iadd dX5_waysToSync_41 (j_aaload (b := 135 + 7 * (d + 1)) (d + 1) dX5_waysToSync_42 (nI_1 d) rfl (by first | assumption | rfl) (by omega) (by first | assumption | rfl) (j_astore (lv' := [(9, _), (7, _), (0, _), (1, _), (2, _), (4, _), (5, _), (6, _)]) dX5_waysToSync_43 rfl (j_iconst (v := 0) dX5_waysToSync_45 rfl (j_istore (lv' := [(10, _), (9, _), (7, _), (0, _), (1, _), (2, _), (4, _), (5, _), (6, _)]) dX5_waysToSync_46 rfl (j_iload 6 dX5_waysToSync_48 rfl (j_bipush (v := 10) dX5_waysToSync_50 rfl (j_icmp_ge (tgt := 99) dX5_waysToSync_52 rfl (fun g3 => ?_) (fun g3 => ?_))))))))))))
      · have h10 : 10 - x = 0 := by
          have : ¬ x < 10 := fun z => absurd g3 (nI_ge (b := 10) z (by decide))
          omega
        have := t99 I (fun _ _ => rfl)
        rw [h10, Nat.zero_mul] at this
        exact JW.locals [0, 1, 2, 3, 4, 5, 6, 7, 8] rfl this
      · refine j_aload 1 dX5_waysToSync_55 rfl (j_aload_n 4 dX5_waysToSync_57 rfl (j_iload 8 dX5_waysToSync_58 rfl (j_aaload (b := 135 + 7 * d) d dX5_waysToSync_60 (by first | assumption | rfl) rfl (by first | assumption | rfl) (by omega) (by first | assumption | rfl) (j_V1 dX5_waysToSync_61 kX5_266 (by first | assumption | rfl) (c_copy (t4 (d + 1) (by omega)) (t4 d (by omega)) (by omega) hV oN.1.2.1 (fun V1 hV1 => ?_))))))
        refine j_aload 1 dX5_waysToSync_64 rfl (j_aload_n 3 dX5_waysToSync_66 rfl (j_lload 2 dX5_waysToSync_67 rfl (j_bipush (v := 14) dX5_waysToSync_69 rfl (j_V3 dX5_waysToSync_71 kX5_204 (by first | assumption | rfl) (c_hears (n := 14) (t4 (d + 1) (by omega)) xC (sC.fr (fun a _ _ => by rw [wr_n (by omega)])) (by omega) (rec_wr hV1) oN.1 (by decide) (by omega) (fun V2 hV2 => ?_))))))
        rw [wr_wr]
        rw [hs_w0 oC G σ d4] at hV2
        refine j_iload 0 dX5_waysToSync_74 rfl (j_bipush (v := 10) dX5_waysToSync_76 rfl (j_iload 6 dX5_waysToSync_78 rfl (j_isub dX5_waysToSync_80 (j_aload_n 3 dX5_waysToSync_81 rfl (j_aload_n 4 dX5_waysToSync_82 rfl (j_lload_n 5 dX5_waysToSync_83 rfl (j_iload 6 dX5_waysToSync_84 rfl (j_iload 7 dX5_waysToSync_86 rfl (j_iload 8 dX5_waysToSync_88 rfl (j_iconst (v := 1) dX5_waysToSync_90 rfl (j_iadd dX5_waysToSync_91 ?_)))))))))))
        rw [nI_1, show (10 : Int32) - nI x = nI (10 - x) from pk_sub (a := 10) (by omega)]
        refine j_S6 dX5_waysToSync_92 kX5_269 (c_ws0 hX (sC.fr (fun a _ _ => by rw [wr_n (by omega)])) oC hx (by omega) hw (rec_wr hV2) (OKz.hs oC _ 14 oN) (fun I2 e2 => ?_))
        refine j_imul dX5_waysToSync_95 (j_iadd dX5_waysToSync_96 ?_)
        rw [pk_mul, Int32.zero_add]
        refine j_istore (lv' := [(10, _), (9, _), (7, _), (0, _), (1, _), (2, _), (4, _), (5, _), (6, _)]) dX5_waysToSync_97 rfl ?_
        exact JW.locals [0, 1, 2, 3, 4, 5, 6, 7, 8] rfl (t99 I2 (fun a ha => by rw [e2 a (by omega), wr_n (by omega)]))
    · rw [nI_1] at g2
      exact absurd (nI_lt (by omega) (by omega)) g2
theorem c_ws2 {g : GT} {Z : ZT} {I : IT} {L : LT} {Post : PT} {c : CT} {G : Int32} {x wo d : Nat} {σ : RT} (hX : isX Z) (sC : CC I c) (oC : okC c) (hx : x ≤ 10) (hd : d + 2 = wo) (hw : wo ≤ 8) (hV : REC (vw I (135 + 7 * d)) σ) (oN : OKz c σ) (hp : ∀ I', (∀ a, a < 142 + 7 * d ∨ 198 ≤ a → I' a = I a) → Post (some (.int (nI (wsN c G x 2 d σ)))) Z I' L) : CM g 8 0 0 mX5_waysToSync [.ref 3, .ref 117, .long (lN (rtN c G 0 4)), .int (nI x), .int (nI wo), .int (nI d)] Z I L Post := by
  obtain ⟨x0, y0, y1, y2, y3, y4, y5, y6, y7, y8, y9, xT, xC, xN, xA, b1, b2, b3, b4, b5, b6, t1, t2, t3, t4, e1, e2, e3, e4, e5, e6⟩ := id hX
  have q0 := (t4 d (by omega)).1
  have s0 := t3 d (by omega)
  have q1 := (t4 (d + 1) (by omega)).1
  have s1 := t3 (d + 1) (by omega)
  have d4 : d % 4 < 4 := Nat.mod_lt _ (by decide)
  have hRl := row_lt oC G (14 * (3 - d % 4))
  have hp : ∀ I', (∀ a, a < 142 + 7 * d ∨ 198 ≤ a → I' a = I a) → Post (some (.int (nI ((10 - x) * wsN c G x 1 (d + 1) (hsF c 14 σ (gwN c G 0 (d % 4))) + x * wsN c G x 1 (d + 1) (hsF c 14 σ (gwN c G 15 (d % 4))))))) Z I' L := hp
  refine CM_intro ?_
  have t99 : ∀ I1 : IT, (∀ a, a < 142 + 7 * d ∨ 198 ≤ a → I1 a = I a) → JW g mX5_waysToSync (rmO 8 0 0) (QM Post 0 0) 99 [(10, .int (nI ((10 - x) * wsN c G x 1 (d + 1) (hsF c 14 σ (gwN c G 0 (d % 4)))))), (9, .ref (135 + 7 * (d + 1))), (7, .long (lN (rtN c G 0 4 / 2 ^ (14 * (3 - d % 4))))), (0, .ref 3), (1, .ref 117), (2, .long (lN (rtN c G 0 4))), (4, .int (nI x)), (5, .int (nI wo)), (6, .int (nI d))] [] 0 0 Z I1 L := by
    intro I1 e
    refine j_iload 6 dX5_waysToSync_99 rfl (j_if_le (tgt := 149) dX5_waysToSync_101 rfl (fun g1 => ?_) (fun g1 => ?_))
    · have h0 : x = 0 := by
        rcases Nat.eq_zero_or_pos x with z | z
        · exact z
        · exact absurd g1 (nI_nle z (by omega))
      subst h0
      refine j_iload 0 dX5_waysToSync_149 rfl (j_iret dX5_waysToSync_151 ?_)
      have := hp I1 e
      rw [Nat.zero_mul, Nat.add_zero] at this
      exact this
    · refine j_aload 1 dX5_waysToSync_104 rfl (j_aload_n 4 dX5_waysToSync_106 rfl (j_iload 8 dX5_waysToSync_107 rfl (j_aaload (b := 135 + 7 * d) d dX5_waysToSync_109 (by first | assumption | rfl) rfl (by first | assumption | rfl) (by omega) (by first | assumption | rfl) (j_V1 dX5_waysToSync_110 kX5_266 (by first | assumption | rfl) (c_copy (t4 (d + 1) (by omega)) (t4 d (by omega)) (by omega) (rec_fr hV (fun j hj => e _ (by omega))) oN.1.2.1 (fun V1 hV1 => ?_))))))
      refine j_aload 1 dX5_waysToSync_113 rfl (j_aload_n 3 dX5_waysToSync_115 rfl (j_lload 2 dX5_waysToSync_116 rfl (j_ldc2 (v := 16383) dX5_waysToSync_118 (List.mem_of_getElem? (i := 666) (by decide +kernel)) (j_lxor dX5_waysToSync_121 ?_))))
      rw [show (16383 : Int64) = lN 16383 from rfl, fb_xorL]
      have hxl : rtN c G 0 4 / 2 ^ (14 * (3 - d % 4)) ^^^ 16383 < 2 ^ 56 := Nat.xor_lt_two_pow hRl (by decide)
      refine j_bipush (v := 14) dX5_waysToSync_122 rfl (j_V3 dX5_waysToSync_124 kX5_204 (by first | assumption | rfl) (c_hears (n := 14) (t4 (d + 1) (by omega)) xC (sC.fr (fun a _ _ => by rw [wr_n (by omega)]; exact e a (by omega))) (by omega) (rec_wr hV1) oN.1 (by decide) (by omega) (fun V2 hV2 => ?_)))
      rw [wr_wr]
      rw [hs_w1 oC G σ d4] at hV2
      refine j_iload 0 dX5_waysToSync_127 rfl (j_iload 6 dX5_waysToSync_129 rfl (j_aload_n 3 dX5_waysToSync_131 rfl (j_aload_n 4 dX5_waysToSync_132 rfl (j_lload_n 5 dX5_waysToSync_133 rfl (j_iload 6 dX5_waysToSync_134 rfl (j_iload 7 dX5_waysToSync_136 rfl (j_iload 8 dX5_waysToSync_138 rfl (j_iconst (v := 1) dX5_waysToSync_140 rfl (j_iadd dX5_waysToSync_141 ?_)))))))))
      rw [nI_1]
      refine j_S6 dX5_waysToSync_142 kX5_269 (c_ws1 hX (sC.fr (fun a _ _ => by rw [wr_n (by omega)]; exact e a (by omega))) oC hx (by omega) hw (rec_wr hV2) (OKz.hs oC _ 14 oN) (fun I2 e2 => ?_))
      refine j_imul dX5_waysToSync_145 (j_iadd dX5_waysToSync_146 ?_)
      rw [pk_mul, nI_add]
      refine j_istore (lv' := [(10, _), (9, _), (7, _), (0, _), (1, _), (2, _), (4, _), (5, _), (6, _)]) dX5_waysToSync_147 rfl (j_iload 0 dX5_waysToSync_149 rfl (j_iret dX5_waysToSync_151 ?_))
      exact hp I2 (fun a ha => by rw [e2 a (by omega), wr_n (by omega)]; exact e a ha)
  refine j_iload 5 dX5_waysToSync_0 rfl (j_iload 4 dX5_waysToSync_2 rfl (j_icmp_ge (tgt := 16) dX5_waysToSync_4 rfl (fun g1 => ?_) (fun g1 => ?_)))
  · exact absurd g1 (nI_ge (by omega) (by omega))
  · refine j_iload 5 dX5_waysToSync_7 rfl (j_iconst (v := 1) dX5_waysToSync_9 rfl (j_iadd dX5_waysToSync_10 (j_aload_n 1 dX5_waysToSync_11 rfl (j_alen (v := (nI 9)) dX5_waysToSync_12 (by first | exact Or.inl (by first | assumption | rfl) | exact Or.inr (by first | assumption | rfl)) (congrArg nI t2) (j_icmp_lt (tgt := 24) dX5_waysToSync_13 rfl (fun g2 => ?_) (fun g2 => ?_))))))
    · refine j_lload_n 2 dX5_waysToSync_24 rfl (j_bipush (v := 14) dX5_waysToSync_25 rfl (j_iconst (v := 3) dX5_waysToSync_27 rfl (j_iload 5 dX5_waysToSync_28 rfl (j_iconst (v := 3) dX5_waysToSync_30 rfl (j_iand dX5_waysToSync_31 (j_isub dX5_waysToSync_32 (j_imul dX5_waysToSync_33 ?_)))))))
      rw [and3, sh14 _ d4]
      refine j_lshr dX5_waysToSync_34 ?_
      rw [shrL (Nat.lt_of_lt_of_le (rt_lt (G := G) (t := 0) oC.2.2.1 oC.2.2.2.1 4 (Nat.le_refl 4)) (by decide)) (by omega)]
      refine j_lstore (lv' := [(7, _), (0, _), (1, _), (2, _), (4, _), (5, _), (6, _)]) dX5_waysToSync_35 rfl (j_aload_n 2 dX5_waysToSync_37 rfl (j_iload 6 dX5_waysToSync_38 rfl (j_iconst (v := 1) dX5_waysToSync_40 rfl (j_iadd dX5_waysToSync_41 (j_aaload (b := 135 + 7 * (d + 1)) (d + 1) dX5_waysToSync_42 (nI_1 d) rfl (by first | assumption | rfl) (by omega) (by first | assumption | rfl) (j_astore (lv' := [(9, _), (7, _), (0, _), (1, _), (2, _), (4, _), (5, _), (6, _)]) dX5_waysToSync_43 rfl (j_iconst (v := 0) dX5_waysToSync_45 rfl (j_istore (lv' := [(10, _), (9, _), (7, _), (0, _), (1, _), (2, _), (4, _), (5, _), (6, _)]) dX5_waysToSync_46 rfl (j_iload 6 dX5_waysToSync_48 rfl (j_bipush (v := 10) dX5_waysToSync_50 rfl (j_icmp_ge (tgt := 99) dX5_waysToSync_52 rfl (fun g3 => ?_) (fun g3 => ?_))))))))))))
      · have h10 : 10 - x = 0 := by
          have : ¬ x < 10 := fun z => absurd g3 (nI_ge (b := 10) z (by decide))
          omega
        have := t99 I (fun _ _ => rfl)
        rw [h10, Nat.zero_mul] at this
        exact JW.locals [0, 1, 2, 3, 4, 5, 6, 7, 8] rfl this
      · refine j_aload 1 dX5_waysToSync_55 rfl (j_aload_n 4 dX5_waysToSync_57 rfl (j_iload 8 dX5_waysToSync_58 rfl (j_aaload (b := 135 + 7 * d) d dX5_waysToSync_60 (by first | assumption | rfl) rfl (by first | assumption | rfl) (by omega) (by first | assumption | rfl) (j_V1 dX5_waysToSync_61 kX5_266 (by first | assumption | rfl) (c_copy (t4 (d + 1) (by omega)) (t4 d (by omega)) (by omega) hV oN.1.2.1 (fun V1 hV1 => ?_))))))
        refine j_aload 1 dX5_waysToSync_64 rfl (j_aload_n 3 dX5_waysToSync_66 rfl (j_lload 2 dX5_waysToSync_67 rfl (j_bipush (v := 14) dX5_waysToSync_69 rfl (j_V3 dX5_waysToSync_71 kX5_204 (by first | assumption | rfl) (c_hears (n := 14) (t4 (d + 1) (by omega)) xC (sC.fr (fun a _ _ => by rw [wr_n (by omega)])) (by omega) (rec_wr hV1) oN.1 (by decide) (by omega) (fun V2 hV2 => ?_))))))
        rw [wr_wr]
        rw [hs_w0 oC G σ d4] at hV2
        refine j_iload 0 dX5_waysToSync_74 rfl (j_bipush (v := 10) dX5_waysToSync_76 rfl (j_iload 6 dX5_waysToSync_78 rfl (j_isub dX5_waysToSync_80 (j_aload_n 3 dX5_waysToSync_81 rfl (j_aload_n 4 dX5_waysToSync_82 rfl (j_lload_n 5 dX5_waysToSync_83 rfl (j_iload 6 dX5_waysToSync_84 rfl (j_iload 7 dX5_waysToSync_86 rfl (j_iload 8 dX5_waysToSync_88 rfl (j_iconst (v := 1) dX5_waysToSync_90 rfl (j_iadd dX5_waysToSync_91 ?_)))))))))))
        rw [nI_1, show (10 : Int32) - nI x = nI (10 - x) from pk_sub (a := 10) (by omega)]
        refine j_S6 dX5_waysToSync_92 kX5_269 (c_ws1 hX (sC.fr (fun a _ _ => by rw [wr_n (by omega)])) oC hx (by omega) hw (rec_wr hV2) (OKz.hs oC _ 14 oN) (fun I2 e2 => ?_))
        refine j_imul dX5_waysToSync_95 (j_iadd dX5_waysToSync_96 ?_)
        rw [pk_mul, Int32.zero_add]
        refine j_istore (lv' := [(10, _), (9, _), (7, _), (0, _), (1, _), (2, _), (4, _), (5, _), (6, _)]) dX5_waysToSync_97 rfl ?_
        exact JW.locals [0, 1, 2, 3, 4, 5, 6, 7, 8] rfl (t99 I2 (fun a ha => by rw [e2 a (by omega), wr_n (by omega)]))
    · rw [nI_1] at g2
      exact absurd (nI_lt (by omega) (by omega)) g2
theorem c_ws3 {g : GT} {Z : ZT} {I : IT} {L : LT} {Post : PT} {c : CT} {G : Int32} {x wo d : Nat} {σ : RT} (hX : isX Z) (sC : CC I c) (oC : okC c) (hx : x ≤ 10) (hd : d + 3 = wo) (hw : wo ≤ 8) (hV : REC (vw I (135 + 7 * d)) σ) (oN : OKz c σ) (hp : ∀ I', (∀ a, a < 142 + 7 * d ∨ 198 ≤ a → I' a = I a) → Post (some (.int (nI (wsN c G x 3 d σ)))) Z I' L) : CM g 9 0 0 mX5_waysToSync [.ref 3, .ref 117, .long (lN (rtN c G 0 4)), .int (nI x), .int (nI wo), .int (nI d)] Z I L Post := by
  obtain ⟨x0, y0, y1, y2, y3, y4, y5, y6, y7, y8, y9, xT, xC, xN, xA, b1, b2, b3, b4, b5, b6, t1, t2, t3, t4, e1, e2, e3, e4, e5, e6⟩ := id hX
  have q0 := (t4 d (by omega)).1
  have s0 := t3 d (by omega)
  have q1 := (t4 (d + 1) (by omega)).1
  have s1 := t3 (d + 1) (by omega)
  have d4 : d % 4 < 4 := Nat.mod_lt _ (by decide)
  have hRl := row_lt oC G (14 * (3 - d % 4))
  have hp : ∀ I', (∀ a, a < 142 + 7 * d ∨ 198 ≤ a → I' a = I a) → Post (some (.int (nI ((10 - x) * wsN c G x 2 (d + 1) (hsF c 14 σ (gwN c G 0 (d % 4))) + x * wsN c G x 2 (d + 1) (hsF c 14 σ (gwN c G 15 (d % 4))))))) Z I' L := hp
  refine CM_intro ?_
  have t99 : ∀ I1 : IT, (∀ a, a < 142 + 7 * d ∨ 198 ≤ a → I1 a = I a) → JW g mX5_waysToSync (rmO 9 0 0) (QM Post 0 0) 99 [(10, .int (nI ((10 - x) * wsN c G x 2 (d + 1) (hsF c 14 σ (gwN c G 0 (d % 4)))))), (9, .ref (135 + 7 * (d + 1))), (7, .long (lN (rtN c G 0 4 / 2 ^ (14 * (3 - d % 4))))), (0, .ref 3), (1, .ref 117), (2, .long (lN (rtN c G 0 4))), (4, .int (nI x)), (5, .int (nI wo)), (6, .int (nI d))] [] 0 0 Z I1 L := by
    intro I1 e
    refine j_iload 6 dX5_waysToSync_99 rfl (j_if_le (tgt := 149) dX5_waysToSync_101 rfl (fun g1 => ?_) (fun g1 => ?_))
    · have h0 : x = 0 := by
        rcases Nat.eq_zero_or_pos x with z | z
        · exact z
        · exact absurd g1 (nI_nle z (by omega))
      subst h0
      refine j_iload 0 dX5_waysToSync_149 rfl (j_iret dX5_waysToSync_151 ?_)
      have := hp I1 e
      rw [Nat.zero_mul, Nat.add_zero] at this
      exact this
    · refine j_aload 1 dX5_waysToSync_104 rfl (j_aload_n 4 dX5_waysToSync_106 rfl (j_iload 8 dX5_waysToSync_107 rfl (j_aaload (b := 135 + 7 * d) d dX5_waysToSync_109 (by first | assumption | rfl) rfl (by first | assumption | rfl) (by omega) (by first | assumption | rfl) (j_V1 dX5_waysToSync_110 kX5_266 (by first | assumption | rfl) (c_copy (t4 (d + 1) (by omega)) (t4 d (by omega)) (by omega) (rec_fr hV (fun j hj => e _ (by omega))) oN.1.2.1 (fun V1 hV1 => ?_))))))
      refine j_aload 1 dX5_waysToSync_113 rfl (j_aload_n 3 dX5_waysToSync_115 rfl (j_lload 2 dX5_waysToSync_116 rfl (j_ldc2 (v := 16383) dX5_waysToSync_118 (List.mem_of_getElem? (i := 666) (by decide +kernel)) (j_lxor dX5_waysToSync_121 ?_))))
      rw [show (16383 : Int64) = lN 16383 from rfl, fb_xorL]
      have hxl : rtN c G 0 4 / 2 ^ (14 * (3 - d % 4)) ^^^ 16383 < 2 ^ 56 := Nat.xor_lt_two_pow hRl (by decide)
      refine j_bipush (v := 14) dX5_waysToSync_122 rfl (j_V3 dX5_waysToSync_124 kX5_204 (by first | assumption | rfl) (c_hears (n := 14) (t4 (d + 1) (by omega)) xC (sC.fr (fun a _ _ => by rw [wr_n (by omega)]; exact e a (by omega))) (by omega) (rec_wr hV1) oN.1 (by decide) (by omega) (fun V2 hV2 => ?_)))
      rw [wr_wr]
      rw [hs_w1 oC G σ d4] at hV2
      refine j_iload 0 dX5_waysToSync_127 rfl (j_iload 6 dX5_waysToSync_129 rfl (j_aload_n 3 dX5_waysToSync_131 rfl (j_aload_n 4 dX5_waysToSync_132 rfl (j_lload_n 5 dX5_waysToSync_133 rfl (j_iload 6 dX5_waysToSync_134 rfl (j_iload 7 dX5_waysToSync_136 rfl (j_iload 8 dX5_waysToSync_138 rfl (j_iconst (v := 1) dX5_waysToSync_140 rfl (j_iadd dX5_waysToSync_141 ?_)))))))))
      rw [nI_1]
      refine j_S6 dX5_waysToSync_142 kX5_269 (c_ws2 hX (sC.fr (fun a _ _ => by rw [wr_n (by omega)]; exact e a (by omega))) oC hx (by omega) hw (rec_wr hV2) (OKz.hs oC _ 14 oN) (fun I2 e2 => ?_))
      refine j_imul dX5_waysToSync_145 (j_iadd dX5_waysToSync_146 ?_)
      rw [pk_mul, nI_add]
      refine j_istore (lv' := [(10, _), (9, _), (7, _), (0, _), (1, _), (2, _), (4, _), (5, _), (6, _)]) dX5_waysToSync_147 rfl (j_iload 0 dX5_waysToSync_149 rfl (j_iret dX5_waysToSync_151 ?_))
      exact hp I2 (fun a ha => by rw [e2 a (by omega), wr_n (by omega)]; exact e a ha)
  refine j_iload 5 dX5_waysToSync_0 rfl (j_iload 4 dX5_waysToSync_2 rfl (j_icmp_ge (tgt := 16) dX5_waysToSync_4 rfl (fun g1 => ?_) (fun g1 => ?_)))
  · exact absurd g1 (nI_ge (by omega) (by omega))
  · refine j_iload 5 dX5_waysToSync_7 rfl (j_iconst (v := 1) dX5_waysToSync_9 rfl (j_iadd dX5_waysToSync_10 (j_aload_n 1 dX5_waysToSync_11 rfl (j_alen (v := (nI 9)) dX5_waysToSync_12 (by first | exact Or.inl (by first | assumption | rfl) | exact Or.inr (by first | assumption | rfl)) (congrArg nI t2) (j_icmp_lt (tgt := 24) dX5_waysToSync_13 rfl (fun g2 => ?_) (fun g2 => ?_))))))
    · refine j_lload_n 2 dX5_waysToSync_24 rfl (j_bipush (v := 14) dX5_waysToSync_25 rfl (j_iconst (v := 3) dX5_waysToSync_27 rfl (j_iload 5 dX5_waysToSync_28 rfl (j_iconst (v := 3) dX5_waysToSync_30 rfl (j_iand dX5_waysToSync_31 (j_isub dX5_waysToSync_32 (j_imul dX5_waysToSync_33 ?_)))))))
      rw [and3, sh14 _ d4]
      refine j_lshr dX5_waysToSync_34 ?_
      rw [shrL (Nat.lt_of_lt_of_le (rt_lt (G := G) (t := 0) oC.2.2.1 oC.2.2.2.1 4 (Nat.le_refl 4)) (by decide)) (by omega)]
      refine j_lstore (lv' := [(7, _), (0, _), (1, _), (2, _), (4, _), (5, _), (6, _)]) dX5_waysToSync_35 rfl (j_aload_n 2 dX5_waysToSync_37 rfl (j_iload 6 dX5_waysToSync_38 rfl (j_iconst (v := 1) dX5_waysToSync_40 rfl (j_iadd dX5_waysToSync_41 (j_aaload (b := 135 + 7 * (d + 1)) (d + 1) dX5_waysToSync_42 (nI_1 d) rfl (by first | assumption | rfl) (by omega) (by first | assumption | rfl) (j_astore (lv' := [(9, _), (7, _), (0, _), (1, _), (2, _), (4, _), (5, _), (6, _)]) dX5_waysToSync_43 rfl (j_iconst (v := 0) dX5_waysToSync_45 rfl (j_istore (lv' := [(10, _), (9, _), (7, _), (0, _), (1, _), (2, _), (4, _), (5, _), (6, _)]) dX5_waysToSync_46 rfl (j_iload 6 dX5_waysToSync_48 rfl (j_bipush (v := 10) dX5_waysToSync_50 rfl (j_icmp_ge (tgt := 99) dX5_waysToSync_52 rfl (fun g3 => ?_) (fun g3 => ?_))))))))))))
      · have h10 : 10 - x = 0 := by
          have : ¬ x < 10 := fun z => absurd g3 (nI_ge (b := 10) z (by decide))
          omega
        have := t99 I (fun _ _ => rfl)
        rw [h10, Nat.zero_mul] at this
        exact JW.locals [0, 1, 2, 3, 4, 5, 6, 7, 8] rfl this
      · refine j_aload 1 dX5_waysToSync_55 rfl (j_aload_n 4 dX5_waysToSync_57 rfl (j_iload 8 dX5_waysToSync_58 rfl (j_aaload (b := 135 + 7 * d) d dX5_waysToSync_60 (by first | assumption | rfl) rfl (by first | assumption | rfl) (by omega) (by first | assumption | rfl) (j_V1 dX5_waysToSync_61 kX5_266 (by first | assumption | rfl) (c_copy (t4 (d + 1) (by omega)) (t4 d (by omega)) (by omega) hV oN.1.2.1 (fun V1 hV1 => ?_))))))
        refine j_aload 1 dX5_waysToSync_64 rfl (j_aload_n 3 dX5_waysToSync_66 rfl (j_lload 2 dX5_waysToSync_67 rfl (j_bipush (v := 14) dX5_waysToSync_69 rfl (j_V3 dX5_waysToSync_71 kX5_204 (by first | assumption | rfl) (c_hears (n := 14) (t4 (d + 1) (by omega)) xC (sC.fr (fun a _ _ => by rw [wr_n (by omega)])) (by omega) (rec_wr hV1) oN.1 (by decide) (by omega) (fun V2 hV2 => ?_))))))
        rw [wr_wr]
        rw [hs_w0 oC G σ d4] at hV2
        refine j_iload 0 dX5_waysToSync_74 rfl (j_bipush (v := 10) dX5_waysToSync_76 rfl (j_iload 6 dX5_waysToSync_78 rfl (j_isub dX5_waysToSync_80 (j_aload_n 3 dX5_waysToSync_81 rfl (j_aload_n 4 dX5_waysToSync_82 rfl (j_lload_n 5 dX5_waysToSync_83 rfl (j_iload 6 dX5_waysToSync_84 rfl (j_iload 7 dX5_waysToSync_86 rfl (j_iload 8 dX5_waysToSync_88 rfl (j_iconst (v := 1) dX5_waysToSync_90 rfl (j_iadd dX5_waysToSync_91 ?_)))))))))))
        rw [nI_1, show (10 : Int32) - nI x = nI (10 - x) from pk_sub (a := 10) (by omega)]
        refine j_S6 dX5_waysToSync_92 kX5_269 (c_ws2 hX (sC.fr (fun a _ _ => by rw [wr_n (by omega)])) oC hx (by omega) hw (rec_wr hV2) (OKz.hs oC _ 14 oN) (fun I2 e2 => ?_))
        refine j_imul dX5_waysToSync_95 (j_iadd dX5_waysToSync_96 ?_)
        rw [pk_mul, Int32.zero_add]
        refine j_istore (lv' := [(10, _), (9, _), (7, _), (0, _), (1, _), (2, _), (4, _), (5, _), (6, _)]) dX5_waysToSync_97 rfl ?_
        exact JW.locals [0, 1, 2, 3, 4, 5, 6, 7, 8] rfl (t99 I2 (fun a ha => by rw [e2 a (by omega), wr_n (by omega)]))
    · rw [nI_1] at g2
      exact absurd (nI_lt (by omega) (by omega)) g2
theorem c_ws4 {g : GT} {Z : ZT} {I : IT} {L : LT} {Post : PT} {c : CT} {G : Int32} {x wo d : Nat} {σ : RT} (hX : isX Z) (sC : CC I c) (oC : okC c) (hx : x ≤ 10) (hd : d + 4 = wo) (hw : wo ≤ 8) (hV : REC (vw I (135 + 7 * d)) σ) (oN : OKz c σ) (hp : ∀ I', (∀ a, a < 142 + 7 * d ∨ 198 ≤ a → I' a = I a) → Post (some (.int (nI (wsN c G x 4 d σ)))) Z I' L) : CM g 10 0 0 mX5_waysToSync [.ref 3, .ref 117, .long (lN (rtN c G 0 4)), .int (nI x), .int (nI wo), .int (nI d)] Z I L Post := by
  obtain ⟨x0, y0, y1, y2, y3, y4, y5, y6, y7, y8, y9, xT, xC, xN, xA, b1, b2, b3, b4, b5, b6, t1, t2, t3, t4, e1, e2, e3, e4, e5, e6⟩ := id hX
  have q0 := (t4 d (by omega)).1
  have s0 := t3 d (by omega)
  have q1 := (t4 (d + 1) (by omega)).1
  have s1 := t3 (d + 1) (by omega)
  have d4 : d % 4 < 4 := Nat.mod_lt _ (by decide)
  have hRl := row_lt oC G (14 * (3 - d % 4))
  have hp : ∀ I', (∀ a, a < 142 + 7 * d ∨ 198 ≤ a → I' a = I a) → Post (some (.int (nI ((10 - x) * wsN c G x 3 (d + 1) (hsF c 14 σ (gwN c G 0 (d % 4))) + x * wsN c G x 3 (d + 1) (hsF c 14 σ (gwN c G 15 (d % 4))))))) Z I' L := hp
  refine CM_intro ?_
  have t99 : ∀ I1 : IT, (∀ a, a < 142 + 7 * d ∨ 198 ≤ a → I1 a = I a) → JW g mX5_waysToSync (rmO 10 0 0) (QM Post 0 0) 99 [(10, .int (nI ((10 - x) * wsN c G x 3 (d + 1) (hsF c 14 σ (gwN c G 0 (d % 4)))))), (9, .ref (135 + 7 * (d + 1))), (7, .long (lN (rtN c G 0 4 / 2 ^ (14 * (3 - d % 4))))), (0, .ref 3), (1, .ref 117), (2, .long (lN (rtN c G 0 4))), (4, .int (nI x)), (5, .int (nI wo)), (6, .int (nI d))] [] 0 0 Z I1 L := by
    intro I1 e
    refine j_iload 6 dX5_waysToSync_99 rfl (j_if_le (tgt := 149) dX5_waysToSync_101 rfl (fun g1 => ?_) (fun g1 => ?_))
    · have h0 : x = 0 := by
        rcases Nat.eq_zero_or_pos x with z | z
        · exact z
        · exact absurd g1 (nI_nle z (by omega))
      subst h0
      refine j_iload 0 dX5_waysToSync_149 rfl (j_iret dX5_waysToSync_151 ?_)
      have := hp I1 e
      rw [Nat.zero_mul, Nat.add_zero] at this
      exact this
    · refine j_aload 1 dX5_waysToSync_104 rfl (j_aload_n 4 dX5_waysToSync_106 rfl (j_iload 8 dX5_waysToSync_107 rfl (j_aaload (b := 135 + 7 * d) d dX5_waysToSync_109 (by first | assumption | rfl) rfl (by first | assumption | rfl) (by omega) (by first | assumption | rfl) (j_V1 dX5_waysToSync_110 kX5_266 (by first | assumption | rfl) (c_copy (t4 (d + 1) (by omega)) (t4 d (by omega)) (by omega) (rec_fr hV (fun j hj => e _ (by omega))) oN.1.2.1 (fun V1 hV1 => ?_))))))
      refine j_aload 1 dX5_waysToSync_113 rfl (j_aload_n 3 dX5_waysToSync_115 rfl (j_lload 2 dX5_waysToSync_116 rfl (j_ldc2 (v := 16383) dX5_waysToSync_118 (List.mem_of_getElem? (i := 666) (by decide +kernel)) (j_lxor dX5_waysToSync_121 ?_))))
      rw [show (16383 : Int64) = lN 16383 from rfl, fb_xorL]
      have hxl : rtN c G 0 4 / 2 ^ (14 * (3 - d % 4)) ^^^ 16383 < 2 ^ 56 := Nat.xor_lt_two_pow hRl (by decide)
      refine j_bipush (v := 14) dX5_waysToSync_122 rfl (j_V3 dX5_waysToSync_124 kX5_204 (by first | assumption | rfl) (c_hears (n := 14) (t4 (d + 1) (by omega)) xC (sC.fr (fun a _ _ => by rw [wr_n (by omega)]; exact e a (by omega))) (by omega) (rec_wr hV1) oN.1 (by decide) (by omega) (fun V2 hV2 => ?_)))
      rw [wr_wr]
      rw [hs_w1 oC G σ d4] at hV2
      refine j_iload 0 dX5_waysToSync_127 rfl (j_iload 6 dX5_waysToSync_129 rfl (j_aload_n 3 dX5_waysToSync_131 rfl (j_aload_n 4 dX5_waysToSync_132 rfl (j_lload_n 5 dX5_waysToSync_133 rfl (j_iload 6 dX5_waysToSync_134 rfl (j_iload 7 dX5_waysToSync_136 rfl (j_iload 8 dX5_waysToSync_138 rfl (j_iconst (v := 1) dX5_waysToSync_140 rfl (j_iadd dX5_waysToSync_141 ?_)))))))))
      rw [nI_1]
      refine j_S6 dX5_waysToSync_142 kX5_269 (c_ws3 hX (sC.fr (fun a _ _ => by rw [wr_n (by omega)]; exact e a (by omega))) oC hx (by omega) hw (rec_wr hV2) (OKz.hs oC _ 14 oN) (fun I2 e2 => ?_))
      refine j_imul dX5_waysToSync_145 (j_iadd dX5_waysToSync_146 ?_)
      rw [pk_mul, nI_add]
      refine j_istore (lv' := [(10, _), (9, _), (7, _), (0, _), (1, _), (2, _), (4, _), (5, _), (6, _)]) dX5_waysToSync_147 rfl (j_iload 0 dX5_waysToSync_149 rfl (j_iret dX5_waysToSync_151 ?_))
      exact hp I2 (fun a ha => by rw [e2 a (by omega), wr_n (by omega)]; exact e a ha)
  refine j_iload 5 dX5_waysToSync_0 rfl (j_iload 4 dX5_waysToSync_2 rfl (j_icmp_ge (tgt := 16) dX5_waysToSync_4 rfl (fun g1 => ?_) (fun g1 => ?_)))
  · exact absurd g1 (nI_ge (by omega) (by omega))
  · refine j_iload 5 dX5_waysToSync_7 rfl (j_iconst (v := 1) dX5_waysToSync_9 rfl (j_iadd dX5_waysToSync_10 (j_aload_n 1 dX5_waysToSync_11 rfl (j_alen (v := (nI 9)) dX5_waysToSync_12 (by first | exact Or.inl (by first | assumption | rfl) | exact Or.inr (by first | assumption | rfl)) (congrArg nI t2) (j_icmp_lt (tgt := 24) dX5_waysToSync_13 rfl (fun g2 => ?_) (fun g2 => ?_))))))
    · refine j_lload_n 2 dX5_waysToSync_24 rfl (j_bipush (v := 14) dX5_waysToSync_25 rfl (j_iconst (v := 3) dX5_waysToSync_27 rfl (j_iload 5 dX5_waysToSync_28 rfl (j_iconst (v := 3) dX5_waysToSync_30 rfl (j_iand dX5_waysToSync_31 (j_isub dX5_waysToSync_32 (j_imul dX5_waysToSync_33 ?_)))))))
      rw [and3, sh14 _ d4]
      refine j_lshr dX5_waysToSync_34 ?_
      rw [shrL (Nat.lt_of_lt_of_le (rt_lt (G := G) (t := 0) oC.2.2.1 oC.2.2.2.1 4 (Nat.le_refl 4)) (by decide)) (by omega)]
      refine j_lstore (lv' := [(7, _), (0, _), (1, _), (2, _), (4, _), (5, _), (6, _)]) dX5_waysToSync_35 rfl (j_aload_n 2 dX5_waysToSync_37 rfl (j_iload 6 dX5_waysToSync_38 rfl (j_iconst (v := 1) dX5_waysToSync_40 rfl (j_iadd dX5_waysToSync_41 (j_aaload (b := 135 + 7 * (d + 1)) (d + 1) dX5_waysToSync_42 (nI_1 d) rfl (by first | assumption | rfl) (by omega) (by first | assumption | rfl) (j_astore (lv' := [(9, _), (7, _), (0, _), (1, _), (2, _), (4, _), (5, _), (6, _)]) dX5_waysToSync_43 rfl (j_iconst (v := 0) dX5_waysToSync_45 rfl (j_istore (lv' := [(10, _), (9, _), (7, _), (0, _), (1, _), (2, _), (4, _), (5, _), (6, _)]) dX5_waysToSync_46 rfl (j_iload 6 dX5_waysToSync_48 rfl (j_bipush (v := 10) dX5_waysToSync_50 rfl (j_icmp_ge (tgt := 99) dX5_waysToSync_52 rfl (fun g3 => ?_) (fun g3 => ?_))))))))))))
      · have h10 : 10 - x = 0 := by
          have : ¬ x < 10 := fun z => absurd g3 (nI_ge (b := 10) z (by decide))
          omega
        have := t99 I (fun _ _ => rfl)
        rw [h10, Nat.zero_mul] at this
        exact JW.locals [0, 1, 2, 3, 4, 5, 6, 7, 8] rfl this
      · refine j_aload 1 dX5_waysToSync_55 rfl (j_aload_n 4 dX5_waysToSync_57 rfl (j_iload 8 dX5_waysToSync_58 rfl (j_aaload (b := 135 + 7 * d) d dX5_waysToSync_60 (by first | assumption | rfl) rfl (by first | assumption | rfl) (by omega) (by first | assumption | rfl) (j_V1 dX5_waysToSync_61 kX5_266 (by first | assumption | rfl) (c_copy (t4 (d + 1) (by omega)) (t4 d (by omega)) (by omega) hV oN.1.2.1 (fun V1 hV1 => ?_))))))
        refine j_aload 1 dX5_waysToSync_64 rfl (j_aload_n 3 dX5_waysToSync_66 rfl (j_lload 2 dX5_waysToSync_67 rfl (j_bipush (v := 14) dX5_waysToSync_69 rfl (j_V3 dX5_waysToSync_71 kX5_204 (by first | assumption | rfl) (c_hears (n := 14) (t4 (d + 1) (by omega)) xC (sC.fr (fun a _ _ => by rw [wr_n (by omega)])) (by omega) (rec_wr hV1) oN.1 (by decide) (by omega) (fun V2 hV2 => ?_))))))
        rw [wr_wr]
        rw [hs_w0 oC G σ d4] at hV2
        refine j_iload 0 dX5_waysToSync_74 rfl (j_bipush (v := 10) dX5_waysToSync_76 rfl (j_iload 6 dX5_waysToSync_78 rfl (j_isub dX5_waysToSync_80 (j_aload_n 3 dX5_waysToSync_81 rfl (j_aload_n 4 dX5_waysToSync_82 rfl (j_lload_n 5 dX5_waysToSync_83 rfl (j_iload 6 dX5_waysToSync_84 rfl (j_iload 7 dX5_waysToSync_86 rfl (j_iload 8 dX5_waysToSync_88 rfl (j_iconst (v := 1) dX5_waysToSync_90 rfl (j_iadd dX5_waysToSync_91 ?_)))))))))))
        rw [nI_1, show (10 : Int32) - nI x = nI (10 - x) from pk_sub (a := 10) (by omega)]
        refine j_S6 dX5_waysToSync_92 kX5_269 (c_ws3 hX (sC.fr (fun a _ _ => by rw [wr_n (by omega)])) oC hx (by omega) hw (rec_wr hV2) (OKz.hs oC _ 14 oN) (fun I2 e2 => ?_))
        refine j_imul dX5_waysToSync_95 (j_iadd dX5_waysToSync_96 ?_)
        rw [pk_mul, Int32.zero_add]
        refine j_istore (lv' := [(10, _), (9, _), (7, _), (0, _), (1, _), (2, _), (4, _), (5, _), (6, _)]) dX5_waysToSync_97 rfl ?_
        exact JW.locals [0, 1, 2, 3, 4, 5, 6, 7, 8] rfl (t99 I2 (fun a ha => by rw [e2 a (by omega), wr_n (by omega)]))
    · rw [nI_1] at g2
      exact absurd (nI_lt (by omega) (by omega)) g2
theorem c_ws5 {g : GT} {Z : ZT} {I : IT} {L : LT} {Post : PT} {c : CT} {G : Int32} {x wo d : Nat} {σ : RT} (hX : isX Z) (sC : CC I c) (oC : okC c) (hx : x ≤ 10) (hd : d + 5 = wo) (hw : wo ≤ 8) (hV : REC (vw I (135 + 7 * d)) σ) (oN : OKz c σ) (hp : ∀ I', (∀ a, a < 142 + 7 * d ∨ 198 ≤ a → I' a = I a) → Post (some (.int (nI (wsN c G x 5 d σ)))) Z I' L) : CM g 11 0 0 mX5_waysToSync [.ref 3, .ref 117, .long (lN (rtN c G 0 4)), .int (nI x), .int (nI wo), .int (nI d)] Z I L Post := by
  obtain ⟨x0, y0, y1, y2, y3, y4, y5, y6, y7, y8, y9, xT, xC, xN, xA, b1, b2, b3, b4, b5, b6, t1, t2, t3, t4, e1, e2, e3, e4, e5, e6⟩ := id hX
  have q0 := (t4 d (by omega)).1
  have s0 := t3 d (by omega)
  have q1 := (t4 (d + 1) (by omega)).1
  have s1 := t3 (d + 1) (by omega)
  have d4 : d % 4 < 4 := Nat.mod_lt _ (by decide)
  have hRl := row_lt oC G (14 * (3 - d % 4))
  have hp : ∀ I', (∀ a, a < 142 + 7 * d ∨ 198 ≤ a → I' a = I a) → Post (some (.int (nI ((10 - x) * wsN c G x 4 (d + 1) (hsF c 14 σ (gwN c G 0 (d % 4))) + x * wsN c G x 4 (d + 1) (hsF c 14 σ (gwN c G 15 (d % 4))))))) Z I' L := hp
  refine CM_intro ?_
  have t99 : ∀ I1 : IT, (∀ a, a < 142 + 7 * d ∨ 198 ≤ a → I1 a = I a) → JW g mX5_waysToSync (rmO 11 0 0) (QM Post 0 0) 99 [(10, .int (nI ((10 - x) * wsN c G x 4 (d + 1) (hsF c 14 σ (gwN c G 0 (d % 4)))))), (9, .ref (135 + 7 * (d + 1))), (7, .long (lN (rtN c G 0 4 / 2 ^ (14 * (3 - d % 4))))), (0, .ref 3), (1, .ref 117), (2, .long (lN (rtN c G 0 4))), (4, .int (nI x)), (5, .int (nI wo)), (6, .int (nI d))] [] 0 0 Z I1 L := by
    intro I1 e
    refine j_iload 6 dX5_waysToSync_99 rfl (j_if_le (tgt := 149) dX5_waysToSync_101 rfl (fun g1 => ?_) (fun g1 => ?_))
    · have h0 : x = 0 := by
        rcases Nat.eq_zero_or_pos x with z | z
        · exact z
        · exact absurd g1 (nI_nle z (by omega))
      subst h0
      refine j_iload 0 dX5_waysToSync_149 rfl (j_iret dX5_waysToSync_151 ?_)
      have := hp I1 e
      rw [Nat.zero_mul, Nat.add_zero] at this
      exact this
    · refine j_aload 1 dX5_waysToSync_104 rfl (j_aload_n 4 dX5_waysToSync_106 rfl (j_iload 8 dX5_waysToSync_107 rfl (j_aaload (b := 135 + 7 * d) d dX5_waysToSync_109 (by first | assumption | rfl) rfl (by first | assumption | rfl) (by omega) (by first | assumption | rfl) (j_V1 dX5_waysToSync_110 kX5_266 (by first | assumption | rfl) (c_copy (t4 (d + 1) (by omega)) (t4 d (by omega)) (by omega) (rec_fr hV (fun j hj => e _ (by omega))) oN.1.2.1 (fun V1 hV1 => ?_))))))
      refine j_aload 1 dX5_waysToSync_113 rfl (j_aload_n 3 dX5_waysToSync_115 rfl (j_lload 2 dX5_waysToSync_116 rfl (j_ldc2 (v := 16383) dX5_waysToSync_118 (List.mem_of_getElem? (i := 666) (by decide +kernel)) (j_lxor dX5_waysToSync_121 ?_))))
      rw [show (16383 : Int64) = lN 16383 from rfl, fb_xorL]
      have hxl : rtN c G 0 4 / 2 ^ (14 * (3 - d % 4)) ^^^ 16383 < 2 ^ 56 := Nat.xor_lt_two_pow hRl (by decide)
      refine j_bipush (v := 14) dX5_waysToSync_122 rfl (j_V3 dX5_waysToSync_124 kX5_204 (by first | assumption | rfl) (c_hears (n := 14) (t4 (d + 1) (by omega)) xC (sC.fr (fun a _ _ => by rw [wr_n (by omega)]; exact e a (by omega))) (by omega) (rec_wr hV1) oN.1 (by decide) (by omega) (fun V2 hV2 => ?_)))
      rw [wr_wr]
      rw [hs_w1 oC G σ d4] at hV2
      refine j_iload 0 dX5_waysToSync_127 rfl (j_iload 6 dX5_waysToSync_129 rfl (j_aload_n 3 dX5_waysToSync_131 rfl (j_aload_n 4 dX5_waysToSync_132 rfl (j_lload_n 5 dX5_waysToSync_133 rfl (j_iload 6 dX5_waysToSync_134 rfl (j_iload 7 dX5_waysToSync_136 rfl (j_iload 8 dX5_waysToSync_138 rfl (j_iconst (v := 1) dX5_waysToSync_140 rfl (j_iadd dX5_waysToSync_141 ?_)))))))))
      rw [nI_1]
      refine j_S6 dX5_waysToSync_142 kX5_269 (c_ws4 hX (sC.fr (fun a _ _ => by rw [wr_n (by omega)]; exact e a (by omega))) oC hx (by omega) hw (rec_wr hV2) (OKz.hs oC _ 14 oN) (fun I2 e2 => ?_))
      refine j_imul dX5_waysToSync_145 (j_iadd dX5_waysToSync_146 ?_)
      rw [pk_mul, nI_add]
      refine j_istore (lv' := [(10, _), (9, _), (7, _), (0, _), (1, _), (2, _), (4, _), (5, _), (6, _)]) dX5_waysToSync_147 rfl (j_iload 0 dX5_waysToSync_149 rfl (j_iret dX5_waysToSync_151 ?_))
      exact hp I2 (fun a ha => by rw [e2 a (by omega), wr_n (by omega)]; exact e a ha)
  refine j_iload 5 dX5_waysToSync_0 rfl (j_iload 4 dX5_waysToSync_2 rfl (j_icmp_ge (tgt := 16) dX5_waysToSync_4 rfl (fun g1 => ?_) (fun g1 => ?_)))
  · exact absurd g1 (nI_ge (by omega) (by omega))
  · refine j_iload 5 dX5_waysToSync_7 rfl (j_iconst (v := 1) dX5_waysToSync_9 rfl (j_iadd dX5_waysToSync_10 (j_aload_n 1 dX5_waysToSync_11 rfl (j_alen (v := (nI 9)) dX5_waysToSync_12 (by first | exact Or.inl (by first | assumption | rfl) | exact Or.inr (by first | assumption | rfl)) (congrArg nI t2) (j_icmp_lt (tgt := 24) dX5_waysToSync_13 rfl (fun g2 => ?_) (fun g2 => ?_))))))
    · refine j_lload_n 2 dX5_waysToSync_24 rfl (j_bipush (v := 14) dX5_waysToSync_25 rfl (j_iconst (v := 3) dX5_waysToSync_27 rfl (j_iload 5 dX5_waysToSync_28 rfl (j_iconst (v := 3) dX5_waysToSync_30 rfl (j_iand dX5_waysToSync_31 (j_isub dX5_waysToSync_32 (j_imul dX5_waysToSync_33 ?_)))))))
      rw [and3, sh14 _ d4]
      refine j_lshr dX5_waysToSync_34 ?_
      rw [shrL (Nat.lt_of_lt_of_le (rt_lt (G := G) (t := 0) oC.2.2.1 oC.2.2.2.1 4 (Nat.le_refl 4)) (by decide)) (by omega)]
      refine j_lstore (lv' := [(7, _), (0, _), (1, _), (2, _), (4, _), (5, _), (6, _)]) dX5_waysToSync_35 rfl (j_aload_n 2 dX5_waysToSync_37 rfl (j_iload 6 dX5_waysToSync_38 rfl (j_iconst (v := 1) dX5_waysToSync_40 rfl (j_iadd dX5_waysToSync_41 (j_aaload (b := 135 + 7 * (d + 1)) (d + 1) dX5_waysToSync_42 (nI_1 d) rfl (by first | assumption | rfl) (by omega) (by first | assumption | rfl) (j_astore (lv' := [(9, _), (7, _), (0, _), (1, _), (2, _), (4, _), (5, _), (6, _)]) dX5_waysToSync_43 rfl (j_iconst (v := 0) dX5_waysToSync_45 rfl (j_istore (lv' := [(10, _), (9, _), (7, _), (0, _), (1, _), (2, _), (4, _), (5, _), (6, _)]) dX5_waysToSync_46 rfl (j_iload 6 dX5_waysToSync_48 rfl (j_bipush (v := 10) dX5_waysToSync_50 rfl (j_icmp_ge (tgt := 99) dX5_waysToSync_52 rfl (fun g3 => ?_) (fun g3 => ?_))))))))))))
      · have h10 : 10 - x = 0 := by
          have : ¬ x < 10 := fun z => absurd g3 (nI_ge (b := 10) z (by decide))
          omega
        have := t99 I (fun _ _ => rfl)
        rw [h10, Nat.zero_mul] at this
        exact JW.locals [0, 1, 2, 3, 4, 5, 6, 7, 8] rfl this
      · refine j_aload 1 dX5_waysToSync_55 rfl (j_aload_n 4 dX5_waysToSync_57 rfl (j_iload 8 dX5_waysToSync_58 rfl (j_aaload (b := 135 + 7 * d) d dX5_waysToSync_60 (by first | assumption | rfl) rfl (by first | assumption | rfl) (by omega) (by first | assumption | rfl) (j_V1 dX5_waysToSync_61 kX5_266 (by first | assumption | rfl) (c_copy (t4 (d + 1) (by omega)) (t4 d (by omega)) (by omega) hV oN.1.2.1 (fun V1 hV1 => ?_))))))
        refine j_aload 1 dX5_waysToSync_64 rfl (j_aload_n 3 dX5_waysToSync_66 rfl (j_lload 2 dX5_waysToSync_67 rfl (j_bipush (v := 14) dX5_waysToSync_69 rfl (j_V3 dX5_waysToSync_71 kX5_204 (by first | assumption | rfl) (c_hears (n := 14) (t4 (d + 1) (by omega)) xC (sC.fr (fun a _ _ => by rw [wr_n (by omega)])) (by omega) (rec_wr hV1) oN.1 (by decide) (by omega) (fun V2 hV2 => ?_))))))
        rw [wr_wr]
        rw [hs_w0 oC G σ d4] at hV2
        refine j_iload 0 dX5_waysToSync_74 rfl (j_bipush (v := 10) dX5_waysToSync_76 rfl (j_iload 6 dX5_waysToSync_78 rfl (j_isub dX5_waysToSync_80 (j_aload_n 3 dX5_waysToSync_81 rfl (j_aload_n 4 dX5_waysToSync_82 rfl (j_lload_n 5 dX5_waysToSync_83 rfl (j_iload 6 dX5_waysToSync_84 rfl (j_iload 7 dX5_waysToSync_86 rfl (j_iload 8 dX5_waysToSync_88 rfl (j_iconst (v := 1) dX5_waysToSync_90 rfl (j_iadd dX5_waysToSync_91 ?_)))))))))))
        rw [nI_1, show (10 : Int32) - nI x = nI (10 - x) from pk_sub (a := 10) (by omega)]
        refine j_S6 dX5_waysToSync_92 kX5_269 (c_ws4 hX (sC.fr (fun a _ _ => by rw [wr_n (by omega)])) oC hx (by omega) hw (rec_wr hV2) (OKz.hs oC _ 14 oN) (fun I2 e2 => ?_))
        refine j_imul dX5_waysToSync_95 (j_iadd dX5_waysToSync_96 ?_)
        rw [pk_mul, Int32.zero_add]
        refine j_istore (lv' := [(10, _), (9, _), (7, _), (0, _), (1, _), (2, _), (4, _), (5, _), (6, _)]) dX5_waysToSync_97 rfl ?_
        exact JW.locals [0, 1, 2, 3, 4, 5, 6, 7, 8] rfl (t99 I2 (fun a ha => by rw [e2 a (by omega), wr_n (by omega)]))
    · rw [nI_1] at g2
      exact absurd (nI_lt (by omega) (by omega)) g2
theorem c_ws6 {g : GT} {Z : ZT} {I : IT} {L : LT} {Post : PT} {c : CT} {G : Int32} {x wo d : Nat} {σ : RT} (hX : isX Z) (sC : CC I c) (oC : okC c) (hx : x ≤ 10) (hd : d + 6 = wo) (hw : wo ≤ 8) (hV : REC (vw I (135 + 7 * d)) σ) (oN : OKz c σ) (hp : ∀ I', (∀ a, a < 142 + 7 * d ∨ 198 ≤ a → I' a = I a) → Post (some (.int (nI (wsN c G x 6 d σ)))) Z I' L) : CM g 12 0 0 mX5_waysToSync [.ref 3, .ref 117, .long (lN (rtN c G 0 4)), .int (nI x), .int (nI wo), .int (nI d)] Z I L Post := by
  obtain ⟨x0, y0, y1, y2, y3, y4, y5, y6, y7, y8, y9, xT, xC, xN, xA, b1, b2, b3, b4, b5, b6, t1, t2, t3, t4, e1, e2, e3, e4, e5, e6⟩ := id hX
  have q0 := (t4 d (by omega)).1
  have s0 := t3 d (by omega)
  have q1 := (t4 (d + 1) (by omega)).1
  have s1 := t3 (d + 1) (by omega)
  have d4 : d % 4 < 4 := Nat.mod_lt _ (by decide)
  have hRl := row_lt oC G (14 * (3 - d % 4))
  have hp : ∀ I', (∀ a, a < 142 + 7 * d ∨ 198 ≤ a → I' a = I a) → Post (some (.int (nI ((10 - x) * wsN c G x 5 (d + 1) (hsF c 14 σ (gwN c G 0 (d % 4))) + x * wsN c G x 5 (d + 1) (hsF c 14 σ (gwN c G 15 (d % 4))))))) Z I' L := hp
  refine CM_intro ?_
  have t99 : ∀ I1 : IT, (∀ a, a < 142 + 7 * d ∨ 198 ≤ a → I1 a = I a) → JW g mX5_waysToSync (rmO 12 0 0) (QM Post 0 0) 99 [(10, .int (nI ((10 - x) * wsN c G x 5 (d + 1) (hsF c 14 σ (gwN c G 0 (d % 4)))))), (9, .ref (135 + 7 * (d + 1))), (7, .long (lN (rtN c G 0 4 / 2 ^ (14 * (3 - d % 4))))), (0, .ref 3), (1, .ref 117), (2, .long (lN (rtN c G 0 4))), (4, .int (nI x)), (5, .int (nI wo)), (6, .int (nI d))] [] 0 0 Z I1 L := by
    intro I1 e
    refine j_iload 6 dX5_waysToSync_99 rfl (j_if_le (tgt := 149) dX5_waysToSync_101 rfl (fun g1 => ?_) (fun g1 => ?_))
    · have h0 : x = 0 := by
        rcases Nat.eq_zero_or_pos x with z | z
        · exact z
        · exact absurd g1 (nI_nle z (by omega))
      subst h0
      refine j_iload 0 dX5_waysToSync_149 rfl (j_iret dX5_waysToSync_151 ?_)
      have := hp I1 e
      rw [Nat.zero_mul, Nat.add_zero] at this
      exact this
    · refine j_aload 1 dX5_waysToSync_104 rfl (j_aload_n 4 dX5_waysToSync_106 rfl (j_iload 8 dX5_waysToSync_107 rfl (j_aaload (b := 135 + 7 * d) d dX5_waysToSync_109 (by first | assumption | rfl) rfl (by first | assumption | rfl) (by omega) (by first | assumption | rfl) (j_V1 dX5_waysToSync_110 kX5_266 (by first | assumption | rfl) (c_copy (t4 (d + 1) (by omega)) (t4 d (by omega)) (by omega) (rec_fr hV (fun j hj => e _ (by omega))) oN.1.2.1 (fun V1 hV1 => ?_))))))
      refine j_aload 1 dX5_waysToSync_113 rfl (j_aload_n 3 dX5_waysToSync_115 rfl (j_lload 2 dX5_waysToSync_116 rfl (j_ldc2 (v := 16383) dX5_waysToSync_118 (List.mem_of_getElem? (i := 666) (by decide +kernel)) (j_lxor dX5_waysToSync_121 ?_))))
      rw [show (16383 : Int64) = lN 16383 from rfl, fb_xorL]
      have hxl : rtN c G 0 4 / 2 ^ (14 * (3 - d % 4)) ^^^ 16383 < 2 ^ 56 := Nat.xor_lt_two_pow hRl (by decide)
      refine j_bipush (v := 14) dX5_waysToSync_122 rfl (j_V3 dX5_waysToSync_124 kX5_204 (by first | assumption | rfl) (c_hears (n := 14) (t4 (d + 1) (by omega)) xC (sC.fr (fun a _ _ => by rw [wr_n (by omega)]; exact e a (by omega))) (by omega) (rec_wr hV1) oN.1 (by decide) (by omega) (fun V2 hV2 => ?_)))
      rw [wr_wr]
      rw [hs_w1 oC G σ d4] at hV2
      refine j_iload 0 dX5_waysToSync_127 rfl (j_iload 6 dX5_waysToSync_129 rfl (j_aload_n 3 dX5_waysToSync_131 rfl (j_aload_n 4 dX5_waysToSync_132 rfl (j_lload_n 5 dX5_waysToSync_133 rfl (j_iload 6 dX5_waysToSync_134 rfl (j_iload 7 dX5_waysToSync_136 rfl (j_iload 8 dX5_waysToSync_138 rfl (j_iconst (v := 1) dX5_waysToSync_140 rfl (j_iadd dX5_waysToSync_141 ?_)))))))))
      rw [nI_1]
      refine j_S6 dX5_waysToSync_142 kX5_269 (c_ws5 hX (sC.fr (fun a _ _ => by rw [wr_n (by omega)]; exact e a (by omega))) oC hx (by omega) hw (rec_wr hV2) (OKz.hs oC _ 14 oN) (fun I2 e2 => ?_))
      refine j_imul dX5_waysToSync_145 (j_iadd dX5_waysToSync_146 ?_)
      rw [pk_mul, nI_add]
      refine j_istore (lv' := [(10, _), (9, _), (7, _), (0, _), (1, _), (2, _), (4, _), (5, _), (6, _)]) dX5_waysToSync_147 rfl (j_iload 0 dX5_waysToSync_149 rfl (j_iret dX5_waysToSync_151 ?_))
      exact hp I2 (fun a ha => by rw [e2 a (by omega), wr_n (by omega)]; exact e a ha)
  refine j_iload 5 dX5_waysToSync_0 rfl (j_iload 4 dX5_waysToSync_2 rfl (j_icmp_ge (tgt := 16) dX5_waysToSync_4 rfl (fun g1 => ?_) (fun g1 => ?_)))
  · exact absurd g1 (nI_ge (by omega) (by omega))
  · refine j_iload 5 dX5_waysToSync_7 rfl (j_iconst (v := 1) dX5_waysToSync_9 rfl (j_iadd dX5_waysToSync_10 (j_aload_n 1 dX5_waysToSync_11 rfl (j_alen (v := (nI 9)) dX5_waysToSync_12 (by first | exact Or.inl (by first | assumption | rfl) | exact Or.inr (by first | assumption | rfl)) (congrArg nI t2) (j_icmp_lt (tgt := 24) dX5_waysToSync_13 rfl (fun g2 => ?_) (fun g2 => ?_))))))
    · refine j_lload_n 2 dX5_waysToSync_24 rfl (j_bipush (v := 14) dX5_waysToSync_25 rfl (j_iconst (v := 3) dX5_waysToSync_27 rfl (j_iload 5 dX5_waysToSync_28 rfl (j_iconst (v := 3) dX5_waysToSync_30 rfl (j_iand dX5_waysToSync_31 (j_isub dX5_waysToSync_32 (j_imul dX5_waysToSync_33 ?_)))))))
      rw [and3, sh14 _ d4]
      refine j_lshr dX5_waysToSync_34 ?_
      rw [shrL (Nat.lt_of_lt_of_le (rt_lt (G := G) (t := 0) oC.2.2.1 oC.2.2.2.1 4 (Nat.le_refl 4)) (by decide)) (by omega)]
      refine j_lstore (lv' := [(7, _), (0, _), (1, _), (2, _), (4, _), (5, _), (6, _)]) dX5_waysToSync_35 rfl (j_aload_n 2 dX5_waysToSync_37 rfl (j_iload 6 dX5_waysToSync_38 rfl (j_iconst (v := 1) dX5_waysToSync_40 rfl (j_iadd dX5_waysToSync_41 (j_aaload (b := 135 + 7 * (d + 1)) (d + 1) dX5_waysToSync_42 (nI_1 d) rfl (by first | assumption | rfl) (by omega) (by first | assumption | rfl) (j_astore (lv' := [(9, _), (7, _), (0, _), (1, _), (2, _), (4, _), (5, _), (6, _)]) dX5_waysToSync_43 rfl (j_iconst (v := 0) dX5_waysToSync_45 rfl (j_istore (lv' := [(10, _), (9, _), (7, _), (0, _), (1, _), (2, _), (4, _), (5, _), (6, _)]) dX5_waysToSync_46 rfl (j_iload 6 dX5_waysToSync_48 rfl (j_bipush (v := 10) dX5_waysToSync_50 rfl (j_icmp_ge (tgt := 99) dX5_waysToSync_52 rfl (fun g3 => ?_) (fun g3 => ?_))))))))))))
      · have h10 : 10 - x = 0 := by
          have : ¬ x < 10 := fun z => absurd g3 (nI_ge (b := 10) z (by decide))
          omega
        have := t99 I (fun _ _ => rfl)
        rw [h10, Nat.zero_mul] at this
        exact JW.locals [0, 1, 2, 3, 4, 5, 6, 7, 8] rfl this
      · refine j_aload 1 dX5_waysToSync_55 rfl (j_aload_n 4 dX5_waysToSync_57 rfl (j_iload 8 dX5_waysToSync_58 rfl (j_aaload (b := 135 + 7 * d) d dX5_waysToSync_60 (by first | assumption | rfl) rfl (by first | assumption | rfl) (by omega) (by first | assumption | rfl) (j_V1 dX5_waysToSync_61 kX5_266 (by first | assumption | rfl) (c_copy (t4 (d + 1) (by omega)) (t4 d (by omega)) (by omega) hV oN.1.2.1 (fun V1 hV1 => ?_))))))
        refine j_aload 1 dX5_waysToSync_64 rfl (j_aload_n 3 dX5_waysToSync_66 rfl (j_lload 2 dX5_waysToSync_67 rfl (j_bipush (v := 14) dX5_waysToSync_69 rfl (j_V3 dX5_waysToSync_71 kX5_204 (by first | assumption | rfl) (c_hears (n := 14) (t4 (d + 1) (by omega)) xC (sC.fr (fun a _ _ => by rw [wr_n (by omega)])) (by omega) (rec_wr hV1) oN.1 (by decide) (by omega) (fun V2 hV2 => ?_))))))
        rw [wr_wr]
        rw [hs_w0 oC G σ d4] at hV2
        refine j_iload 0 dX5_waysToSync_74 rfl (j_bipush (v := 10) dX5_waysToSync_76 rfl (j_iload 6 dX5_waysToSync_78 rfl (j_isub dX5_waysToSync_80 (j_aload_n 3 dX5_waysToSync_81 rfl (j_aload_n 4 dX5_waysToSync_82 rfl (j_lload_n 5 dX5_waysToSync_83 rfl (j_iload 6 dX5_waysToSync_84 rfl (j_iload 7 dX5_waysToSync_86 rfl (j_iload 8 dX5_waysToSync_88 rfl (j_iconst (v := 1) dX5_waysToSync_90 rfl (j_iadd dX5_waysToSync_91 ?_)))))))))))
        rw [nI_1, show (10 : Int32) - nI x = nI (10 - x) from pk_sub (a := 10) (by omega)]
        refine j_S6 dX5_waysToSync_92 kX5_269 (c_ws5 hX (sC.fr (fun a _ _ => by rw [wr_n (by omega)])) oC hx (by omega) hw (rec_wr hV2) (OKz.hs oC _ 14 oN) (fun I2 e2 => ?_))
        refine j_imul dX5_waysToSync_95 (j_iadd dX5_waysToSync_96 ?_)
        rw [pk_mul, Int32.zero_add]
        refine j_istore (lv' := [(10, _), (9, _), (7, _), (0, _), (1, _), (2, _), (4, _), (5, _), (6, _)]) dX5_waysToSync_97 rfl ?_
        exact JW.locals [0, 1, 2, 3, 4, 5, 6, 7, 8] rfl (t99 I2 (fun a ha => by rw [e2 a (by omega), wr_n (by omega)]))
    · rw [nI_1] at g2
      exact absurd (nI_lt (by omega) (by omega)) g2
theorem c_ws7 {g : GT} {Z : ZT} {I : IT} {L : LT} {Post : PT} {c : CT} {G : Int32} {x wo d : Nat} {σ : RT} (hX : isX Z) (sC : CC I c) (oC : okC c) (hx : x ≤ 10) (hd : d + 7 = wo) (hw : wo ≤ 8) (hV : REC (vw I (135 + 7 * d)) σ) (oN : OKz c σ) (hp : ∀ I', (∀ a, a < 142 + 7 * d ∨ 198 ≤ a → I' a = I a) → Post (some (.int (nI (wsN c G x 7 d σ)))) Z I' L) : CM g 13 0 0 mX5_waysToSync [.ref 3, .ref 117, .long (lN (rtN c G 0 4)), .int (nI x), .int (nI wo), .int (nI d)] Z I L Post := by
  obtain ⟨x0, y0, y1, y2, y3, y4, y5, y6, y7, y8, y9, xT, xC, xN, xA, b1, b2, b3, b4, b5, b6, t1, t2, t3, t4, e1, e2, e3, e4, e5, e6⟩ := id hX
  have q0 := (t4 d (by omega)).1
  have s0 := t3 d (by omega)
  have q1 := (t4 (d + 1) (by omega)).1
  have s1 := t3 (d + 1) (by omega)
  have d4 : d % 4 < 4 := Nat.mod_lt _ (by decide)
  have hRl := row_lt oC G (14 * (3 - d % 4))
  have hp : ∀ I', (∀ a, a < 142 + 7 * d ∨ 198 ≤ a → I' a = I a) → Post (some (.int (nI ((10 - x) * wsN c G x 6 (d + 1) (hsF c 14 σ (gwN c G 0 (d % 4))) + x * wsN c G x 6 (d + 1) (hsF c 14 σ (gwN c G 15 (d % 4))))))) Z I' L := hp
  refine CM_intro ?_
  have t99 : ∀ I1 : IT, (∀ a, a < 142 + 7 * d ∨ 198 ≤ a → I1 a = I a) → JW g mX5_waysToSync (rmO 13 0 0) (QM Post 0 0) 99 [(10, .int (nI ((10 - x) * wsN c G x 6 (d + 1) (hsF c 14 σ (gwN c G 0 (d % 4)))))), (9, .ref (135 + 7 * (d + 1))), (7, .long (lN (rtN c G 0 4 / 2 ^ (14 * (3 - d % 4))))), (0, .ref 3), (1, .ref 117), (2, .long (lN (rtN c G 0 4))), (4, .int (nI x)), (5, .int (nI wo)), (6, .int (nI d))] [] 0 0 Z I1 L := by
    intro I1 e
    refine j_iload 6 dX5_waysToSync_99 rfl (j_if_le (tgt := 149) dX5_waysToSync_101 rfl (fun g1 => ?_) (fun g1 => ?_))
    · have h0 : x = 0 := by
        rcases Nat.eq_zero_or_pos x with z | z
        · exact z
        · exact absurd g1 (nI_nle z (by omega))
      subst h0
      refine j_iload 0 dX5_waysToSync_149 rfl (j_iret dX5_waysToSync_151 ?_)
      have := hp I1 e
      rw [Nat.zero_mul, Nat.add_zero] at this
      exact this
    · refine j_aload 1 dX5_waysToSync_104 rfl (j_aload_n 4 dX5_waysToSync_106 rfl (j_iload 8 dX5_waysToSync_107 rfl (j_aaload (b := 135 + 7 * d) d dX5_waysToSync_109 (by first | assumption | rfl) rfl (by first | assumption | rfl) (by omega) (by first | assumption | rfl) (j_V1 dX5_waysToSync_110 kX5_266 (by first | assumption | rfl) (c_copy (t4 (d + 1) (by omega)) (t4 d (by omega)) (by omega) (rec_fr hV (fun j hj => e _ (by omega))) oN.1.2.1 (fun V1 hV1 => ?_))))))
      refine j_aload 1 dX5_waysToSync_113 rfl (j_aload_n 3 dX5_waysToSync_115 rfl (j_lload 2 dX5_waysToSync_116 rfl (j_ldc2 (v := 16383) dX5_waysToSync_118 (List.mem_of_getElem? (i := 666) (by decide +kernel)) (j_lxor dX5_waysToSync_121 ?_))))
      rw [show (16383 : Int64) = lN 16383 from rfl, fb_xorL]
      have hxl : rtN c G 0 4 / 2 ^ (14 * (3 - d % 4)) ^^^ 16383 < 2 ^ 56 := Nat.xor_lt_two_pow hRl (by decide)
      refine j_bipush (v := 14) dX5_waysToSync_122 rfl (j_V3 dX5_waysToSync_124 kX5_204 (by first | assumption | rfl) (c_hears (n := 14) (t4 (d + 1) (by omega)) xC (sC.fr (fun a _ _ => by rw [wr_n (by omega)]; exact e a (by omega))) (by omega) (rec_wr hV1) oN.1 (by decide) (by omega) (fun V2 hV2 => ?_)))
      rw [wr_wr]
      rw [hs_w1 oC G σ d4] at hV2
      refine j_iload 0 dX5_waysToSync_127 rfl (j_iload 6 dX5_waysToSync_129 rfl (j_aload_n 3 dX5_waysToSync_131 rfl (j_aload_n 4 dX5_waysToSync_132 rfl (j_lload_n 5 dX5_waysToSync_133 rfl (j_iload 6 dX5_waysToSync_134 rfl (j_iload 7 dX5_waysToSync_136 rfl (j_iload 8 dX5_waysToSync_138 rfl (j_iconst (v := 1) dX5_waysToSync_140 rfl (j_iadd dX5_waysToSync_141 ?_)))))))))
      rw [nI_1]
      refine j_S6 dX5_waysToSync_142 kX5_269 (c_ws6 hX (sC.fr (fun a _ _ => by rw [wr_n (by omega)]; exact e a (by omega))) oC hx (by omega) hw (rec_wr hV2) (OKz.hs oC _ 14 oN) (fun I2 e2 => ?_))
      refine j_imul dX5_waysToSync_145 (j_iadd dX5_waysToSync_146 ?_)
      rw [pk_mul, nI_add]
      refine j_istore (lv' := [(10, _), (9, _), (7, _), (0, _), (1, _), (2, _), (4, _), (5, _), (6, _)]) dX5_waysToSync_147 rfl (j_iload 0 dX5_waysToSync_149 rfl (j_iret dX5_waysToSync_151 ?_))
      exact hp I2 (fun a ha => by rw [e2 a (by omega), wr_n (by omega)]; exact e a ha)
  refine j_iload 5 dX5_waysToSync_0 rfl (j_iload 4 dX5_waysToSync_2 rfl (j_icmp_ge (tgt := 16) dX5_waysToSync_4 rfl (fun g1 => ?_) (fun g1 => ?_)))
  · exact absurd g1 (nI_ge (by omega) (by omega))
  · refine j_iload 5 dX5_waysToSync_7 rfl (j_iconst (v := 1) dX5_waysToSync_9 rfl (j_iadd dX5_waysToSync_10 (j_aload_n 1 dX5_waysToSync_11 rfl (j_alen (v := (nI 9)) dX5_waysToSync_12 (by first | exact Or.inl (by first | assumption | rfl) | exact Or.inr (by first | assumption | rfl)) (congrArg nI t2) (j_icmp_lt (tgt := 24) dX5_waysToSync_13 rfl (fun g2 => ?_) (fun g2 => ?_))))))
    · refine j_lload_n 2 dX5_waysToSync_24 rfl (j_bipush (v := 14) dX5_waysToSync_25 rfl (j_iconst (v := 3) dX5_waysToSync_27 rfl (j_iload 5 dX5_waysToSync_28 rfl (j_iconst (v := 3) dX5_waysToSync_30 rfl (j_iand dX5_waysToSync_31 (j_isub dX5_waysToSync_32 (j_imul dX5_waysToSync_33 ?_)))))))
      rw [and3, sh14 _ d4]
      refine j_lshr dX5_waysToSync_34 ?_
      rw [shrL (Nat.lt_of_lt_of_le (rt_lt (G := G) (t := 0) oC.2.2.1 oC.2.2.2.1 4 (Nat.le_refl 4)) (by decide)) (by omega)]
      refine j_lstore (lv' := [(7, _), (0, _), (1, _), (2, _), (4, _), (5, _), (6, _)]) dX5_waysToSync_35 rfl (j_aload_n 2 dX5_waysToSync_37 rfl (j_iload 6 dX5_waysToSync_38 rfl (j_iconst (v := 1) dX5_waysToSync_40 rfl (j_iadd dX5_waysToSync_41 (j_aaload (b := 135 + 7 * (d + 1)) (d + 1) dX5_waysToSync_42 (nI_1 d) rfl (by first | assumption | rfl) (by omega) (by first | assumption | rfl) (j_astore (lv' := [(9, _), (7, _), (0, _), (1, _), (2, _), (4, _), (5, _), (6, _)]) dX5_waysToSync_43 rfl (j_iconst (v := 0) dX5_waysToSync_45 rfl (j_istore (lv' := [(10, _), (9, _), (7, _), (0, _), (1, _), (2, _), (4, _), (5, _), (6, _)]) dX5_waysToSync_46 rfl (j_iload 6 dX5_waysToSync_48 rfl (j_bipush (v := 10) dX5_waysToSync_50 rfl (j_icmp_ge (tgt := 99) dX5_waysToSync_52 rfl (fun g3 => ?_) (fun g3 => ?_))))))))))))
      · have h10 : 10 - x = 0 := by
          have : ¬ x < 10 := fun z => absurd g3 (nI_ge (b := 10) z (by decide))
          omega
        have := t99 I (fun _ _ => rfl)
        rw [h10, Nat.zero_mul] at this
        exact JW.locals [0, 1, 2, 3, 4, 5, 6, 7, 8] rfl this
      · refine j_aload 1 dX5_waysToSync_55 rfl (j_aload_n 4 dX5_waysToSync_57 rfl (j_iload 8 dX5_waysToSync_58 rfl (j_aaload (b := 135 + 7 * d) d dX5_waysToSync_60 (by first | assumption | rfl) rfl (by first | assumption | rfl) (by omega) (by first | assumption | rfl) (j_V1 dX5_waysToSync_61 kX5_266 (by first | assumption | rfl) (c_copy (t4 (d + 1) (by omega)) (t4 d (by omega)) (by omega) hV oN.1.2.1 (fun V1 hV1 => ?_))))))
        refine j_aload 1 dX5_waysToSync_64 rfl (j_aload_n 3 dX5_waysToSync_66 rfl (j_lload 2 dX5_waysToSync_67 rfl (j_bipush (v := 14) dX5_waysToSync_69 rfl (j_V3 dX5_waysToSync_71 kX5_204 (by first | assumption | rfl) (c_hears (n := 14) (t4 (d + 1) (by omega)) xC (sC.fr (fun a _ _ => by rw [wr_n (by omega)])) (by omega) (rec_wr hV1) oN.1 (by decide) (by omega) (fun V2 hV2 => ?_))))))
        rw [wr_wr]
        rw [hs_w0 oC G σ d4] at hV2
        refine j_iload 0 dX5_waysToSync_74 rfl (j_bipush (v := 10) dX5_waysToSync_76 rfl (j_iload 6 dX5_waysToSync_78 rfl (j_isub dX5_waysToSync_80 (j_aload_n 3 dX5_waysToSync_81 rfl (j_aload_n 4 dX5_waysToSync_82 rfl (j_lload_n 5 dX5_waysToSync_83 rfl (j_iload 6 dX5_waysToSync_84 rfl (j_iload 7 dX5_waysToSync_86 rfl (j_iload 8 dX5_waysToSync_88 rfl (j_iconst (v := 1) dX5_waysToSync_90 rfl (j_iadd dX5_waysToSync_91 ?_)))))))))))
        rw [nI_1, show (10 : Int32) - nI x = nI (10 - x) from pk_sub (a := 10) (by omega)]
        refine j_S6 dX5_waysToSync_92 kX5_269 (c_ws6 hX (sC.fr (fun a _ _ => by rw [wr_n (by omega)])) oC hx (by omega) hw (rec_wr hV2) (OKz.hs oC _ 14 oN) (fun I2 e2 => ?_))
        refine j_imul dX5_waysToSync_95 (j_iadd dX5_waysToSync_96 ?_)
        rw [pk_mul, Int32.zero_add]
        refine j_istore (lv' := [(10, _), (9, _), (7, _), (0, _), (1, _), (2, _), (4, _), (5, _), (6, _)]) dX5_waysToSync_97 rfl ?_
        exact JW.locals [0, 1, 2, 3, 4, 5, 6, 7, 8] rfl (t99 I2 (fun a ha => by rw [e2 a (by omega), wr_n (by omega)]))
    · rw [nI_1] at g2
      exact absurd (nI_lt (by omega) (by omega)) g2
theorem c_ws8 {g : GT} {Z : ZT} {I : IT} {L : LT} {Post : PT} {c : CT} {G : Int32} {x wo d : Nat} {σ : RT} (hX : isX Z) (sC : CC I c) (oC : okC c) (hx : x ≤ 10) (hd : d + 8 = wo) (hw : wo ≤ 8) (hV : REC (vw I (135 + 7 * d)) σ) (oN : OKz c σ) (hp : ∀ I', (∀ a, a < 142 + 7 * d ∨ 198 ≤ a → I' a = I a) → Post (some (.int (nI (wsN c G x 8 d σ)))) Z I' L) : CM g 14 0 0 mX5_waysToSync [.ref 3, .ref 117, .long (lN (rtN c G 0 4)), .int (nI x), .int (nI wo), .int (nI d)] Z I L Post := by
  obtain ⟨x0, y0, y1, y2, y3, y4, y5, y6, y7, y8, y9, xT, xC, xN, xA, b1, b2, b3, b4, b5, b6, t1, t2, t3, t4, e1, e2, e3, e4, e5, e6⟩ := id hX
  have q0 := (t4 d (by omega)).1
  have s0 := t3 d (by omega)
  have q1 := (t4 (d + 1) (by omega)).1
  have s1 := t3 (d + 1) (by omega)
  have d4 : d % 4 < 4 := Nat.mod_lt _ (by decide)
  have hRl := row_lt oC G (14 * (3 - d % 4))
  have hp : ∀ I', (∀ a, a < 142 + 7 * d ∨ 198 ≤ a → I' a = I a) → Post (some (.int (nI ((10 - x) * wsN c G x 7 (d + 1) (hsF c 14 σ (gwN c G 0 (d % 4))) + x * wsN c G x 7 (d + 1) (hsF c 14 σ (gwN c G 15 (d % 4))))))) Z I' L := hp
  refine CM_intro ?_
  have t99 : ∀ I1 : IT, (∀ a, a < 142 + 7 * d ∨ 198 ≤ a → I1 a = I a) → JW g mX5_waysToSync (rmO 14 0 0) (QM Post 0 0) 99 [(10, .int (nI ((10 - x) * wsN c G x 7 (d + 1) (hsF c 14 σ (gwN c G 0 (d % 4)))))), (9, .ref (135 + 7 * (d + 1))), (7, .long (lN (rtN c G 0 4 / 2 ^ (14 * (3 - d % 4))))), (0, .ref 3), (1, .ref 117), (2, .long (lN (rtN c G 0 4))), (4, .int (nI x)), (5, .int (nI wo)), (6, .int (nI d))] [] 0 0 Z I1 L := by
    intro I1 e
    refine j_iload 6 dX5_waysToSync_99 rfl (j_if_le (tgt := 149) dX5_waysToSync_101 rfl (fun g1 => ?_) (fun g1 => ?_))
    · have h0 : x = 0 := by
        rcases Nat.eq_zero_or_pos x with z | z
        · exact z
        · exact absurd g1 (nI_nle z (by omega))
      subst h0
      refine j_iload 0 dX5_waysToSync_149 rfl (j_iret dX5_waysToSync_151 ?_)
      have := hp I1 e
      rw [Nat.zero_mul, Nat.add_zero] at this
      exact this
    · refine j_aload 1 dX5_waysToSync_104 rfl (j_aload_n 4 dX5_waysToSync_106 rfl (j_iload 8 dX5_waysToSync_107 rfl (j_aaload (b := 135 + 7 * d) d dX5_waysToSync_109 (by first | assumption | rfl) rfl (by first | assumption | rfl) (by omega) (by first | assumption | rfl) (j_V1 dX5_waysToSync_110 kX5_266 (by first | assumption | rfl) (c_copy (t4 (d + 1) (by omega)) (t4 d (by omega)) (by omega) (rec_fr hV (fun j hj => e _ (by omega))) oN.1.2.1 (fun V1 hV1 => ?_))))))
      refine j_aload 1 dX5_waysToSync_113 rfl (j_aload_n 3 dX5_waysToSync_115 rfl (j_lload 2 dX5_waysToSync_116 rfl (j_ldc2 (v := 16383) dX5_waysToSync_118 (List.mem_of_getElem? (i := 666) (by decide +kernel)) (j_lxor dX5_waysToSync_121 ?_))))
      rw [show (16383 : Int64) = lN 16383 from rfl, fb_xorL]
      have hxl : rtN c G 0 4 / 2 ^ (14 * (3 - d % 4)) ^^^ 16383 < 2 ^ 56 := Nat.xor_lt_two_pow hRl (by decide)
      refine j_bipush (v := 14) dX5_waysToSync_122 rfl (j_V3 dX5_waysToSync_124 kX5_204 (by first | assumption | rfl) (c_hears (n := 14) (t4 (d + 1) (by omega)) xC (sC.fr (fun a _ _ => by rw [wr_n (by omega)]; exact e a (by omega))) (by omega) (rec_wr hV1) oN.1 (by decide) (by omega) (fun V2 hV2 => ?_)))
      rw [wr_wr]
      rw [hs_w1 oC G σ d4] at hV2
      refine j_iload 0 dX5_waysToSync_127 rfl (j_iload 6 dX5_waysToSync_129 rfl (j_aload_n 3 dX5_waysToSync_131 rfl (j_aload_n 4 dX5_waysToSync_132 rfl (j_lload_n 5 dX5_waysToSync_133 rfl (j_iload 6 dX5_waysToSync_134 rfl (j_iload 7 dX5_waysToSync_136 rfl (j_iload 8 dX5_waysToSync_138 rfl (j_iconst (v := 1) dX5_waysToSync_140 rfl (j_iadd dX5_waysToSync_141 ?_)))))))))
      rw [nI_1]
      refine j_S6 dX5_waysToSync_142 kX5_269 (c_ws7 hX (sC.fr (fun a _ _ => by rw [wr_n (by omega)]; exact e a (by omega))) oC hx (by omega) hw (rec_wr hV2) (OKz.hs oC _ 14 oN) (fun I2 e2 => ?_))
      refine j_imul dX5_waysToSync_145 (j_iadd dX5_waysToSync_146 ?_)
      rw [pk_mul, nI_add]
      refine j_istore (lv' := [(10, _), (9, _), (7, _), (0, _), (1, _), (2, _), (4, _), (5, _), (6, _)]) dX5_waysToSync_147 rfl (j_iload 0 dX5_waysToSync_149 rfl (j_iret dX5_waysToSync_151 ?_))
      exact hp I2 (fun a ha => by rw [e2 a (by omega), wr_n (by omega)]; exact e a ha)
  refine j_iload 5 dX5_waysToSync_0 rfl (j_iload 4 dX5_waysToSync_2 rfl (j_icmp_ge (tgt := 16) dX5_waysToSync_4 rfl (fun g1 => ?_) (fun g1 => ?_)))
  · exact absurd g1 (nI_ge (by omega) (by omega))
  · refine j_iload 5 dX5_waysToSync_7 rfl (j_iconst (v := 1) dX5_waysToSync_9 rfl (j_iadd dX5_waysToSync_10 (j_aload_n 1 dX5_waysToSync_11 rfl (j_alen (v := (nI 9)) dX5_waysToSync_12 (by first | exact Or.inl (by first | assumption | rfl) | exact Or.inr (by first | assumption | rfl)) (congrArg nI t2) (j_icmp_lt (tgt := 24) dX5_waysToSync_13 rfl (fun g2 => ?_) (fun g2 => ?_))))))
    · refine j_lload_n 2 dX5_waysToSync_24 rfl (j_bipush (v := 14) dX5_waysToSync_25 rfl (j_iconst (v := 3) dX5_waysToSync_27 rfl (j_iload 5 dX5_waysToSync_28 rfl (j_iconst (v := 3) dX5_waysToSync_30 rfl (j_iand dX5_waysToSync_31 (j_isub dX5_waysToSync_32 (j_imul dX5_waysToSync_33 ?_)))))))
      rw [and3, sh14 _ d4]
      refine j_lshr dX5_waysToSync_34 ?_
      rw [shrL (Nat.lt_of_lt_of_le (rt_lt (G := G) (t := 0) oC.2.2.1 oC.2.2.2.1 4 (Nat.le_refl 4)) (by decide)) (by omega)]
      refine j_lstore (lv' := [(7, _), (0, _), (1, _), (2, _), (4, _), (5, _), (6, _)]) dX5_waysToSync_35 rfl (j_aload_n 2 dX5_waysToSync_37 rfl (j_iload 6 dX5_waysToSync_38 rfl (j_iconst (v := 1) dX5_waysToSync_40 rfl (j_iadd dX5_waysToSync_41 (j_aaload (b := 135 + 7 * (d + 1)) (d + 1) dX5_waysToSync_42 (nI_1 d) rfl (by first | assumption | rfl) (by omega) (by first | assumption | rfl) (j_astore (lv' := [(9, _), (7, _), (0, _), (1, _), (2, _), (4, _), (5, _), (6, _)]) dX5_waysToSync_43 rfl (j_iconst (v := 0) dX5_waysToSync_45 rfl (j_istore (lv' := [(10, _), (9, _), (7, _), (0, _), (1, _), (2, _), (4, _), (5, _), (6, _)]) dX5_waysToSync_46 rfl (j_iload 6 dX5_waysToSync_48 rfl (j_bipush (v := 10) dX5_waysToSync_50 rfl (j_icmp_ge (tgt := 99) dX5_waysToSync_52 rfl (fun g3 => ?_) (fun g3 => ?_))))))))))))
      · have h10 : 10 - x = 0 := by
          have : ¬ x < 10 := fun z => absurd g3 (nI_ge (b := 10) z (by decide))
          omega
        have := t99 I (fun _ _ => rfl)
        rw [h10, Nat.zero_mul] at this
        exact JW.locals [0, 1, 2, 3, 4, 5, 6, 7, 8] rfl this
      · refine j_aload 1 dX5_waysToSync_55 rfl (j_aload_n 4 dX5_waysToSync_57 rfl (j_iload 8 dX5_waysToSync_58 rfl (j_aaload (b := 135 + 7 * d) d dX5_waysToSync_60 (by first | assumption | rfl) rfl (by first | assumption | rfl) (by omega) (by first | assumption | rfl) (j_V1 dX5_waysToSync_61 kX5_266 (by first | assumption | rfl) (c_copy (t4 (d + 1) (by omega)) (t4 d (by omega)) (by omega) hV oN.1.2.1 (fun V1 hV1 => ?_))))))
        refine j_aload 1 dX5_waysToSync_64 rfl (j_aload_n 3 dX5_waysToSync_66 rfl (j_lload 2 dX5_waysToSync_67 rfl (j_bipush (v := 14) dX5_waysToSync_69 rfl (j_V3 dX5_waysToSync_71 kX5_204 (by first | assumption | rfl) (c_hears (n := 14) (t4 (d + 1) (by omega)) xC (sC.fr (fun a _ _ => by rw [wr_n (by omega)])) (by omega) (rec_wr hV1) oN.1 (by decide) (by omega) (fun V2 hV2 => ?_))))))
        rw [wr_wr]
        rw [hs_w0 oC G σ d4] at hV2
        refine j_iload 0 dX5_waysToSync_74 rfl (j_bipush (v := 10) dX5_waysToSync_76 rfl (j_iload 6 dX5_waysToSync_78 rfl (j_isub dX5_waysToSync_80 (j_aload_n 3 dX5_waysToSync_81 rfl (j_aload_n 4 dX5_waysToSync_82 rfl (j_lload_n 5 dX5_waysToSync_83 rfl (j_iload 6 dX5_waysToSync_84 rfl (j_iload 7 dX5_waysToSync_86 rfl (j_iload 8 dX5_waysToSync_88 rfl (j_iconst (v := 1) dX5_waysToSync_90 rfl (j_iadd dX5_waysToSync_91 ?_)))))))))))
        rw [nI_1, show (10 : Int32) - nI x = nI (10 - x) from pk_sub (a := 10) (by omega)]
        refine j_S6 dX5_waysToSync_92 kX5_269 (c_ws7 hX (sC.fr (fun a _ _ => by rw [wr_n (by omega)])) oC hx (by omega) hw (rec_wr hV2) (OKz.hs oC _ 14 oN) (fun I2 e2 => ?_))
        refine j_imul dX5_waysToSync_95 (j_iadd dX5_waysToSync_96 ?_)
        rw [pk_mul, Int32.zero_add]
        refine j_istore (lv' := [(10, _), (9, _), (7, _), (0, _), (1, _), (2, _), (4, _), (5, _), (6, _)]) dX5_waysToSync_97 rfl ?_
        exact JW.locals [0, 1, 2, 3, 4, 5, 6, 7, 8] rfl (t99 I2 (fun a ha => by rw [e2 a (by omega), wr_n (by omega)]))
    · rw [nI_1] at g2
      exact absurd (nI_lt (by omega) (by omega)) g2
theorem abs_N {W : Nat} (h : W < 2 ^ 31) : (nI W).toInt.natAbs < 2 ^ 31 ∧ (if 0 ≤ nI W then nI W else 0 - nI W) = nI (nI W).toInt.natAbs := by
  rw [nI_toInt h, if_pos (nI_pos' h)]
  exact ⟨by omega, by rw [Int.natAbs_natCast]⟩
noncomputable def chI (c : CT) (G : Int32) (k x : Nat) (ρ : RT) (up : Int32) : Int32 := frI (nI (wsN c G x (4 * k) 0 ρ)) (10 ^ (4 * k)) up
theorem k_chance {g : GT} {Z : ZT} {I : IT} {L : LT} {Post : PT} {t : Nat → Nat} {n : Nat} {c : CT} {w : Nat} {ρ : RT} {A : Nat × Nat × (Nat → RT)} {K : (Nat → RT) × (Nat → Bool)} {E : (Nat → Int32) × (Nat → Nat) × (Nat → Nat) × Nat} {sd : Int64} {G up : Int32} {k x : Nat} (hX : isX Z) (hs : CSt t n c w ρ A K E sd I L) (ho : OKs c w ρ A K E) (h1 : 1 ≤ k) (h2 : k ≤ 2) (hx : x ≤ 10) (hp : ∀ I', CSt t n c w ρ A K E sd I' L → eqM I I' → Post (some (.int (chI c G k x ρ up))) Z I' L) : CM g 15 0 0 mX5_chance [.ref 0, .int G, .int (nI k), .int (nI x), .int up] Z I L Post := by
  obtain ⟨x0, y0, y1, y2, y3, y4, y5, y6, y7, y8, y9, xT, xC, xN, xA, b1, b2, b3, b4, b5, b6, t1, t2, t3, t4, e1, e2, e3, e4, e5, e6⟩ := id hX
  obtain ⟨sT, ⟨sC, s35, s37, s38⟩, sN, sA, sK, sE, sL⟩ := id hs
  obtain ⟨oC, oW, oN, oA, oK, oE⟩ := id ho
  obtain ⟨q1, q2, q3, q4⟩ := id xT
  obtain ⟨z1, z2, z3, z4, z5, z6, z7, z8, z9, z10, z11, z12, z13⟩ := id xC
  obtain ⟨r1, r2, r3, r4, r5, r6, r7, r8, r9, r10, r11, r12, r13, r14, r15, r16, r17, r18⟩ := id xN
  obtain ⟨a1, a2, a3, a4, a5, a6⟩ := id xA
  have l10 : zL Z 10 = 4 := r10
  have l11 : zL Z 11 = 4 := r12
  have l12 : zL Z 12 = 8 := r14
  have l13 : zL Z 13 = 8 := r16
  have l14 : zL Z 14 = 4 := r18
  have s0 := t3 0 (by decide)
  have p0 := (t4 0 (by decide)).1
  refine CM_intro ?_
  have hx10 := hx
  refine j_iload_n 2 dX5_chance_0 rfl (j_iconst (v := 1) dX5_chance_1 rfl (j_icmp_lt (tgt := 20) dX5_chance_2 rfl (fun g1 => ?_) (fun g1 => ?_)))
  · exact absurd g1 (nI_nlt (b := 1) h1 (by omega))
  · refine j_iload_n 2 dX5_chance_5 rfl (j_iconst (v := 2) dX5_chance_6 rfl (j_icmp_gt (tgt := 20) dX5_chance_7 rfl (fun g2 => ?_) (fun g2 => ?_)))
    · exact absurd g2 (nI_nlt (a := 2) h2 (by decide))
    · refine j_iload_n 3 dX5_chance_10 rfl (j_if_lt (tgt := 20) dX5_chance_11 rfl (fun g3 => ?_) (fun g3 => ?_))
      · exact absurd g3 (nI_pos (by omega))
      · refine j_iload_n 3 dX5_chance_14 rfl (j_bipush (v := 10) dX5_chance_15 rfl (j_icmp_le (tgt := 23) dX5_chance_17 rfl (fun g4 => ?_) (fun g4 => ?_)))
        · have hk2 : k = 1 ∨ k = 2 := by omega
          rcases hk2 with e | e <;> subst e
          · have hws := ws_le (c := c) (G := G) hx 4 0 ρ
            have hab := abs_N (W := wsN c G x 4 0 ρ) (Nat.lt_of_le_of_lt hws (by decide))
            refine j_iload_n 2 dX5_chance_23 rfl (j_iconst (v := 4) dX5_chance_24 rfl (j_imul dX5_chance_25 (j_istore (lv' := [(5, _), (0, _), (1, _), (2, _), (3, _), (4, _)]) dX5_chance_26 rfl (j_iconst (v := 1) dX5_chance_28 rfl (j_istore (lv' := [(6, _), (5, _), (0, _), (1, _), (2, _), (3, _), (4, _)]) dX5_chance_29 rfl (j_iconst (v := 0) dX5_chance_31 rfl (j_istore (lv' := [(7, _), (6, _), (5, _), (0, _), (1, _), (2, _), (3, _), (4, _)]) dX5_chance_32 rfl (j_iload 0 dX5_chance_34 rfl (j_iload 2 dX5_chance_36 rfl (j_icmp_ge (tgt := 54) dX5_chance_38 rfl (fun h9 => absurd h9 (by decide)) (fun _ => (j_iload 1 dX5_chance_41 rfl (j_bipush (v := 10) dX5_chance_43 rfl (j_imul dX5_chance_45 (j_istore (lv' := [(6, _), (7, _), (5, _), (0, _), (1, _), (2, _), (3, _), (4, _)]) dX5_chance_46 rfl (j_iinc (y := 1) (lv' := [(7, _), (6, _), (5, _), (0, _), (1, _), (2, _), (3, _), (4, _)]) 1 dX5_chance_48 rfl rfl rfl (j_goto (tgt := 34) dX5_chance_51 rfl (j_iload 0 dX5_chance_34 rfl (j_iload 2 dX5_chance_36 rfl (j_icmp_ge (tgt := 54) dX5_chance_38 rfl (fun h9 => absurd h9 (by decide)) (fun _ => (j_iload 1 dX5_chance_41 rfl (j_bipush (v := 10) dX5_chance_43 rfl (j_imul dX5_chance_45 (j_istore (lv' := [(6, _), (7, _), (5, _), (0, _), (1, _), (2, _), (3, _), (4, _)]) dX5_chance_46 rfl (j_iinc (y := 1) (lv' := [(7, _), (6, _), (5, _), (0, _), (1, _), (2, _), (3, _), (4, _)]) 1 dX5_chance_48 rfl rfl rfl (j_goto (tgt := 34) dX5_chance_51 rfl (j_iload 0 dX5_chance_34 rfl (j_iload 2 dX5_chance_36 rfl (j_icmp_ge (tgt := 54) dX5_chance_38 rfl (fun h9 => absurd h9 (by decide)) (fun _ => (j_iload 1 dX5_chance_41 rfl (j_bipush (v := 10) dX5_chance_43 rfl (j_imul dX5_chance_45 (j_istore (lv' := [(6, _), (7, _), (5, _), (0, _), (1, _), (2, _), (3, _), (4, _)]) dX5_chance_46 rfl (j_iinc (y := 1) (lv' := [(7, _), (6, _), (5, _), (0, _), (1, _), (2, _), (3, _), (4, _)]) 1 dX5_chance_48 rfl rfl rfl (j_goto (tgt := 34) dX5_chance_51 rfl (j_iload 0 dX5_chance_34 rfl (j_iload 2 dX5_chance_36 rfl (j_icmp_ge (tgt := 54) dX5_chance_38 rfl (fun h9 => absurd h9 (by decide)) (fun _ => (j_iload 1 dX5_chance_41 rfl (j_bipush (v := 10) dX5_chance_43 rfl (j_imul dX5_chance_45 (j_istore (lv' := [(6, _), (7, _), (5, _), (0, _), (1, _), (2, _), (3, _), (4, _)]) dX5_chance_46 rfl (j_iinc (y := 1) (lv' := [(7, _), (6, _), (5, _), (0, _), (1, _), (2, _), (3, _), (4, _)]) 1 dX5_chance_48 rfl rfl rfl (j_goto (tgt := 34) dX5_chance_51 rfl (j_iload 0 dX5_chance_34 rfl (j_iload 2 dX5_chance_36 rfl (j_icmp_ge (tgt := 54) dX5_chance_38 rfl (fun _ => ?_) (fun h9 => absurd (by decide) h9)))))))))))))))))))))))))))))))))))))))))))))))))))
            rw [show (1 : Int32) * 10 * 10 * 10 * 10 = nI (10 ^ 4) from rfl]
            refine j_aload_n 3 dX5_chance_54 rfl (j_getR (b := 117) dX5_chance_55 fX5_45 rfl (by first | assumption | rfl) (by first | assumption | rfl) (j_iconst (v := 0) dX5_chance_58 rfl (j_aaload (b := 135) 0 dX5_chance_59 (by first | assumption | rfl) rfl (by first | assumption | rfl) (by omega) (by first | assumption | rfl) (j_aload_n 3 dX5_chance_60 rfl (j_getR (b := 8) dX5_chance_61 fX5_26 rfl (by first | assumption | rfl) (by first | assumption | rfl) (j_V1 dX5_chance_64 kX5_266 (by first | assumption | rfl) (c_copy (t4 0 (by decide)) xN (by decide) sN oN.1.2.1 (fun V1 hV1 => ?_))))))))
            refine j_aload_n 3 dX5_chance_67 rfl (j_getR (b := 3) dX5_chance_68 fX5_19 rfl (by first | assumption | rfl) (by first | assumption | rfl) (j_aload_n 3 dX5_chance_71 rfl (j_getR (b := 117) dX5_chance_72 fX5_45 rfl (by first | assumption | rfl) (by first | assumption | rfl) (j_aload_n 3 dX5_chance_75 rfl (j_getR (b := 3) dX5_chance_76 fX5_19 rfl (by first | assumption | rfl) (by first | assumption | rfl) (j_iload_n 4 dX5_chance_79 rfl (j_V1 dX5_chance_80 kX5_232 (by first | assumption | rfl) (c_groupRow xC (sC.fr (fun a _ _ => wr_n (by omega))) ?_))))))))
            refine j_iload_n 6 dX5_chance_83 rfl (j_iload 2 dX5_chance_84 rfl (j_iconst (v := 0) dX5_chance_86 rfl (j_S6 dX5_chance_87 kX5_269 (c_ws4 (wo := 4) (d := 0) hX (sC.fr (fun a _ _ => wr_n (by omega))) oC hx10 rfl (by decide) (rec_wr hV1) oN (fun I2 e2 => ?_)))))
            refine j_iload 1 dX5_chance_90 rfl (j_iload 7 dX5_chance_92 rfl (j_S3 dX5_chance_94 kX5_262 (c_fraction (b := 10 ^ 4) hab.2 hab.1 (by decide) (by decide) ?_)))
            refine j_iret dX5_chance_97 ?_
            exact hp I2 (hs.trial (fun a ha => by rw [e2 a (by omega), wr_n (by omega)])) (fun a ha => by rw [e2 a (by omega), wr_n (by omega)])
          · have hws := ws_le (c := c) (G := G) hx 8 0 ρ
            have hab := abs_N (W := wsN c G x 8 0 ρ) (Nat.lt_of_le_of_lt hws (by decide))
            refine j_iload_n 2 dX5_chance_23 rfl (j_iconst (v := 4) dX5_chance_24 rfl (j_imul dX5_chance_25 (j_istore (lv' := [(5, _), (0, _), (1, _), (2, _), (3, _), (4, _)]) dX5_chance_26 rfl (j_iconst (v := 1) dX5_chance_28 rfl (j_istore (lv' := [(6, _), (5, _), (0, _), (1, _), (2, _), (3, _), (4, _)]) dX5_chance_29 rfl (j_iconst (v := 0) dX5_chance_31 rfl (j_istore (lv' := [(7, _), (6, _), (5, _), (0, _), (1, _), (2, _), (3, _), (4, _)]) dX5_chance_32 rfl (j_iload 0 dX5_chance_34 rfl (j_iload 2 dX5_chance_36 rfl (j_icmp_ge (tgt := 54) dX5_chance_38 rfl (fun h9 => absurd h9 (by decide)) (fun _ => (j_iload 1 dX5_chance_41 rfl (j_bipush (v := 10) dX5_chance_43 rfl (j_imul dX5_chance_45 (j_istore (lv' := [(6, _), (7, _), (5, _), (0, _), (1, _), (2, _), (3, _), (4, _)]) dX5_chance_46 rfl (j_iinc (y := 1) (lv' := [(7, _), (6, _), (5, _), (0, _), (1, _), (2, _), (3, _), (4, _)]) 1 dX5_chance_48 rfl rfl rfl (j_goto (tgt := 34) dX5_chance_51 rfl (j_iload 0 dX5_chance_34 rfl (j_iload 2 dX5_chance_36 rfl (j_icmp_ge (tgt := 54) dX5_chance_38 rfl (fun h9 => absurd h9 (by decide)) (fun _ => (j_iload 1 dX5_chance_41 rfl (j_bipush (v := 10) dX5_chance_43 rfl (j_imul dX5_chance_45 (j_istore (lv' := [(6, _), (7, _), (5, _), (0, _), (1, _), (2, _), (3, _), (4, _)]) dX5_chance_46 rfl (j_iinc (y := 1) (lv' := [(7, _), (6, _), (5, _), (0, _), (1, _), (2, _), (3, _), (4, _)]) 1 dX5_chance_48 rfl rfl rfl (j_goto (tgt := 34) dX5_chance_51 rfl (j_iload 0 dX5_chance_34 rfl (j_iload 2 dX5_chance_36 rfl (j_icmp_ge (tgt := 54) dX5_chance_38 rfl (fun h9 => absurd h9 (by decide)) (fun _ => (j_iload 1 dX5_chance_41 rfl (j_bipush (v := 10) dX5_chance_43 rfl (j_imul dX5_chance_45 (j_istore (lv' := [(6, _), (7, _), (5, _), (0, _), (1, _), (2, _), (3, _), (4, _)]) dX5_chance_46 rfl (j_iinc (y := 1) (lv' := [(7, _), (6, _), (5, _), (0, _), (1, _), (2, _), (3, _), (4, _)]) 1 dX5_chance_48 rfl rfl rfl (j_goto (tgt := 34) dX5_chance_51 rfl (j_iload 0 dX5_chance_34 rfl (j_iload 2 dX5_chance_36 rfl (j_icmp_ge (tgt := 54) dX5_chance_38 rfl (fun h9 => absurd h9 (by decide)) (fun _ => (j_iload 1 dX5_chance_41 rfl (j_bipush (v := 10) dX5_chance_43 rfl (j_imul dX5_chance_45 (j_istore (lv' := [(6, _), (7, _), (5, _), (0, _), (1, _), (2, _), (3, _), (4, _)]) dX5_chance_46 rfl (j_iinc (y := 1) (lv' := [(7, _), (6, _), (5, _), (0, _), (1, _), (2, _), (3, _), (4, _)]) 1 dX5_chance_48 rfl rfl rfl (j_goto (tgt := 34) dX5_chance_51 rfl (j_iload 0 dX5_chance_34 rfl (j_iload 2 dX5_chance_36 rfl (j_icmp_ge (tgt := 54) dX5_chance_38 rfl (fun h9 => absurd h9 (by decide)) (fun _ => (j_iload 1 dX5_chance_41 rfl (j_bipush (v := 10) dX5_chance_43 rfl (j_imul dX5_chance_45 (j_istore (lv' := [(6, _), (7, _), (5, _), (0, _), (1, _), (2, _), (3, _), (4, _)]) dX5_chance_46 rfl (j_iinc (y := 1) (lv' := [(7, _), (6, _), (5, _), (0, _), (1, _), (2, _), (3, _), (4, _)]) 1 dX5_chance_48 rfl rfl rfl (j_goto (tgt := 34) dX5_chance_51 rfl (j_iload 0 dX5_chance_34 rfl (j_iload 2 dX5_chance_36 rfl (j_icmp_ge (tgt := 54) dX5_chance_38 rfl (fun h9 => absurd h9 (by decide)) (fun _ => (j_iload 1 dX5_chance_41 rfl (j_bipush (v := 10) dX5_chance_43 rfl (j_imul dX5_chance_45 (j_istore (lv' := [(6, _), (7, _), (5, _), (0, _), (1, _), (2, _), (3, _), (4, _)]) dX5_chance_46 rfl (j_iinc (y := 1) (lv' := [(7, _), (6, _), (5, _), (0, _), (1, _), (2, _), (3, _), (4, _)]) 1 dX5_chance_48 rfl rfl rfl (j_goto (tgt := 34) dX5_chance_51 rfl (j_iload 0 dX5_chance_34 rfl (j_iload 2 dX5_chance_36 rfl (j_icmp_ge (tgt := 54) dX5_chance_38 rfl (fun h9 => absurd h9 (by decide)) (fun _ => (j_iload 1 dX5_chance_41 rfl (j_bipush (v := 10) dX5_chance_43 rfl (j_imul dX5_chance_45 (j_istore (lv' := [(6, _), (7, _), (5, _), (0, _), (1, _), (2, _), (3, _), (4, _)]) dX5_chance_46 rfl (j_iinc (y := 1) (lv' := [(7, _), (6, _), (5, _), (0, _), (1, _), (2, _), (3, _), (4, _)]) 1 dX5_chance_48 rfl rfl rfl (j_goto (tgt := 34) dX5_chance_51 rfl (j_iload 0 dX5_chance_34 rfl (j_iload 2 dX5_chance_36 rfl (j_icmp_ge (tgt := 54) dX5_chance_38 rfl (fun h9 => absurd h9 (by decide)) (fun _ => (j_iload 1 dX5_chance_41 rfl (j_bipush (v := 10) dX5_chance_43 rfl (j_imul dX5_chance_45 (j_istore (lv' := [(6, _), (7, _), (5, _), (0, _), (1, _), (2, _), (3, _), (4, _)]) dX5_chance_46 rfl (j_iinc (y := 1) (lv' := [(7, _), (6, _), (5, _), (0, _), (1, _), (2, _), (3, _), (4, _)]) 1 dX5_chance_48 rfl rfl rfl (j_goto (tgt := 34) dX5_chance_51 rfl (j_iload 0 dX5_chance_34 rfl (j_iload 2 dX5_chance_36 rfl (j_icmp_ge (tgt := 54) dX5_chance_38 rfl (fun _ => ?_) (fun h9 => absurd (by decide) h9)))))))))))))))))))))))))))))))))))))))))))))))))))))))))))))))))))))))))))))))))))))))))))
            rw [show (1 : Int32) * 10 * 10 * 10 * 10 * 10 * 10 * 10 * 10 = nI (10 ^ 8) from rfl]
            refine j_aload_n 3 dX5_chance_54 rfl (j_getR (b := 117) dX5_chance_55 fX5_45 rfl (by first | assumption | rfl) (by first | assumption | rfl) (j_iconst (v := 0) dX5_chance_58 rfl (j_aaload (b := 135) 0 dX5_chance_59 (by first | assumption | rfl) rfl (by first | assumption | rfl) (by omega) (by first | assumption | rfl) (j_aload_n 3 dX5_chance_60 rfl (j_getR (b := 8) dX5_chance_61 fX5_26 rfl (by first | assumption | rfl) (by first | assumption | rfl) (j_V1 dX5_chance_64 kX5_266 (by first | assumption | rfl) (c_copy (t4 0 (by decide)) xN (by decide) sN oN.1.2.1 (fun V1 hV1 => ?_))))))))
            refine j_aload_n 3 dX5_chance_67 rfl (j_getR (b := 3) dX5_chance_68 fX5_19 rfl (by first | assumption | rfl) (by first | assumption | rfl) (j_aload_n 3 dX5_chance_71 rfl (j_getR (b := 117) dX5_chance_72 fX5_45 rfl (by first | assumption | rfl) (by first | assumption | rfl) (j_aload_n 3 dX5_chance_75 rfl (j_getR (b := 3) dX5_chance_76 fX5_19 rfl (by first | assumption | rfl) (by first | assumption | rfl) (j_iload_n 4 dX5_chance_79 rfl (j_V1 dX5_chance_80 kX5_232 (by first | assumption | rfl) (c_groupRow xC (sC.fr (fun a _ _ => wr_n (by omega))) ?_))))))))
            refine j_iload_n 6 dX5_chance_83 rfl (j_iload 2 dX5_chance_84 rfl (j_iconst (v := 0) dX5_chance_86 rfl (j_S6 dX5_chance_87 kX5_269 (c_ws8 (wo := 8) (d := 0) hX (sC.fr (fun a _ _ => wr_n (by omega))) oC hx10 rfl (by decide) (rec_wr hV1) oN (fun I2 e2 => ?_)))))
            refine j_iload 1 dX5_chance_90 rfl (j_iload 7 dX5_chance_92 rfl (j_S3 dX5_chance_94 kX5_262 (c_fraction (b := 10 ^ 8) hab.2 hab.1 (by decide) (by decide) ?_)))
            refine j_iret dX5_chance_97 ?_
            exact hp I2 (hs.trial (fun a ha => by rw [e2 a (by omega), wr_n (by omega)])) (fun a ha => by rw [e2 a (by omega), wr_n (by omega)])
        · exact absurd (nI_le (b := 10) hx (by decide)) g4

theorem k_chance_b {g : GT} {Z : ZT} {I : IT} {L : LT} {Post : PT} {G x y up : Int32} (hx : ∀ k v, 1 ≤ k → k ≤ 2 → v ≤ 10 → x = nI k → y = nI v → False) (hp : Post (some (.int (-2))) Z I L) : CM g 15 0 0 mX5_chance [.ref 0, .int G, .int x, .int y, .int up] Z I L Post := by
  refine CM_intro ?_
  refine j_iload_n 2 dX5_chance_0 rfl (j_iconst (v := 1) dX5_chance_1 rfl (j_icmp_lt (tgt := 20) dX5_chance_2 rfl (fun g1 => ?_) (fun g1 => ?_)))
  · refine j_bipush (v := -2) dX5_chance_20 rfl (j_iret dX5_chance_22 ?_)
    exact hp
  · refine j_iload_n 2 dX5_chance_5 rfl (j_iconst (v := 2) dX5_chance_6 rfl (j_icmp_gt (tgt := 20) dX5_chance_7 rfl (fun g2 => ?_) (fun g2 => ?_)))
    · refine j_bipush (v := -2) dX5_chance_20 rfl (j_iret dX5_chance_22 ?_)
      exact hp
    · refine j_iload_n 3 dX5_chance_10 rfl (j_if_lt (tgt := 20) dX5_chance_11 rfl (fun g3 => ?_) (fun g3 => ?_))
      · refine j_bipush (v := -2) dX5_chance_20 rfl (j_iret dX5_chance_22 ?_)
        exact hp
      · refine j_iload_n 3 dX5_chance_14 rfl (j_bipush (v := 10) dX5_chance_15 rfl (j_icmp_le (tgt := 23) dX5_chance_17 rfl (fun g4 => ?_) (fun g4 => ?_)))
        · obtain ⟨k, hk1, hk2, ek⟩ := bt_t (a := 1) (b := 2) (by decide) (i_nlt (k := 1) (by decide) g1) (i_ngt (k := 2) (by decide) g2)
          obtain ⟨v, -, hv2, ev⟩ := bt_t (a := 0) (b := 10) (by decide) (i_nlt (k := 0) (by decide) g3) (i_le (k := 10) (by decide) g4)
          exact (hx k v hk1 hk2 hv2 ek ev).elim
        · refine j_bipush (v := -2) dX5_chance_20 rfl (j_iret dX5_chance_22 ?_)
          exact hp
