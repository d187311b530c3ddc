def pbN (f : Nat → Int32) : Nat → Nat
  | 0 => 0
  | k + 1 => pbN f k ||| (if f k = -9 then 0 else 2 ^ k)
theorem pbN_lt (f : Nat → Int32) : ∀ k, pbN f k < 2 ^ k
  | 0 => Nat.zero_lt_one
  | k + 1 => by
    have ih := pbN_lt f k
    refine Nat.or_lt_two_pow (Nat.lt_of_lt_of_le ih (Nat.pow_le_pow_right (by decide) (by omega))) ?_
    split
    · exact Nat.two_pow_pos _
    · exact Nat.pow_lt_pow_right (by decide) (by omega)
theorem c_presentBits {g : GT} {Z : ZT} {I : IT} {L : LT} {Post : PT} {a : Nat} (hK : zK Z a = 7) (hL : zL Z a = 4) (hp : Post (some (.int (nI (pbN (I a) 4)))) Z I L) : CM g 0 0 0 mX5_presentBits [.ref a] Z I L Post := by
  refine CM_intro ?_
  have loop : ∀ (m k : Nat), k + m = 4 → JW g mX5_presentBits (rmO 0 0 0) (QM Post 0 0) 4 [(2, .int (nI k)), (1, .int (nI (pbN (I a) k))), (0, .ref a)] [] 0 0 Z I L := by
    intro m
    induction m with
    | zero =>
      intro k hk
      have : k = 4 := by omega
      subst this
      refine j_iload_n 0 dX5_presentBits_4 rfl (j_aload_n 2 dX5_presentBits_5 rfl (j_alen (v := nI 4) dX5_presentBits_6 (by first | exact Or.inl (by first | assumption | rfl) | exact Or.inr (by first | assumption | rfl)) (by rw [hL]) (j_icmp_ge (tgt := 30) dX5_presentBits_7 rfl (fun h1 => ?_) (fun h1 => ?_))))
      · refine j_iload_n 1 dX5_presentBits_30 rfl (j_iret dX5_presentBits_31 ?_)
        exact hp
      · exact absurd (nI_le (Nat.le_refl _) (by decide)) h1
    | succ m ih =>
      intro k hk
      have hi := ih (k + 1) (by omega)
      rw [show pbN (I a) (k + 1) = pbN (I a) k ||| (if I a k = -9 then 0 else 2 ^ k) from rfl] at hi
      refine j_iload_n 0 dX5_presentBits_4 rfl (j_aload_n 2 dX5_presentBits_5 rfl (j_alen (v := nI 4) dX5_presentBits_6 (by first | exact Or.inl (by first | assumption | rfl) | exact Or.inr (by first | assumption | rfl)) (by rw [hL]) (j_icmp_ge (tgt := 30) dX5_presentBits_7 rfl (fun h1 => ?_) (fun h1 => ?_))))
      · exact absurd h1 (nI_ge (by omega) (by decide))
      · refine j_aload_n 2 dX5_presentBits_10 rfl (j_iload_n 0 dX5_presentBits_11 rfl (j_iaload k dX5_presentBits_12 (by first | assumption | rfl) (by first | assumption | rfl) (by omega) (j_bipush (v := -9) dX5_presentBits_13 rfl (j_icmp_eq (tgt := 24) dX5_presentBits_15 rfl (fun h2 => ?_) (fun h2 => ?_)))))
        · rw [if_pos h2, Nat.or_zero] at hi
          refine j_iinc (y := 1) (lv' := [(2, _), (1, _), (0, _)]) 0 dX5_presentBits_24 rfl rfl rfl (j_goto (tgt := 4) dX5_presentBits_27 rfl ?_)
          rw [nI_1]
          exact JW.locals [0, 1, 2] rfl hi
        · rw [if_neg h2] at hi
          refine j_iload_n 1 dX5_presentBits_18 rfl (j_iconst (v := 1) dX5_presentBits_19 rfl (j_iload_n 0 dX5_presentBits_20 rfl (j_ishl dX5_presentBits_21 (j_ior dX5_presentBits_22 ?_))))
          rw [show (1 : Int32) <<< (nI k &&& 31) = nI (1 * 2 ^ k) from shlI (s := 1) (by have : k = 0 ∨ k = 1 ∨ k = 2 ∨ k = 3 := by omega
                                                                                         rcases this with r | r | r | r <;> subst r <;> decide) (by omega), fa_or, Nat.one_mul]
          refine j_istore_n (lv' := [(1, _), (2, _), (0, _)]) dX5_presentBits_23 rfl (j_iinc (y := 1) (lv' := [(2, _), (1, _), (0, _)]) 1 dX5_presentBits_24 rfl rfl rfl (j_goto (tgt := 4) dX5_presentBits_27 rfl ?_))
          rw [nI_1]
          exact JW.locals [0, 1, 2] rfl hi
  refine j_iconst (v := 0) dX5_presentBits_0 rfl (j_istore_n (lv' := [(1, _), (0, _)]) dX5_presentBits_1 rfl (j_iconst (v := 0) dX5_presentBits_2 rfl (j_istore_n (lv' := [(2, _), (1, _), (0, _)]) dX5_presentBits_3 rfl ?_)))
  exact JW.locals [0, 1, 2] rfl (loop 4 0 rfl)
def toI (ρ : RT) (j : Nat) : Int32 := if j = 0 then ρ 14 else if j = 1 then ρ 15 else if j = 2 then ρ 16 else if j = 3 then ρ 17 else if j = 4 then ρ 30 else if j = 5 then nI (pbN (fun k => ρ (22 + k)) 4) else nI (pbN (fun k => ρ (18 + k)) 4)
theorem pbN_cong {f h : Nat → Int32} : ∀ n, (∀ k, k < n → f k = h k) → pbN f n = pbN h n
  | 0, _ => rfl
  | n + 1, e => by
    show pbN f n ||| (if f n = -9 then 0 else 2 ^ n) = pbN h n ||| (if h n = -9 then 0 else 2 ^ n)
    rw [pbN_cong n (fun k hk => e k (by omega)), e n (by omega)]
theorem k_told {g : GT} {Z : ZT} {I : IT} {L : LT} {Post : PT} {t : Nat → Nat} {n : Nat} {c : CT} {w : Nat} {ρ : RT} {A : Nat × Nat × (Nat → RT)} {K : (Nat → RT) × (Nat → Bool)} {E : (Nat → Int32) × (Nat → Nat) × (Nat → Nat) × Nat} {sd : Int64} {j : Nat} (hX : isX Z) (hs : CSt t n c w ρ A K E sd I L) (ho : OKs c w ρ A K E) (hj : j ≤ 6) (hp : Post (some (.int (toI ρ j))) Z I L) : CM g 1 0 0 mX5_told [.ref 0, .int (nI j)] Z I L Post := by
  obtain ⟨x0, y0, y1, y2, y3, y4, y5, y6, y7, y8, y9, xT, xC, xN, xA, b1, b2, b3, b4, b5, b6, t1, t2, t3, t4, e1, e2, e3, e4, e5, e6⟩ := id hX
  obtain ⟨sT, ⟨sC, s35, s37, s38⟩, sN, sA, sK, sE, sL⟩ := id hs
  obtain ⟨oC, oW, oN, oA, oK, oE⟩ := id ho
  obtain ⟨q1, q2, q3, q4⟩ := id xT
  obtain ⟨z1, z2, z3, z4, z5, z6, z7, z8, z9, z10, z11, z12, z13⟩ := id xC
  obtain ⟨r1, r2, r3, r4, r5, r6, r7, r8, r9, r10, r11, r12, r13, r14, r15, r16, r17, r18⟩ := id xN
  obtain ⟨a1, a2, a3, a4, a5, a6⟩ := id xA
  have l10 : zL Z 10 = 4 := r10
  have l11 : zL Z 11 = 4 := r12
  have l12 : zL Z 12 = 8 := r14
  have l13 : zL Z 13 = 8 := r16
  have l14 : zL Z 14 = 4 := r18
  refine CM_intro ?_
  have hw : j = 0 ∨ j = 1 ∨ j = 2 ∨ j = 3 ∨ j = 4 ∨ j = 5 ∨ j = 6 := by omega
  refine j_iload_n 1 dX5_told_0 rfl ?_
  rcases hw with e | e | e | e | e | e | e <;> subst e
  · refine j_tsIn (tgt := 44) dX5_told_1 (by decide) (by decide) rfl rfl ?_
    refine j_aload_n 0 dX5_told_44 rfl (j_getR (b := 8) dX5_told_45 fX5_26 rfl (by first | assumption | rfl) (by first | assumption | rfl) (j_getR (b := 9) dX5_told_48 fX5_115 rfl (by first | assumption | rfl) (by first | assumption | rfl) (j_getI dX5_told_51 fX5_119 (by first | assumption | rfl) (j_iret dX5_told_54 ?_))))
    rw [show I 9 5 = _ from sN.2.1.2.1]
    exact hp
  · refine j_tsIn (tgt := 55) dX5_told_1 (by decide) (by decide) rfl rfl ?_
    refine j_aload_n 0 dX5_told_55 rfl (j_getR (b := 8) dX5_told_56 fX5_26 rfl (by first | assumption | rfl) (by first | assumption | rfl) (j_getR (b := 9) dX5_told_59 fX5_115 rfl (by first | assumption | rfl) (by first | assumption | rfl) (j_getI dX5_told_62 fX5_124 (by first | assumption | rfl) (j_iret dX5_told_65 ?_))))
    rw [show I 9 6 = _ from sN.2.1.2.2.1]
    exact hp
  · refine j_tsIn (tgt := 66) dX5_told_1 (by decide) (by decide) rfl rfl ?_
    refine j_aload_n 0 dX5_told_66 rfl (j_getR (b := 8) dX5_told_67 fX5_26 rfl (by first | assumption | rfl) (by first | assumption | rfl) (j_getR (b := 9) dX5_told_70 fX5_115 rfl (by first | assumption | rfl) (by first | assumption | rfl) (j_getI dX5_told_73 fX5_127 (by first | assumption | rfl) (j_iret dX5_told_76 ?_))))
    rw [show I 9 7 = _ from sN.2.1.2.2.2.1]
    exact hp
  · refine j_tsIn (tgt := 77) dX5_told_1 (by decide) (by decide) rfl rfl ?_
    refine j_aload_n 0 dX5_told_77 rfl (j_getR (b := 8) dX5_told_78 fX5_26 rfl (by first | assumption | rfl) (by first | assumption | rfl) (j_getR (b := 9) dX5_told_81 fX5_115 rfl (by first | assumption | rfl) (by first | assumption | rfl) (j_getI dX5_told_84 fX5_130 (by first | assumption | rfl) (j_iret dX5_told_87 ?_))))
    rw [show I 9 8 = _ from sN.2.1.2.2.2.2.1]
    exact hp
  · refine j_tsIn (tgt := 88) dX5_told_1 (by decide) (by decide) rfl rfl ?_
    refine j_aload_n 0 dX5_told_88 rfl (j_getR (b := 8) dX5_told_89 fX5_26 rfl (by first | assumption | rfl) (by first | assumption | rfl) (j_getR (b := 9) dX5_told_92 fX5_115 rfl (by first | assumption | rfl) (by first | assumption | rfl) (j_getI dX5_told_95 fX5_133 (by first | assumption | rfl) (j_iret dX5_told_98 ?_))))
    rw [show I 9 4 = _ from sN.2.1.1]
    exact hp
  · refine j_tsIn (tgt := 99) dX5_told_1 (by decide) (by decide) rfl rfl ?_
    refine j_aload_n 0 dX5_told_99 rfl (j_getR (b := 8) dX5_told_100 fX5_26 rfl (by first | assumption | rfl) (by first | assumption | rfl) (j_getR (b := 9) dX5_told_103 fX5_115 rfl (by first | assumption | rfl) (by first | assumption | rfl) (j_getR (b := 10) dX5_told_106 fX5_136 rfl (by first | assumption | rfl) (by first | assumption | rfl) (j_S1 dX5_told_109 kX5_139 (c_presentBits r9 r10 ?_)))))
    refine j_iret dX5_told_112 ?_
    rw [pbN_cong (f := I 10) 4 (fun k hk => sN.2.1.2.2.2.2.2.1 k hk)]
    exact hp
  · refine j_tsIn (tgt := 113) dX5_told_1 (by decide) (by decide) rfl rfl ?_
    refine j_aload_n 0 dX5_told_113 rfl (j_getR (b := 8) dX5_told_114 fX5_26 rfl (by first | assumption | rfl) (by first | assumption | rfl) (j_getR (b := 14) dX5_told_117 fX5_143 rfl (by first | assumption | rfl) (by first | assumption | rfl) (j_S1 dX5_told_120 kX5_139 (c_presentBits r17 r18 ?_))))
    refine j_iret dX5_told_123 ?_
    rw [pbN_cong (f := I 14) 4 (fun k hk => sN.2.2 k hk)]
    exact hp

theorem k_told_b {g : GT} {Z : ZT} {I : IT} {L : LT} {Post : PT} {t : Nat → Nat} {n : Nat} {c : CT} {w : Nat} {ρ : RT} {A : Nat × Nat × (Nat → RT)} {K : (Nat → RT) × (Nat → Bool)} {E : (Nat → Int32) × (Nat → Nat) × (Nat → Nat) × Nat} {sd : Int64} {x : Int32} (hX : isX Z) (hs : CSt t n c w ρ A K E sd I L) (ho : OKs c w ρ A K E) (hx : x.toInt < 0 ∨ 6 < x.toInt) (hp : Post (some (.int (-2))) Z I L) : CM g 1 0 0 mX5_told [.ref 0, .int x] Z I L Post := by
  obtain ⟨x0, y0, y1, y2, y3, y4, y5, y6, y7, y8, y9, xT, xC, xN, xA, b1, b2, b3, b4, b5, b6, t1, t2, t3, t4, e1, e2, e3, e4, e5, e6⟩ := id hX
  obtain ⟨sT, ⟨sC, s35, s37, s38⟩, sN, sA, sK, sE, sL⟩ := id hs
  obtain ⟨oC, oW, oN, oA, oK, oE⟩ := id ho
  obtain ⟨q1, q2, q3, q4⟩ := id xT
  obtain ⟨z1, z2, z3, z4, z5, z6, z7, z8, z9, z10, z11, z12, z13⟩ := id xC
  obtain ⟨r1, r2, r3, r4, r5, r6, r7, r8, r9, r10, r11, r12, r13, r14, r15, r16, r17, r18⟩ := id xN
  obtain ⟨a1, a2, a3, a4, a5, a6⟩ := id xA
  have l10 : zL Z 10 = 4 := r10
  have l11 : zL Z 11 = 4 := r12
  have l12 : zL Z 12 = 8 := r14
  have l13 : zL Z 13 = 8 := r16
  have l14 : zL Z 14 = 4 := r18
  refine CM_intro ?_
  refine j_iload_n 1 dX5_told_0 rfl ?_
  refine j_tsOut (tgt := 124) dX5_told_1 hx rfl ?_
  refine j_bipush (v := -2) dX5_told_124 rfl (j_iret dX5_told_126 ?_)
  exact hp

def abI (n : Nat) (c : CT) (w : Nat) (ρ : RT) (A : Nat × Nat × (Nat → RT)) (E : (Nat → Int32) × (Nat → Nat) × (Nat → Nat) × Nat) (j : Nat) : Int32 := if j = 0 then nI c.1 else if j = 1 then nI w else if j = 2 then nI c.2.2.1 else if j = 13 then nI A.2.1 else if j = 14 then nI E.2.2.2 else if j = 15 then nI n else if j = 16 then nI (CL w).length else if j = 17 then nI (snB c.1 w 64) else tlF ρ j
theorem k_about {g : GT} {Z : ZT} {I : IT} {L : LT} {Post : PT} {t : Nat → Nat} {n : Nat} {c : CT} {w : Nat} {ρ : RT} {A : Nat × Nat × (Nat → RT)} {K : (Nat → RT) × (Nat → Bool)} {E : (Nat → Int32) × (Nat → Nat) × (Nat → Nat) × Nat} {sd : Int64} {j : Nat} (hX : isX Z) (hs : CSt t n c w ρ A K E sd I L) (ho : OKs c w ρ A K E) (hj : j ≤ 17) (hp : Post (some (.int (abI n c w ρ A E j))) Z I L) : CM g 2 0 0 mX5_about [.ref 0, .int (nI j)] Z I L Post := by
  obtain ⟨x0, y0, y1, y2, y3, y4, y5, y6, y7, y8, y9, xT, xC, xN, xA, b1, b2, b3, b4, b5, b6, t1, t2, t3, t4, e1, e2, e3, e4, e5, e6⟩ := id hX
  obtain ⟨sT, ⟨sC, s35, s37, s38⟩, sN, sA, sK, sE, sL⟩ := id hs
  obtain ⟨oC, oW, oN, oA, oK, oE⟩ := id ho
  obtain ⟨q1, q2, q3, q4⟩ := id xT
  obtain ⟨z1, z2, z3, z4, z5, z6, z7, z8, z9, z10, z11, z12, z13⟩ := id xC
  obtain ⟨r1, r2, r3, r4, r5, r6, r7, r8, r9, r10, r11, r12, r13, r14, r15, r16, r17, r18⟩ := id xN
  obtain ⟨a1, a2, a3, a4, a5, a6⟩ := id xA
  have l10 : zL Z 10 = 4 := r10
  have l11 : zL Z 11 = 4 := r12
  have l12 : zL Z 12 = 8 := r14
  have l13 : zL Z 13 = 8 := r16
  have l14 : zL Z 14 = 4 := r18
  refine CM_intro ?_
  have hw : j = 0 ∨ j = 1 ∨ j = 2 ∨ j = 13 ∨ j = 14 ∨ j = 15 ∨ j = 16 ∨ j = 17 ∨ (j = 3 ∨ j = 4 ∨ j = 5 ∨ j = 6 ∨ j = 7) ∨ (j = 8 ∨ j = 9 ∨ j = 10 ∨ j = 11 ∨ j = 12) := by omega
  refine j_iload_n 1 dX5_about_0 rfl ?_
  rcases hw with e | e | e | e | e | e | e | e | e | e
  · subst e
    refine j_tsIn (tgt := 88) dX5_about_1 (by decide) (by decide) rfl rfl ?_
    refine j_aload_n 0 dX5_about_88 rfl (j_getR (b := 3) dX5_about_89 fX5_19 rfl (by first | assumption | rfl) (by first | assumption | rfl) (j_getI dX5_about_92 fX5_87 (by first | assumption | rfl) (j_iret dX5_about_95 ?_)))
    rw [show I 3 4 = _ from sC.1]
    exact hp
  · subst e
    refine j_tsIn (tgt := 96) dX5_about_1 (by decide) (by decide) rfl rfl ?_
    refine j_aload_n 0 dX5_about_96 rfl (j_getR (b := 3) dX5_about_97 fX5_19 rfl (by first | assumption | rfl) (by first | assumption | rfl) (j_getI dX5_about_100 fX5_90 (by first | assumption | rfl) (j_iret dX5_about_103 ?_)))
    rw [show I 3 5 = _ from s35]
    exact hp
  · subst e
    refine j_tsIn (tgt := 104) dX5_about_1 (by decide) (by decide) rfl rfl ?_
    refine j_aload_n 0 dX5_about_104 rfl (j_getR (b := 3) dX5_about_105 fX5_19 rfl (by first | assumption | rfl) (by first | assumption | rfl) (j_getI dX5_about_108 fX5_93 (by first | assumption | rfl) (j_iret dX5_about_111 ?_)))
    rw [show I 3 6 = _ from sC.2.2.2.2.1]
    exact hp
  · subst e
    refine j_tsIn (tgt := 112) dX5_about_1 (by decide) (by decide) rfl rfl ?_
    refine j_aload_n 0 dX5_about_112 rfl (j_getR (b := 15) dX5_about_113 fX5_33 rfl (by first | assumption | rfl) (by first | assumption | rfl) (j_getI dX5_about_116 fX5_96 (by first | assumption | rfl) (j_iret dX5_about_119 ?_)))
    rw [show I 15 2 = _ from sA.2.2.2.1]
    exact hp
  · subst e
    refine j_tsIn (tgt := 120) dX5_about_1 (by decide) (by decide) rfl rfl ?_
    refine j_aload_n 0 dX5_about_120 rfl (j_getI dX5_about_121 fX5_58 (by first | assumption | rfl) (j_iret dX5_about_124 ?_))
    rw [show I 0 10 = _ from sE.1]
    exact hp
  · subst e
    refine j_tsIn (tgt := 125) dX5_about_1 (by decide) (by decide) rfl rfl ?_
    refine j_aload_n 0 dX5_about_125 rfl (j_getR (b := 1) dX5_about_126 fX5_10 rfl (by first | assumption | rfl) (by first | assumption | rfl) (j_getI dX5_about_129 fX5_70 (by first | assumption | rfl) (j_iret dX5_about_132 ?_)))
    rw [show I 1 1 = _ from sT.2.1]
    exact hp
  · subst e
    refine j_tsIn (tgt := 133) dX5_about_1 (by decide) (by decide) rfl rfl ?_
    refine j_aload_n 0 dX5_about_133 rfl (j_getR (b := 3) dX5_about_134 fX5_19 rfl (by first | assumption | rfl) (by first | assumption | rfl) (j_getI dX5_about_137 fX5_99 (by first | assumption | rfl) (j_iret dX5_about_140 ?_)))
    rw [show I 3 7 = _ from s37]
    exact hp
  · subst e
    refine j_tsIn (tgt := 141) dX5_about_1 (by decide) (by decide) rfl rfl ?_
    refine j_aload_n 0 dX5_about_141 rfl (j_getR (b := 3) dX5_about_142 fX5_19 rfl (by first | assumption | rfl) (by first | assumption | rfl) (j_getI dX5_about_145 fX5_102 (by first | assumption | rfl) (j_iret dX5_about_148 ?_)))
    rw [show I 3 8 = _ from s38]
    exact hp
  · rcases e with e | e | e | e | e <;> subst e
    all_goals
      refine j_tsIn (tgt := 149) dX5_about_1 (by decide) (by decide) rfl rfl ?_
      refine j_aload_n 0 dX5_about_149 rfl (j_getR (b := 8) dX5_about_150 fX5_26 rfl (by first | assumption | rfl) (by first | assumption | rfl) (j_iload_n 1 dX5_about_153 rfl (j_V1 dX5_about_154 kX5_105 (by first | assumption | rfl) (c_tel r1 sN oN.1.2.1 (by decide) (by decide) ?_))))
      refine j_iret dX5_about_157 ?_
      exact hp
  · rcases e with e | e | e | e | e <;> subst e
    all_goals
      refine j_tsIn (tgt := 149) dX5_about_1 (by decide) (by decide) rfl rfl ?_
      refine j_aload_n 0 dX5_about_149 rfl (j_getR (b := 8) dX5_about_150 fX5_26 rfl (by first | assumption | rfl) (by first | assumption | rfl) (j_iload_n 1 dX5_about_153 rfl (j_V1 dX5_about_154 kX5_105 (by first | assumption | rfl) (c_tel r1 sN oN.1.2.1 (by decide) (by decide) ?_))))
      refine j_iret dX5_about_157 ?_
      exact hp

theorem k_about_b {g : GT} {Z : ZT} {I : IT} {L : LT} {Post : PT} {t : Nat → Nat} {n : Nat} {c : CT} {w : Nat} {ρ : RT} {A : Nat × Nat × (Nat → RT)} {K : (Nat → RT) × (Nat → Bool)} {E : (Nat → Int32) × (Nat → Nat) × (Nat → Nat) × Nat} {sd : Int64} {x : Int32} (hX : isX Z) (hs : CSt t n c w ρ A K E sd I L) (ho : OKs c w ρ A K E) (hx : x.toInt < 0 ∨ 17 < x.toInt) (hp : Post (some (.int (-2))) Z I L) : CM g 2 0 0 mX5_about [.ref 0, .int x] Z I L Post := by
  obtain ⟨x0, y0, y1, y2, y3, y4, y5, y6, y7, y8, y9, xT, xC, xN, xA, b1, b2, b3, b4, b5, b6, t1, t2, t3, t4, e1, e2, e3, e4, e5, e6⟩ := id hX
  obtain ⟨sT, ⟨sC, s35, s37, s38⟩, sN, sA, sK, sE, sL⟩ := id hs
  obtain ⟨oC, oW, oN, oA, oK, oE⟩ := id ho
  obtain ⟨q1, q2, q3, q4⟩ := id xT
  obtain ⟨z1, z2, z3, z4, z5, z6, z7, z8, z9, z10, z11, z12, z13⟩ := id xC
  obtain ⟨r1, r2, r3, r4, r5, r6, r7, r8, r9, r10, r11, r12, r13, r14, r15, r16, r17, r18⟩ := id xN
  obtain ⟨a1, a2, a3, a4, a5, a6⟩ := id xA
  have l10 : zL Z 10 = 4 := r10
  have l11 : zL Z 11 = 4 := r12
  have l12 : zL Z 12 = 8 := r14
  have l13 : zL Z 13 = 8 := r16
  have l14 : zL Z 14 = 4 := r18
  refine CM_intro ?_
  refine j_iload_n 1 dX5_about_0 rfl ?_
  refine j_tsOut (tgt := 149) dX5_about_1 hx rfl ?_
  refine j_aload_n 0 dX5_about_149 rfl (j_getR (b := 8) dX5_about_150 fX5_26 rfl (by first | assumption | rfl) (by first | assumption | rfl) (j_iload_n 1 dX5_about_153 rfl (j_V1 dX5_about_154 kX5_105 (by first | assumption | rfl) (c_tellBad (by omega) ?_))))
  refine j_iret dX5_about_157 ?_
  exact hp

theorem c_freshTrial {g : GT} {Z : ZT} {I : IT} {L : LT} {Post : PT} {ρ : RT} (hX : isX Z) (sN : REC (vw I 8) ρ) (h2 : ρ 3 = 0 ∨ ρ 3 = 1) (hp : ∀ V', REC V' ρ → Post (some (.ref 135)) Z (wr I 135 V') L) : CM g 3 0 0 mX5_freshTrial [.ref 0] Z I L Post := by
  obtain ⟨x0, y0, y1, y2, y3, y4, y5, y6, y7, y8, y9, xT, xC, xN, xA, b1, b2, b3, b4, b5, b6, t1, t2, t3, t4, e1, e2, e3, e4, e5, e6⟩ := id hX
  have t30 := t3 0 (by decide)
  have t40 := (t4 0 (by decide)).1
  have k1 := xN.1
  refine CM_intro ?_
  refine j_aload_n 0 dX5_freshTrial_0 rfl (j_getR (b := 117) dX5_freshTrial_1 fX5_45 rfl (by first | assumption | rfl) (by first | assumption | rfl) (j_iconst (v := 0) dX5_freshTrial_4 rfl (j_aaload (b := 135) 0 dX5_freshTrial_5 (by first | assumption | rfl) rfl (by first | assumption | rfl) (by omega) (by first | assumption | rfl) (j_aload_n 0 dX5_freshTrial_6 rfl (j_getR (b := 8) dX5_freshTrial_7 fX5_26 rfl (by first | assumption | rfl) (by first | assumption | rfl) (j_V1 dX5_freshTrial_10 kX5_266 (by first | assumption | rfl) (c_copy (t4 0 (by decide)) xN (by omega) sN h2 (fun V' hV' => ?_))))))))
  refine j_aload_n 0 dX5_freshTrial_13 rfl (j_getR (b := 117) dX5_freshTrial_14 fX5_45 rfl (by first | assumption | rfl) (by first | assumption | rfl) (j_iconst (v := 0) dX5_freshTrial_17 rfl (j_aaload (b := 135) 0 dX5_freshTrial_18 (by first | assumption | rfl) rfl (by first | assumption | rfl) (by omega) (by first | assumption | rfl) (j_aret dX5_freshTrial_19 ?_))))
  exact hp V' hV'
theorem trial_eq {I V : IT} {i : Nat} : ∀ a, a < 135 → wr I (135 + 7 * i) V a = I a := fun a ha => wr_n (by omega)
theorem trial_M {I V : IT} {i : Nat} (hi : i < 9) : eqM I (wr I (135 + 7 * i) V) := fun a ha => wr_n (by omega)
theorem k_ahead {g : GT} {Z : ZT} {I : IT} {L : LT} {Post : PT} {t : Nat → Nat} {n : Nat} {c : CT} {w : Nat} {ρ : RT} {A : Nat × Nat × (Nat → RT)} {K : (Nat → RT) × (Nat → Bool)} {E : (Nat → Int32) × (Nat → Nat) × (Nat → Nat) × Nat} {sd : Int64} {G : Int32} {k j : Nat} (hX : isX Z) (hs : CSt t n c w ρ A K E sd I L) (ho : OKs c w ρ A K E) (h9 : k ≤ 9) (hj : 3 ≤ j) (hj2 : j ≤ 12) (hp : ∀ I', CSt t n c w ρ A K E sd I' L → eqM I I' → Post (some (.int (tlF (giF c G k ρ) j))) Z I' L) : CM g 7 0 0 mX5_ahead [.ref 0, .int G, .int (nI k), .int (nI j)] Z I L Post := by
  obtain ⟨x0, y0, y1, y2, y3, y4, y5, y6, y7, y8, y9, xT, xC, xN, xA, b1, b2, b3, b4, b5, b6, t1, t2, t3, t4, e1, e2, e3, e4, e5, e6⟩ := id hX
  obtain ⟨sT, ⟨sC, s35, s37, s38⟩, sN, sA, sK, sE, sL⟩ := id hs
  obtain ⟨oC, oW, oN, oA, oK, oE⟩ := id ho
  obtain ⟨q1, q2, q3, q4⟩ := id xT
  obtain ⟨z1, z2, z3, z4, z5, z6, z7, z8, z9, z10, z11, z12, z13⟩ := id xC
  obtain ⟨r1, r2, r3, r4, r5, r6, r7, r8, r9, r10, r11, r12, r13, r14, r15, r16, r17, r18⟩ := id xN
  obtain ⟨a1, a2, a3, a4, a5, a6⟩ := id xA
  have l10 : zL Z 10 = 4 := r10
  have l11 : zL Z 11 = 4 := r12
  have l12 : zL Z 12 = 8 := r14
  have l13 : zL Z 13 = 8 := r16
  have l14 : zL Z 14 = 4 := r18
  refine CM_intro ?_
  have q1 := (t4 0 (by decide)).1
  refine j_iload_n 2 dX5_ahead_0 rfl (j_if_lt (tgt := 21) dX5_ahead_1 rfl (fun g1 => ?_) (fun g1 => ?_))
  · exact absurd g1 (nI_pos (by omega))
  · refine j_iload_n 2 dX5_ahead_4 rfl (j_bipush (v := 9) dX5_ahead_5 rfl (j_icmp_gt (tgt := 21) dX5_ahead_7 rfl (fun g2 => ?_) (fun g2 => ?_)))
    · exact absurd g2 (nI_nlt (a := 9) h9 (by decide))
    · refine j_iload_n 3 dX5_ahead_10 rfl (j_iconst (v := 3) dX5_ahead_11 rfl (j_icmp_lt (tgt := 21) dX5_ahead_12 rfl (fun g3 => ?_) (fun g3 => ?_)))
      · exact absurd g3 (nI_nlt (b := 3) hj (by omega))
      · refine j_iload_n 3 dX5_ahead_15 rfl (j_bipush (v := 12) dX5_ahead_16 rfl (j_icmp_le (tgt := 24) dX5_ahead_18 rfl (fun g4 => ?_) (fun g4 => ?_)))
        · refine j_aload_n 0 dX5_ahead_24 rfl (j_V0 dX5_ahead_25 kX5_228 (by first | assumption | rfl) (c_freshTrial hX sN oN.1.2.1 (fun V' hV' => ?_)))
          refine j_astore (lv' := [(4, _), (0, _), (1, _), (2, _), (3, _)]) dX5_ahead_28 rfl (j_aload_n 1 dX5_ahead_30 rfl (j_aload 0 dX5_ahead_31 rfl (j_iload_n 2 dX5_ahead_33 rfl (j_iload_n 3 dX5_ahead_34 rfl (j_V3 dX5_ahead_35 kX5_217 (by first | assumption | rfl) (c_hearGroups x0 y1 (t4 0 (by decide)) xC (sC.fr (fun a _ _ => wr_n (by omega))) oC (by decide) (rec_wr hV') oN h9 (fun V2 hV2 => ?_)))))))
          refine j_aload 0 dX5_ahead_38 rfl (j_iload_n 4 dX5_ahead_40 rfl (j_V1 dX5_ahead_41 kX5_105 (by first | assumption | rfl) (c_tel q1 (rec_wr hV2) (oN.gi oC G k).1.2.1 hj hj2 ?_)))
          refine j_iret dX5_ahead_44 ?_
          refine hp _ (hs.trial (fun a ha => ?_)) (fun a ha => ?_)
          · rw [wr_n (by omega), wr_n (by omega)]
          · rw [wr_n (by omega), wr_n (by omega)]
        · exact absurd (nI_le (b := 12) hj2 (by decide)) g4

theorem k_ahead_b {g : GT} {Z : ZT} {I : IT} {L : LT} {Post : PT} {t : Nat → Nat} {n : Nat} {c : CT} {w : Nat} {ρ : RT} {A : Nat × Nat × (Nat → RT)} {K : (Nat → RT) × (Nat → Bool)} {E : (Nat → Int32) × (Nat → Nat) × (Nat → Nat) × Nat} {sd : Int64} {G x y : Int32} (hX : isX Z) (hs : CSt t n c w ρ A K E sd I L) (ho : OKs c w ρ A K E) (hx : ∀ k j, k ≤ 9 → 3 ≤ j → j ≤ 12 → x = nI k → y = nI j → False) (hp : Post (some (.int (-2))) Z I L) : CM g 7 0 0 mX5_ahead [.ref 0, .int G, .int x, .int y] Z I L Post := by
  obtain ⟨x0, y0, y1, y2, y3, y4, y5, y6, y7, y8, y9, xT, xC, xN, xA, b1, b2, b3, b4, b5, b6, t1, t2, t3, t4, e1, e2, e3, e4, e5, e6⟩ := id hX
  obtain ⟨sT, ⟨sC, s35, s37, s38⟩, sN, sA, sK, sE, sL⟩ := id hs
  obtain ⟨oC, oW, oN, oA, oK, oE⟩ := id ho
  obtain ⟨q1, q2, q3, q4⟩ := id xT
  obtain ⟨z1, z2, z3, z4, z5, z6, z7, z8, z9, z10, z11, z12, z13⟩ := id xC
  obtain ⟨r1, r2, r3, r4, r5, r6, r7, r8, r9, r10, r11, r12, r13, r14, r15, r16, r17, r18⟩ := id xN
  obtain ⟨a1, a2, a3, a4, a5, a6⟩ := id xA
  have l10 : zL Z 10 = 4 := r10
  have l11 : zL Z 11 = 4 := r12
  have l12 : zL Z 12 = 8 := r14
  have l13 : zL Z 13 = 8 := r16
  have l14 : zL Z 14 = 4 := r18
  refine CM_intro ?_
  refine j_iload_n 2 dX5_ahead_0 rfl (j_if_lt (tgt := 21) dX5_ahead_1 rfl (fun g1 => ?_) (fun g1 => ?_))
  · refine j_bipush (v := -2) dX5_ahead_21 rfl (j_iret dX5_ahead_23 ?_)
    exact hp
  · refine j_iload_n 2 dX5_ahead_4 rfl (j_bipush (v := 9) dX5_ahead_5 rfl (j_icmp_gt (tgt := 21) dX5_ahead_7 rfl (fun g2 => ?_) (fun g2 => ?_)))
    · refine j_bipush (v := -2) dX5_ahead_21 rfl (j_iret dX5_ahead_23 ?_)
      exact hp
    · refine j_iload_n 3 dX5_ahead_10 rfl (j_iconst (v := 3) dX5_ahead_11 rfl (j_icmp_lt (tgt := 21) dX5_ahead_12 rfl (fun g3 => ?_) (fun g3 => ?_)))
      · refine j_bipush (v := -2) dX5_ahead_21 rfl (j_iret dX5_ahead_23 ?_)
        exact hp
      · refine j_iload_n 3 dX5_ahead_15 rfl (j_bipush (v := 12) dX5_ahead_16 rfl (j_icmp_le (tgt := 24) dX5_ahead_18 rfl (fun g4 => ?_) (fun g4 => ?_)))
        · obtain ⟨k, -, hk2, ek⟩ := bt_t (a := 0) (b := 9) (by decide) (i_nlt (k := 0) (by decide) g1) (i_ngt (k := 9) (by decide) g2)
          obtain ⟨v, hv1, hv2, ev⟩ := bt_t (a := 3) (b := 12) (by decide) (i_nlt (k := 3) (by decide) g3) (i_le (k := 12) (by decide) g4)
          exact (hx k v hk2 hv1 hv2 ek ev).elim
        · refine j_bipush (v := -2) dX5_ahead_21 rfl (j_iret dX5_ahead_23 ?_)
          exact hp

noncomputable def ndI (c : CT) (G : Int32) (ρ : RT) : Int32 := if fIx (fun n => decide (giF c G n ρ 3 = 1)) 10 0 < 10 then nI (fIx (fun n => decide (giF c G n ρ 3 = 1)) 10 0) else -9
theorem k_needs {g : GT} {Z : ZT} {I : IT} {L : LT} {Post : PT} {t : Nat → Nat} {n : Nat} {c : CT} {w : Nat} {ρ : RT} {A : Nat × Nat × (Nat → RT)} {K : (Nat → RT) × (Nat → Bool)} {E : (Nat → Int32) × (Nat → Nat) × (Nat → Nat) × Nat} {sd : Int64} {G : Int32} (hX : isX Z) (hs : CSt t n c w ρ A K E sd I L) (ho : OKs c w ρ A K E)  (hp : ∀ I', CSt t n c w ρ A K E sd I' L → eqM I I' → Post (some (.int (ndI c G ρ))) Z I' L) : CM g 6 0 0 mX5_needs [.ref 0, .int G] Z I L Post := by
  obtain ⟨x0, y0, y1, y2, y3, y4, y5, y6, y7, y8, y9, xT, xC, xN, xA, b1, b2, b3, b4, b5, b6, t1, t2, t3, t4, e1, e2, e3, e4, e5, e6⟩ := id hX
  obtain ⟨sT, ⟨sC, s35, s37, s38⟩, sN, sA, sK, sE, sL⟩ := id hs
  obtain ⟨oC, oW, oN, oA, oK, oE⟩ := id ho
  obtain ⟨q1, q2, q3, q4⟩ := id xT
  obtain ⟨z1, z2, z3, z4, z5, z6, z7, z8, z9, z10, z11, z12, z13⟩ := id xC
  obtain ⟨r1, r2, r3, r4, r5, r6, r7, r8, r9, r10, r11, r12, r13, r14, r15, r16, r17, r18⟩ := id xN
  obtain ⟨a1, a2, a3, a4, a5, a6⟩ := id xA
  have l10 : zL Z 10 = 4 := r10
  have l11 : zL Z 11 = 4 := r12
  have l12 : zL Z 12 = 8 := r14
  have l13 : zL Z 13 = 8 := r16
  have l14 : zL Z 14 = 4 := r18
  refine CM_intro ?_
  have q1 := (t4 0 (by decide)).1
  have hlt := rt_lt (G := G) (t := 0) oC.2.2.1 oC.2.2.2.1 4 (by decide)
  have hcc : ∀ V, CC (wr I 135 V) c := fun V => sC.fr (fun a _ _ => wr_n (by omega))
  have hpp : ∀ V, Post (some (.int (ndI c G ρ))) Z (wr I 135 V) L := fun V => hp _ (hs.trial (fun a ha => wr_n (by omega))) (fun a ha => wr_n (by omega))
  have loop : ∀ (m k : Nat) (V : IT), k + m = 10 → (0 < m → REC V (giF c G k ρ)) → fIx (fun n => decide (giF c G n ρ 3 = 1)) m k = fIx (fun n => decide (giF c G n ρ 3 = 1)) 10 0 → JW g mX5_needs (rmO 6 0 0) (QM Post 0 0) 17 [(5, .int (nI k)), (3, .long (lN (rtN c G 0 4))), (2, .ref 135), (0, .ref 0), (1, .int G)] [] 0 0 Z (wr I 135 V) L := by
    intro m
    induction m with
    | zero =>
      intro k V hk hV hq
      have : k = 10 := by omega
      subst this
      refine j_iload 0 dX5_needs_17 rfl (j_bipush (v := 9) dX5_needs_19 rfl (j_icmp_gt (tgt := 58) dX5_needs_21 rfl (fun h1 => ?_) (fun h1 => ?_)))
      · refine j_bipush (v := -9) dX5_needs_58 rfl (j_iret dX5_needs_60 ?_)
        have := hpp V
        unfold ndI at this
        rw [← hq, if_neg (show ¬ fIx (fun n => decide (giF c G n ρ 3 = 1)) 0 10 < 10 from Nat.lt_irrefl _)] at this
        exact this
      · exact absurd (by decide) h1
    | succ m ih =>
      intro k V hk hV hq
      have hV := hV (by omega)
      have h01 := (oN.gi oC G k).1.2.1
      refine j_iload 0 dX5_needs_17 rfl (j_bipush (v := 9) dX5_needs_19 rfl (j_icmp_gt (tgt := 58) dX5_needs_21 rfl (fun h1 => ?_) (fun h1 => ?_)))
      · exact absurd h1 (nI_nlt (a := 9) (by omega) (by decide))
      · refine j_aload_n 2 dX5_needs_24 rfl (j_getI dX5_needs_25 fX5_236 (by first | assumption | rfl) (j_if_eq (tgt := 34) dX5_needs_28 rfl (fun h2 => ?_) (fun h2 => ?_)))
        · rw [wr_0, show V 0 5 = _ from hV.1.2.2.2.1] at h2
          have hq2 : fIx (fun n => decide (giF c G n ρ 3 = 1)) m (k + 1) = fIx (fun n => decide (giF c G n ρ 3 = 1)) 10 0 := by
            rw [← hq]
            show _ = if decide (giF c G k ρ 3 = 1) = true then k else _
            rw [if_neg (by rw [h2]; decide)]
          refine j_iload 0 dX5_needs_34 rfl (j_bipush (v := 9) dX5_needs_36 rfl (j_icmp_ge (tgt := 52) dX5_needs_38 rfl (fun h3 => ?_) (fun h3 => ?_)))
          · refine j_iinc (y := 1) (lv' := [(5, _), (3, _), (2, _), (0, _), (1, _)]) 0 dX5_needs_52 rfl rfl rfl (j_goto (tgt := 17) dX5_needs_55 rfl ?_)
            rw [nI_1]
            refine JW.locals [0, 1, 2, 3, 4] rfl (ih (k + 1) V (by omega) (fun z => ?_) hq2)
            exact absurd h3 (nI_ge (b := 9) (by omega) (by decide))
          · refine j_aload_n 2 dX5_needs_41 rfl (j_aload_n 3 dX5_needs_42 rfl (j_getR (b := 3) dX5_needs_43 fX5_19 rfl (by first | assumption | rfl) (by first | assumption | rfl) (j_lload_n 1 dX5_needs_46 rfl (j_bipush (v := 56) dX5_needs_47 rfl (j_V3 dX5_needs_49 kX5_204 (by first | assumption | rfl) (c_hears (n := 56) (t4 0 (by decide)) xC (hcc V) (by decide) (rec_wr hV) (oN.gi oC G k).1 (by decide) (by omega) (fun V2 hV2 => ?_)))))))
            rw [hs_rt (k := 4) oC.2.2.1 oC.2.2.2.1 _ (by decide)] at hV2
            rw [wr_wr]
            refine j_iinc (y := 1) (lv' := [(5, _), (3, _), (2, _), (0, _), (1, _)]) 0 dX5_needs_52 rfl rfl rfl (j_goto (tgt := 17) dX5_needs_55 rfl ?_)
            rw [nI_1]
            exact JW.locals [0, 1, 2, 3, 4] rfl (ih (k + 1) V2 (by omega) (fun _ => hV2) hq2)
        · rw [wr_0, show V 0 5 = _ from hV.1.2.2.2.1] at h2
          have hs1 := h01.resolve_left h2
          refine j_iload 0 dX5_needs_31 rfl (j_iret dX5_needs_33 ?_)
          have := hpp V
          unfold ndI at this
          have e : fIx (fun n => decide (giF c G n ρ 3 = 1)) (m + 1) k = k := by
            show (if decide (giF c G k ρ 3 = 1) = true then k else _) = k
            rw [if_pos (decide_eq_true hs1)]
          rw [← hq, e, if_pos (by omega)] at this
          exact this
  refine j_aload_n 0 dX5_needs_0 rfl (j_V0 dX5_needs_1 kX5_228 (by first | assumption | rfl) (c_freshTrial hX sN oN.1.2.1 (fun V' hV' => ?_)))
  refine j_astore_n (lv' := [(2, _), (0, _), (1, _)]) dX5_needs_4 rfl (j_aload_n 1 dX5_needs_5 rfl (j_getR (b := 3) dX5_needs_6 fX5_19 rfl (by first | assumption | rfl) (by first | assumption | rfl) (j_iload_n 2 dX5_needs_9 rfl (j_V1 dX5_needs_10 kX5_232 (by first | assumption | rfl) (c_groupRow xC (hcc V') ?_)))))
  refine j_lstore_n (lv' := [(3, _), (2, _), (0, _), (1, _)]) dX5_needs_13 rfl (j_iconst (v := 0) dX5_needs_14 rfl (j_istore (lv' := [(5, _), (3, _), (2, _), (0, _), (1, _)]) dX5_needs_15 rfl ?_))
  exact JW.locals [0, 1, 2, 3, 4] rfl (loop 10 0 V' rfl (fun _ => hV') rfl)

