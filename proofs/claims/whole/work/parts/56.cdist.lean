def diN (c : CT) : Nat → Nat
  | 0 => 14
  | d + 1 => if onF (64 * (d + 1) + lfN c.1 (64 * (d + 1))) 14 < diN c d then onF (64 * (d + 1) + lfN c.1 (64 * (d + 1))) 14 else diN c d
theorem diN_le (c : CT) : ∀ d, diN c d ≤ 14
  | 0 => Nat.le_refl 14
  | d + 1 => by
    have := diN_le c d
    have h2 := onF_le (64 * (d + 1) + lfN c.1 (64 * (d + 1))) 14
    show (if _ then _ else _) ≤ 14
    split
    · exact h2
    · exact this
theorem minN {a b : Nat} (ha : a < 2 ^ 31) (hb : b < 2 ^ 31) : (if nI b < nI a then nI b else nI a) = nI (if b < a then b else a) := by
  by_cases h : b < a
  · rw [if_pos h, if_pos (nI_lt h ha)]
  · rw [if_neg h, if_neg (nI_nlt (by omega) hb)]
theorem k_distance {g : GT} {Z : ZT} {I : IT} {L : LT} {Post : PT} {t : Nat → Nat} {n : Nat} {c : CT} {w : Nat} {ρ : RT} {A : Nat × Nat × (Nat → RT)} {K : (Nat → RT) × (Nat → Bool)} {E : (Nat → Int32) × (Nat → Nat) × (Nat → Nat) × Nat} {sd : Int64}  (hX : isX Z) (hs : CSt t n c w ρ A K E sd I L) (ho : OKs c w ρ A K E)  (hp : Post (some (.int (nI (diN c 255)))) Z I L) : CM g 1 0 0 mX5_distance [.ref 0] Z I L Post := by
  obtain ⟨x0, y0, y1, y2, y3, y4, y5, y6, y7, y8, y9, xT, xC, xN, xA, b1, b2, b3, b4, b5, b6, t1, t2, t3, t4, e1, e2, e3, e4, e5, e6⟩ := id hX
  obtain ⟨sT, ⟨sC, s35, s37, s38⟩, sN, sA, sK, sE, sL⟩ := id hs
  obtain ⟨oC, oW, oN, oA, oK, oE⟩ := id ho
  obtain ⟨q1, q2, q3, q4⟩ := id xT
  obtain ⟨z1, z2, z3, z4, z5, z6, z7, z8, z9, z10, z11, z12, z13⟩ := id xC
  obtain ⟨r1, r2, r3, r4, r5, r6, r7, r8, r9, r10, r11, r12, r13, r14, r15, r16, r17, r18⟩ := id xN
  obtain ⟨a1, a2, a3, a4, a5, a6⟩ := id xA
  have l10 : zL Z 10 = 4 := r10
  have l11 : zL Z 11 = 4 := r12
  have l12 : zL Z 12 = 8 := r14
  have l13 : zL Z 13 = 8 := r16
  have l14 : zL Z 14 = 4 := r18
  refine CM_intro ?_
  have loop : ∀ (m d : Nat), d + m = 255 → JW g mX5_distance (rmO 1 0 0) (QM Post 0 0) 5 [(2, .int (nI (d + 1))), (1, .int (nI (diN c d))), (0, .ref 0)] [] 0 0 Z I L := by
    intro m
    induction m with
    | zero =>
      intro d hd
      have : d = 255 := by omega
      subst this
      refine j_iload_n 0 dX5_distance_5 rfl (j_sipush (v := 256) dX5_distance_6 rfl (j_icmp_ge (tgt := 34) dX5_distance_9 rfl (fun h1 => ?_) (fun h1 => ?_)))
      · refine j_iload_n 1 dX5_distance_34 rfl (j_iret dX5_distance_35 ?_)
        exact hp
      · exact absurd (by decide) h1
    | succ m ih =>
      intro d hd
      have hi := ih (d + 1) (by omega)
      have hr := lfN_lt (n := 64 * (d + 1)) oC.2.2.1 (by omega)
      have h1 := diN_le c d
      have h2 := onF_le (64 * (d + 1) + lfN c.1 (64 * (d + 1))) 14
      refine j_iload_n 0 dX5_distance_5 rfl (j_sipush (v := 256) dX5_distance_6 rfl (j_icmp_ge (tgt := 34) dX5_distance_9 rfl (fun h3 => ?_) (fun h3 => ?_)))
      · exact absurd h3 (nI_ge (b := 256) (by omega) (by decide))
      · refine j_iload_n 1 dX5_distance_12 rfl (j_aload_n 2 dX5_distance_13 rfl (j_getR (b := 3) dX5_distance_14 fX5_19 rfl (by first | assumption | rfl) (by first | assumption | rfl) (j_iload_n 0 dX5_distance_17 rfl (j_V1 dX5_distance_18 kX5_177 (by first | assumption | rfl) (c_plainWord xC sC (by omega) ?_)))))
        refine j_S1 dX5_distance_21 kX5_180 (c_bitC (by omega) ?_)
        refine j_mmin dX5_distance_24 kX5_185 ?_
        rw [minN (by omega) (by omega)]
        refine j_istore_n (lv' := [(1, _), (2, _), (0, _)]) dX5_distance_27 rfl (j_iinc (y := 1) (lv' := [(2, _), (1, _), (0, _)]) 1 dX5_distance_28 rfl rfl rfl (j_goto (tgt := 5) dX5_distance_31 rfl ?_))
        rw [nI_1]
        exact JW.locals [0, 1, 2] rfl hi
  refine j_bipush (v := 14) dX5_distance_0 rfl (j_istore_n (lv' := [(1, _), (0, _)]) dX5_distance_2 rfl (j_iconst (v := 1) dX5_distance_3 rfl (j_istore_n (lv' := [(2, _), (1, _), (0, _)]) dX5_distance_4 rfl ?_)))
  exact JW.locals [0, 1, 2] rfl (loop 255 0 rfl)

