theorem l_nn {y : Int64} (h : ¬ y < 0) : ∃ R, R < 2 ^ 63 ∧ y = lN R := by
  have h := Int64.le_iff_toInt_le.mp (Int64.not_lt.mp h)
  rw [show (0 : Int64).toInt = 0 from rfl] at h
  have hm : y.toInt ≤ 9223372036854775807 := Int64.toInt_le y
  refine ⟨y.toInt.toNat, by omega, ?_⟩
  apply Int64.toInt_inj.mp
  rw [pf_lI (by omega)]
  omega
theorem k_judge_b {g : GT} {Z : ZT} {I : IT} {L : LT} {Post : PT} {t : Nat → Nat} {n : Nat} {c : CT} {w : Nat} {ρ : RT} {A : Nat × Nat × (Nat → RT)} {K : (Nat → RT) × (Nat → Bool)} {E : (Nat → Int32) × (Nat → Nat) × (Nat → Nat) × Nat} {sd : Int64} {x : Int32} {y : Int64} (hX : isX Z) (hs : CSt t n c w ρ A K E sd I L) (ho : OKs c w ρ A K E) (hx : ∀ k R, 1 ≤ k → k ≤ 3 → R < htN k → x = nI k → y = lN R → False) (hp : Post (some (.int (-2))) Z I L) : CM g 8 0 0 mX5_judge [.ref 0, .int x, .long y] Z I L Post := by
  obtain ⟨x0, y0, y1, y2, y3, y4, y5, y6, y7, y8, y9, xT, xC, xN, xA, b1, b2, b3, b4, b5, b6, t1, t2, t3, t4, e1, e2, e3, e4, e5, e6⟩ := id hX
  obtain ⟨sT, ⟨sC, s35, s37, s38⟩, sN, sA, sK, sE, sL⟩ := id hs
  obtain ⟨oC, oW, oN, oA, oK, oE⟩ := id ho
  obtain ⟨q1, q2, q3, q4⟩ := id xT
  obtain ⟨z1, z2, z3, z4, z5, z6, z7, z8, z9, z10, z11, z12, z13⟩ := id xC
  obtain ⟨r1, r2, r3, r4, r5, r6, r7, r8, r9, r10, r11, r12, r13, r14, r15, r16, r17, r18⟩ := id xN
  obtain ⟨a1, a2, a3, a4, a5, a6⟩ := id xA
  have l10 : zL Z 10 = 4 := r10
  have l11 : zL Z 11 = 4 := r12
  have l12 : zL Z 12 = 8 := r14
  have l13 : zL Z 13 = 8 := r16
  have l14 : zL Z 14 = 4 := r18
  refine CM_intro ?_
  refine j_iload_n 1 dX5_judge_0 rfl (j_iconst (v := 1) dX5_judge_1 rfl (j_icmp_lt (tgt := 26) dX5_judge_2 rfl (fun g1 => ?_) (fun g1 => ?_)))
  · refine j_bipush (v := -2) dX5_judge_26 rfl (j_iret dX5_judge_28 ?_)
    exact hp
  · refine j_iload_n 1 dX5_judge_5 rfl (j_iconst (v := 3) dX5_judge_6 rfl (j_icmp_gt (tgt := 26) dX5_judge_7 rfl (fun g2 => ?_) (fun g2 => ?_)))
    · refine j_bipush (v := -2) dX5_judge_26 rfl (j_iret dX5_judge_28 ?_)
      exact hp
    · refine j_lload_n 2 dX5_judge_10 rfl (j_lconst (v := 0) dX5_judge_11 rfl (j_lcmp dX5_judge_12 (j_if_lt (tgt := 26) dX5_judge_13 rfl (fun g3 => ?_) (fun g3 => ?_))))
      · refine j_bipush (v := -2) dX5_judge_26 rfl (j_iret dX5_judge_28 ?_)
        exact hp
      · obtain ⟨k, hk1, hk2, ek⟩ := bt_t (a := 1) (b := 3) (by decide) (i_nlt (k := 1) (by decide) g1) (i_ngt (k := 3) (by decide) g2)
        obtain ⟨R, hR, eR⟩ := l_nn (fun z => g3 ((lg_cmp_lt _ _).mpr z))
        subst ek eR
        have hle : R / htN k ≤ R := Nat.div_le_self _ _
        refine j_lload_n 2 dX5_judge_16 rfl (j_iload_n 1 dX5_judge_17 rfl (j_S2 dX5_judge_18 kX5_240 (c_withoutLast hR (by omega) ?_)))
        refine j_lconst (v := 0) dX5_judge_21 rfl (j_lcmp dX5_judge_22 (j_if_eq (tgt := 29) dX5_judge_23 rfl (fun g4 => ?_) (fun g4 => ?_)))
        · have h0 := congrArg Int64.toInt ((lg_cmp_eq _ _).mp g4)
          rw [pf_lI (by omega), show (0 : Int64).toInt = 0 from rfl] at h0
          have h0 : R / htN k = 0 := by omega
          exact (hx k R hk1 hk2 ((Nat.div_eq_zero_iff_lt (Nat.pow_pos (by decide))).mp h0) rfl rfl).elim
        · refine j_bipush (v := -2) dX5_judge_26 rfl (j_iret dX5_judge_28 ?_)
          exact hp

