def fvN (R n k : Nat) : Nat := R / htN (n - 1 - k) % 100000
noncomputable def jgR (c : CT) (R n : Nat) (ρ : RT) : Nat → RT
  | 0 => ρ
  | k + 1 => jdR c (jgR c R n ρ k) (fvN R n k / 10000) (fvN R n k / 1000 % 10) (fvN R n k % 1000)
noncomputable def jgB (c : CT) (R n : Nat) (ρ : RT) (k : Nat) : Bool := jdB (jgR c R n ρ k) (fvN R n k / 10000) (fvN R n k / 1000 % 10) (fvN R n k % 1000)
noncomputable def jgI (c : CT) (R n : Nat) (ρ : RT) : Int32 := if fIx (fun k => !jgB c R n ρ k) n 0 < n then nI (fIx (fun k => !jgB c R n ρ k) n 0) else -9
theorem OKz.jd {c : CT} (oC : okC c) {σ : RT} (h : OKz c σ) (k a t : Nat) : OKz c (jdR c σ k a t) := by
  unfold jdR
  split
  · exact OKz.hs oC _ 14 h
  · split
    · exact h.rs
    · exact h
theorem OKz.jg {c : CT} (oC : okC c) (R n : Nat) {ρ : RT} (h : OKz c ρ) : ∀ k, OKz c (jgR c R n ρ k)
  | 0 => h
  | k + 1 => (OKz.jg oC R n h k).jd oC _ _ _
theorem k_judge {g : GT} {Z : ZT} {I : IT} {L : LT} {Post : PT} {t : Nat → Nat} {n : Nat} {c : CT} {w : Nat} {ρ : RT} {A : Nat × Nat × (Nat → RT)} {K : (Nat → RT) × (Nat → Bool)} {E : (Nat → Int32) × (Nat → Nat) × (Nat → Nat) × Nat} {sd : Int64} {k R : Nat} (hX : isX Z) (hs : CSt t n c w ρ A K E sd I L) (ho : OKs c w ρ A K E) (h1 : 1 ≤ k) (h3 : k ≤ 3) (hR : R < htN k) (hp : ∀ I', CSt t n c w ρ A K E sd I' L → eqM I I' → Post (some (.int (jgI c R k ρ))) Z I' L) : CM g 8 0 0 mX5_judge [.ref 0, .int (nI k), .long (lN R)] Z I L Post := by
  obtain ⟨x0, y0, y1, y2, y3, y4, y5, y6, y7, y8, y9, xT, xC, xN, xA, b1, b2, b3, b4, b5, b6, t1, t2, t3, t4, e1, e2, e3, e4, e5, e6⟩ := id hX
  obtain ⟨sT, ⟨sC, s35, s37, s38⟩, sN, sA, sK, sE, sL⟩ := id hs
  obtain ⟨oC, oW, oN, oA, oK, oE⟩ := id ho
  obtain ⟨q1, q2, q3, q4⟩ := id xT
  obtain ⟨z1, z2, z3, z4, z5, z6, z7, z8, z9, z10, z11, z12, z13⟩ := id xC
  obtain ⟨r1, r2, r3, r4, r5, r6, r7, r8, r9, r10, r11, r12, r13, r14, r15, r16, r17, r18⟩ := id xN
  obtain ⟨a1, a2, a3, a4, a5, a6⟩ := id xA
  have l10 : zL Z 10 = 4 := r10
  have l11 : zL Z 11 = 4 := r12
  have l12 : zL Z 12 = 8 := r14
  have l13 : zL Z 13 = 8 := r16
  have l14 : zL Z 14 = 4 := r18
  refine CM_intro ?_
  have q1 := (t4 0 (by decide)).1
  have hR3 : R < 10 ^ 15 := Nat.lt_of_lt_of_le hR (by
    have : k = 1 ∨ k = 2 ∨ k = 3 := by omega
    rcases this with r | r | r <;> subst r <;> decide)
  have hcc : ∀ V, CC (wr I 135 V) c := fun V => sC.fr (fun a _ _ => wr_n (by omega))
  have hpp : ∀ V, Post (some (.int (jgI c R k ρ))) Z (wr I 135 V) L := fun V => hp _ (hs.trial (fun a ha => wr_n (by omega))) (fun a ha => wr_n (by omega))
  unfold jgI at hpp
  have loop : ∀ (m i : Nat) (V : IT), i + m = k → REC V (jgR c R k ρ i) → fIx (fun j => !jgB c R k ρ j) m i = fIx (fun j => !jgB c R k ρ j) k 0 → JW g mX5_judge (rmO 8 0 0) (QM Post 0 0) 38 [(5, .int (nI i)), (4, .ref 135), (0, .ref 0), (1, .int (nI k)), (2, .long (lN R))] [] 0 0 Z (wr I 135 V) L := by
    intro m
    induction m with
    | zero =>
      intro i V hi hV hq
      have : i = k := by omega
      subst this
      refine j_iload 0 dX5_judge_38 rfl (j_iload_n 3 dX5_judge_40 rfl (j_icmp_ge (tgt := 81) dX5_judge_41 rfl (fun g1 => ?_) (fun g1 => ?_)))
      · refine j_bipush (v := -9) dX5_judge_81 rfl (j_iret dX5_judge_83 ?_)
        have := hpp V
        rw [← hq, if_neg (show ¬ fIx (fun j => !jgB c R i ρ j) 0 i < i from Nat.lt_irrefl _)] at this
        exact this
      · exact absurd (nI_le (Nat.le_refl _) (by omega)) g1
    | succ m ih =>
      intro i V hi hV hq
      have hok := oN.jg oC R k i
      have hle : R / htN (k - 1 - i) ≤ R := Nat.div_le_self _ _
      refine j_iload 0 dX5_judge_38 rfl (j_iload_n 3 dX5_judge_40 rfl (j_icmp_ge (tgt := 81) dX5_judge_41 rfl (fun g1 => ?_) (fun g1 => ?_)))
      · exact absurd g1 (nI_ge (by omega) (by omega))
      · refine j_lload_n 4 dX5_judge_44 rfl (j_iload_n 3 dX5_judge_45 rfl (j_iconst (v := 1) dX5_judge_46 rfl (j_isub dX5_judge_47 (j_iload 0 dX5_judge_48 rfl (j_isub dX5_judge_50 ?_)))))
        rw [show nI k - (1 : Int32) = nI (k - 1) from pk_sub (b := 1) (by omega), pk_sub (by omega)]
        refine j_S2 dX5_judge_51 kX5_240 (c_withoutLast (by omega) (by omega) ?_)
        refine j_ldc2 (v := 100000) dX5_judge_54 (List.mem_of_getElem? (i := 625) (by decide +kernel)) (j_lrem dX5_judge_57 (by decide) (j_l2i dX5_judge_58 ?_))
        rw [show lN (R / htN (k - 1 - i)) - lN (R / htN (k - 1 - i)) / 100000 * 100000 = lN (fvN R k i) from pk_lRem (b := 100000) (by omega) (by decide) (by decide), lN_i]
        have hfv : fvN R k i < 100000 := Nat.mod_lt _ (by decide)
        refine j_istore (lv' := [(6, _), (5, _), (4, _), (0, _), (1, _), (2, _)]) dX5_judge_59 rfl (j_aload_n 3 dX5_judge_61 rfl (j_aload 2 dX5_judge_62 rfl (j_iload 0 dX5_judge_64 rfl (j_V2 dX5_judge_66 kX5_246 (by first | assumption | rfl) (c_isSo x0 y1 (t4 0 (by decide)) (by decide) xC (hcc V) oC (rec_wr hV) hok hfv (fun V2 hV2 => ?_))))))
        rw [wr_wr, show jdB (jgR c R k ρ i) (fvN R k i / 10000) (fvN R k i / 1000 % 10) (fvN R k i % 1000) = jgB c R k ρ i from rfl]
        have hst : fIx (fun j => !jgB c R k ρ j) (m + 1) i = if (!jgB c R k ρ i) = true then i else fIx (fun j => !jgB c R k ρ j) m (i + 1) := rfl
        by_cases hb : jgB c R k ρ i = true
        · rw [if_pos hb]
          refine j_if_ne (tgt := 75) dX5_judge_69 rfl (fun _ => (j_iinc (y := 1) (lv' := [(5, _), (6, _), (4, _), (0, _), (1, _), (2, _)]) 1 dX5_judge_75 rfl rfl rfl (j_goto (tgt := 38) dX5_judge_78 rfl ?_))) (fun h9 => absurd h9 (by decide))
          rw [nI_1]
          refine JW.locals [0, 2, 3, 4, 5] rfl (ih (i + 1) V2 (by omega) hV2 ?_)
          rw [← hq, hst, hb]
          rfl
        · have hbf : jgB c R k ρ i = false := by simpa using hb
          rw [if_neg hb]
          refine j_if_ne (tgt := 75) dX5_judge_69 rfl (fun h9 => absurd (by decide) h9) (fun _ => (j_iload 1 dX5_judge_72 rfl (j_iret dX5_judge_74 ?_)))
          have := hpp V2
          rw [← hq, hst, hbf, if_pos (show (!false) = true from rfl), if_pos (by omega)] at this
          exact this
  refine j_iload_n 1 dX5_judge_0 rfl (j_iconst (v := 1) dX5_judge_1 rfl (j_icmp_lt (tgt := 26) dX5_judge_2 rfl (fun g1 => ?_) (fun g1 => ?_)))
  · exact absurd g1 (nI_nlt (b := 1) h1 (by omega))
  · refine j_iload_n 1 dX5_judge_5 rfl (j_iconst (v := 3) dX5_judge_6 rfl (j_icmp_gt (tgt := 26) dX5_judge_7 rfl (fun g2 => ?_) (fun g2 => ?_)))
    · exact absurd g2 (nI_nlt (a := 3) h3 (by decide))
    · refine j_lload_n 2 dX5_judge_10 rfl (j_lconst (v := 0) dX5_judge_11 rfl (j_lcmp dX5_judge_12 (j_if_lt (tgt := 26) dX5_judge_13 rfl (fun g3 => ?_) (fun g3 => ?_))))
      · have := Int64.lt_iff_toInt_lt.mp ((lg_cmp_lt _ _).mp g3)
        rw [pf_lI (by omega), show (0 : Int64).toInt = 0 from rfl] at this
        omega
      · refine j_lload_n 2 dX5_judge_16 rfl (j_iload_n 1 dX5_judge_17 rfl (j_S2 dX5_judge_18 kX5_240 (c_withoutLast (by omega) (by omega) ?_)))
        rw [Nat.div_eq_of_lt hR]
        refine j_lconst (v := 0) dX5_judge_21 rfl (j_lcmp dX5_judge_22 (j_if_eq (tgt := 29) dX5_judge_23 rfl (fun g4 => ?_) (fun g4 => ?_)))
        · refine j_aload_n 0 dX5_judge_29 rfl (j_V0 dX5_judge_30 kX5_228 (by first | assumption | rfl) (c_freshTrial hX sN oN.1.2.1 (fun V' hV' => ?_)))
          refine j_astore (lv' := [(4, _), (0, _), (1, _), (2, _)]) dX5_judge_33 rfl (j_iconst (v := 0) dX5_judge_35 rfl (j_istore (lv' := [(5, _), (4, _), (0, _), (1, _), (2, _)]) dX5_judge_36 rfl ?_))
          exact JW.locals [0, 1, 2, 3, 4] rfl (loop k 0 V' (by omega) hV' rfl)
        · exact absurd (by decide) g4

