def slB (c : CT) (B i : Nat) : Nat := if hitN c (B / 2 ^ (14 - i) % 16384) = 4 then 0 else 2 ^ i
def slN (c : CT) (B : Nat) : Nat → Nat
  | 0 => 0
  | m + 1 => slN c B m ||| slB c B (m + 1)
theorem k_slips {g : GT} {Z : ZT} {I : IT} {L : LT} {Post : PT} {t : Nat → Nat} {n : Nat} {c : CT} {w : Nat} {ρ : RT} {A : Nat × Nat × (Nat → RT)} {K : (Nat → RT) × (Nat → Bool)} {E : (Nat → Int32) × (Nat → Nat) × (Nat → Nat) × Nat} {sd : Int64} {k d e : Nat} (hX : isX Z) (hs : CSt t n c w ρ A K E sd I L) (ho : OKs c w ρ A K E) (hk : k < 4) (hd : d < 256) (he : e < 256) (hp : Post (some (.int (nI (slN c (wdN c k d * 16384 + wdN c ((k + 1) % 4) e) 13)))) Z I L) : CM g 2 0 0 mX5_slips [.ref 0, .int (nI k), .int (nI d), .int (nI e)] Z I L Post := by
  obtain ⟨x0, y0, y1, y2, y3, y4, y5, y6, y7, y8, y9, xT, xC, xN, xA, b1, b2, b3, b4, b5, b6, t1, t2, t3, t4, e1, e2, e3, e4, e5, e6⟩ := id hX
  obtain ⟨sT, ⟨sC, s35, s37, s38⟩, sN, sA, sK, sE, sL⟩ := id hs
  obtain ⟨oC, oW, oN, oA, oK, oE⟩ := id ho
  obtain ⟨q1, q2, q3, q4⟩ := id xT
  obtain ⟨z1, z2, z3, z4, z5, z6, z7, z8, z9, z10, z11, z12, z13⟩ := id xC
  obtain ⟨r1, r2, r3, r4, r5, r6, r7, r8, r9, r10, r11, r12, r13, r14, r15, r16, r17, r18⟩ := id xN
  obtain ⟨a1, a2, a3, a4, a5, a6⟩ := id xA
  have l10 : zL Z 10 = 4 := r10
  have l11 : zL Z 11 = 4 := r12
  have l12 : zL Z 12 = 8 := r14
  have l13 : zL Z 13 = 8 := r16
  have l14 : zL Z 14 = 4 := r18
  refine CM_intro ?_
  have hw := wdN_lt oC.2.2.1 (oC.2.2.2.1 k hk) hd
  have hw2 := wdN_lt oC.2.2.1 (oC.2.2.2.1 ((k + 1) % 4) (Nat.mod_lt _ (by decide))) he
  refine j_iload_n 1 dX5_slips_0 rfl (j_S1 dX5_slips_1 kX5_109 (c_isOffset ⟨fun _ _ _ => ?_, fun h => absurd rfl (h k hk)⟩))
  refine j_if_ne (tgt := 9) dX5_slips_4 rfl (fun _ => (j_iload_n 2 dX5_slips_9 rfl (j_S1 dX5_slips_10 kX5_161 (c_isByte ⟨fun _ _ _ => ?_, fun h => absurd rfl (h d hd)⟩)))) (fun h9 => absurd h9 (by decide))
  refine j_if_eq (tgt := 23) dX5_slips_13 rfl (fun h9 => absurd h9 (by decide)) (fun _ => (j_iload_n 3 dX5_slips_16 rfl (j_S1 dX5_slips_17 kX5_161 (c_isByte ⟨fun _ _ _ => ?_, fun h => absurd rfl (h e he)⟩))))
  refine j_if_ne (tgt := 26) dX5_slips_20 rfl (fun _ => (j_aload_n 0 dX5_slips_26 rfl (j_getR (b := 3) dX5_slips_27 fX5_19 rfl (by first | assumption | rfl) (by first | assumption | rfl) (j_iload_n 1 dX5_slips_30 rfl (j_iload_n 2 dX5_slips_31 rfl (j_V2 dX5_slips_32 kX5_164 (by first | assumption | rfl) (c_cWordOf xC sC hk hd ?_))))))) (fun h9 => absurd h9 (by decide))
  refine j_bipush (v := 14) dX5_slips_35 rfl (j_ishl dX5_slips_37 ?_)
  rw [show nI (wdN c k d) <<< ((14 : Int32) &&& 31) = nI (wdN c k d * 16384) from shlI (j := 14) (by omega) (by decide)]
  refine j_aload_n 0 dX5_slips_38 rfl (j_getR (b := 3) dX5_slips_39 fX5_19 rfl (by first | assumption | rfl) (by first | assumption | rfl) (j_iload_n 1 dX5_slips_42 rfl (j_S1 dX5_slips_43 kX5_194 (c_nextOffset ?_))))
  refine j_iload_n 3 dX5_slips_46 rfl (j_V2 dX5_slips_47 kX5_164 (by first | assumption | rfl) (c_cWordOf xC sC (Nat.mod_lt _ (by decide)) he ?_))
  refine j_ior dX5_slips_50 ?_
  rw [fa_or, or_add hw2]
  generalize hB : wdN c k d * 16384 + wdN c ((k + 1) % 4) e = B at hp ⊢
  have hBl : B < 2 ^ 28 := by omega
  have loop : ∀ (m i : Nat), i + m = 13 → JW g mX5_slips (rmO 2 0 0) (QM Post 0 0) 59 [(6, .int (nI (i + 1))), (5, .int (nI (slN c B i))), (4, .int (nI B)), (0, .ref 0), (1, .int (nI k)), (2, .int (nI d)), (3, .int (nI e))] [] 0 0 Z I L := by
    intro m
    induction m with
    | zero =>
      intro i hi
      have : i = 13 := by omega
      subst this
      refine j_iload 0 dX5_slips_59 rfl (j_bipush (v := 14) dX5_slips_61 rfl (j_icmp_ge (tgt := 105) dX5_slips_63 rfl (fun h1 => ?_) (fun h1 => ?_)))
      · refine j_iload 1 dX5_slips_105 rfl (j_iret dX5_slips_107 ?_)
        exact hp
      · exact absurd (by decide) h1
    | succ m ih =>
      intro i hi
      have hih := ih (i + 1) (by omega)
      rw [show slN c B (i + 1) = slN c B i ||| slB c B (i + 1) from rfl] at hih
      refine j_iload 0 dX5_slips_59 rfl (j_bipush (v := 14) dX5_slips_61 rfl (j_icmp_ge (tgt := 105) dX5_slips_63 rfl (fun h1 => ?_) (fun h1 => ?_)))
      · exact absurd h1 (nI_ge (b := 14) (by omega) (by decide))
      · refine j_aload_n 3 dX5_slips_66 rfl (j_getR (b := 3) dX5_slips_67 fX5_19 rfl (by first | assumption | rfl) (by first | assumption | rfl) (j_iload 2 dX5_slips_70 rfl (j_bipush (v := 14) dX5_slips_72 rfl (j_iload 0 dX5_slips_74 rfl (j_isub dX5_slips_76 ?_)))))
        rw [show (14 : Int32) - nI (i + 1) = nI (14 - (i + 1)) from pk_sub (a := 14) (by omega)]
        refine j_ishr dX5_slips_77 (j_sipush (v := 16383) dX5_slips_78 rfl (j_iand dX5_slips_81 ?_))
        rw [shrI (by omega) (by omega), and16383]
        refine j_V1 dX5_slips_82 kX5_197 (by first | assumption | rfl) (c_hitOf xC sC (Nat.mod_lt _ (by decide)) ?_)
        unfold slB at hih
        have hh4 := hitN_le c (B / 2 ^ (14 - (i + 1)) % 16384)
        by_cases hh : hitN c (B / 2 ^ (14 - (i + 1)) % 16384) = 4
        · rw [if_pos hh, Nat.or_zero] at hih
          rw [if_pos hh]
          refine j_bipush (v := -9) dX5_slips_85 rfl (j_icmp_eq (tgt := 99) dX5_slips_87 rfl (fun _ => (j_iinc (y := 1) (lv' := [(6, _), (5, _), (4, _), (0, _), (1, _), (2, _), (3, _)]) 0 dX5_slips_99 rfl rfl rfl (j_goto (tgt := 59) dX5_slips_102 rfl ?_))) (fun h9 => absurd (by decide) h9))
          rw [nI_1]
          exact JW.locals [0, 1, 2, 3, 4, 5, 6] rfl hih
        · rw [if_neg hh] at hih
          rw [if_neg hh]
          refine j_bipush (v := -9) dX5_slips_85 rfl (j_icmp_eq (tgt := 99) dX5_slips_87 rfl (fun h2 => ?_) (fun h2 => ?_))
          · exact absurd h2 (nI_ne9 (by omega))
          · refine j_iload 1 dX5_slips_90 rfl (j_iconst (v := 1) dX5_slips_92 rfl (j_iload 0 dX5_slips_93 rfl (j_ishl dX5_slips_95 (j_ior dX5_slips_96 ?_))))
            have h2i : 1 * 2 ^ (i + 1) < 2 ^ 32 := by
              rw [Nat.one_mul]
              exact Nat.pow_lt_pow_right (by decide) (by omega)
            rw [show (1 : Int32) <<< (nI (i + 1) &&& 31) = nI (1 * 2 ^ (i + 1)) from shlI (s := 1) h2i (by omega), fa_or, Nat.one_mul]
            refine j_istore (lv' := [(5, _), (6, _), (4, _), (0, _), (1, _), (2, _), (3, _)]) dX5_slips_97 rfl (j_iinc (y := 1) (lv' := [(6, _), (5, _), (4, _), (0, _), (1, _), (2, _), (3, _)]) 1 dX5_slips_99 rfl rfl rfl (j_goto (tgt := 59) dX5_slips_102 rfl ?_))
            rw [nI_1]
            exact JW.locals [0, 1, 2, 3, 4, 5, 6] rfl hih
  refine j_istore (lv' := [(4, _), (0, _), (1, _), (2, _), (3, _)]) dX5_slips_51 rfl (j_iconst (v := 0) dX5_slips_53 rfl (j_istore (lv' := [(5, _), (4, _), (0, _), (1, _), (2, _), (3, _)]) dX5_slips_54 rfl (j_iconst (v := 1) dX5_slips_56 rfl (j_istore (lv' := [(6, _), (5, _), (4, _), (0, _), (1, _), (2, _), (3, _)]) dX5_slips_57 rfl ?_))))
  exact JW.locals [0, 1, 2, 3, 4, 5, 6] rfl (loop 13 0 rfl)

theorem k_slips_u {g : GT} {Z : ZT} {I : IT} {L : LT} {Post : PT} {t : Nat → Nat} {n : Nat} {c : CT} {w : Nat} {ρ : RT} {A : Nat × Nat × (Nat → RT)} {K : (Nat → RT) × (Nat → Bool)} {E : (Nat → Int32) × (Nat → Nat) × (Nat → Nat) × Nat} {sd : Int64} {x y z : Int32} (hX : isX Z) (hs : CSt t n c w ρ A K E sd I L) (ho : OKs c w ρ A K E) (hx : ∀ j, j < 4 → x ≠ nI j) (hp : Post (some (.int (-1))) Z I L) : CM g 2 0 0 mX5_slips [.ref 0, .int x, .int y, .int z] Z I L Post := by
  obtain ⟨x0, y0, y1, y2, y3, y4, y5, y6, y7, y8, y9, xT, xC, xN, xA, b1, b2, b3, b4, b5, b6, t1, t2, t3, t4, e1, e2, e3, e4, e5, e6⟩ := id hX
  obtain ⟨sT, ⟨sC, s35, s37, s38⟩, sN, sA, sK, sE, sL⟩ := id hs
  obtain ⟨oC, oW, oN, oA, oK, oE⟩ := id ho
  obtain ⟨q1, q2, q3, q4⟩ := id xT
  obtain ⟨z1, z2, z3, z4, z5, z6, z7, z8, z9, z10, z11, z12, z13⟩ := id xC
  obtain ⟨r1, r2, r3, r4, r5, r6, r7, r8, r9, r10, r11, r12, r13, r14, r15, r16, r17, r18⟩ := id xN
  obtain ⟨a1, a2, a3, a4, a5, a6⟩ := id xA
  have l10 : zL Z 10 = 4 := r10
  have l11 : zL Z 11 = 4 := r12
  have l12 : zL Z 12 = 8 := r14
  have l13 : zL Z 13 = 8 := r16
  have l14 : zL Z 14 = 4 := r18
  refine CM_intro ?_
  refine j_iload_n 1 dX5_slips_0 rfl (j_S1 dX5_slips_1 kX5_109 (c_isOffset ⟨fun j hj e => absurd e (hx j hj), fun _ => ?_⟩))
  refine j_if_ne (tgt := 9) dX5_slips_4 rfl (fun h9 => absurd (by decide) h9) (fun _ => (j_iconst (v := -1) dX5_slips_7 rfl (j_iret dX5_slips_8 ?_)))
  exact hp

theorem k_slips_b {g : GT} {Z : ZT} {I : IT} {L : LT} {Post : PT} {t : Nat → Nat} {n : Nat} {c : CT} {w : Nat} {ρ : RT} {A : Nat × Nat × (Nat → RT)} {K : (Nat → RT) × (Nat → Bool)} {E : (Nat → Int32) × (Nat → Nat) × (Nat → Nat) × Nat} {sd : Int64} {k : Nat} {y z : Int32} (hX : isX Z) (hs : CSt t n c w ρ A K E sd I L) (ho : OKs c w ρ A K E) (hk : k < 4) (hy : ∀ j, j < 256 → y ≠ nI j) (hp : Post (some (.int (-2))) Z I L) : CM g 2 0 0 mX5_slips [.ref 0, .int (nI k), .int y, .int z] Z I L Post := by
  obtain ⟨x0, y0, y1, y2, y3, y4, y5, y6, y7, y8, y9, xT, xC, xN, xA, b1, b2, b3, b4, b5, b6, t1, t2, t3, t4, e1, e2, e3, e4, e5, e6⟩ := id hX
  obtain ⟨sT, ⟨sC, s35, s37, s38⟩, sN, sA, sK, sE, sL⟩ := id hs
  obtain ⟨oC, oW, oN, oA, oK, oE⟩ := id ho
  obtain ⟨q1, q2, q3, q4⟩ := id xT
  obtain ⟨z1, z2, z3, z4, z5, z6, z7, z8, z9, z10, z11, z12, z13⟩ := id xC
  obtain ⟨r1, r2, r3, r4, r5, r6, r7, r8, r9, r10, r11, r12, r13, r14, r15, r16, r17, r18⟩ := id xN
  obtain ⟨a1, a2, a3, a4, a5, a6⟩ := id xA
  have l10 : zL Z 10 = 4 := r10
  have l11 : zL Z 11 = 4 := r12
  have l12 : zL Z 12 = 8 := r14
  have l13 : zL Z 13 = 8 := r16
  have l14 : zL Z 14 = 4 := r18
  refine CM_intro ?_
  refine j_iload_n 1 dX5_slips_0 rfl (j_S1 dX5_slips_1 kX5_109 (c_isOffset ⟨fun _ _ _ => ?_, fun h => absurd rfl (h k hk)⟩))
  refine j_if_ne (tgt := 9) dX5_slips_4 rfl (fun _ => (j_iload_n 2 dX5_slips_9 rfl (j_S1 dX5_slips_10 kX5_161 (c_isByte ⟨fun j hj e => absurd e (hy j hj), fun _ => ?_⟩)))) (fun h9 => absurd h9 (by decide))
  refine j_if_eq (tgt := 23) dX5_slips_13 rfl (fun _ => (j_bipush (v := -2) dX5_slips_23 rfl (j_iret dX5_slips_25 ?_))) (fun h9 => absurd (by decide) h9)
  exact hp

theorem k_slips_c {g : GT} {Z : ZT} {I : IT} {L : LT} {Post : PT} {t : Nat → Nat} {n : Nat} {c : CT} {w : Nat} {ρ : RT} {A : Nat × Nat × (Nat → RT)} {K : (Nat → RT) × (Nat → Bool)} {E : (Nat → Int32) × (Nat → Nat) × (Nat → Nat) × Nat} {sd : Int64} {k d : Nat} {z : Int32} (hX : isX Z) (hs : CSt t n c w ρ A K E sd I L) (ho : OKs c w ρ A K E) (hk : k < 4) (hd : d < 256) (hz : ∀ j, j < 256 → z ≠ nI j) (hp : Post (some (.int (-2))) Z I L) : CM g 2 0 0 mX5_slips [.ref 0, .int (nI k), .int (nI d), .int z] Z I L Post := by
  obtain ⟨x0, y0, y1, y2, y3, y4, y5, y6, y7, y8, y9, xT, xC, xN, xA, b1, b2, b3, b4, b5, b6, t1, t2, t3, t4, e1, e2, e3, e4, e5, e6⟩ := id hX
  obtain ⟨sT, ⟨sC, s35, s37, s38⟩, sN, sA, sK, sE, sL⟩ := id hs
  obtain ⟨oC, oW, oN, oA, oK, oE⟩ := id ho
  obtain ⟨q1, q2, q3, q4⟩ := id xT
  obtain ⟨z1, z2, z3, z4, z5, z6, z7, z8, z9, z10, z11, z12, z13⟩ := id xC
  obtain ⟨r1, r2, r3, r4, r5, r6, r7, r8, r9, r10, r11, r12, r13, r14, r15, r16, r17, r18⟩ := id xN
  obtain ⟨a1, a2, a3, a4, a5, a6⟩ := id xA
  have l10 : zL Z 10 = 4 := r10
  have l11 : zL Z 11 = 4 := r12
  have l12 : zL Z 12 = 8 := r14
  have l13 : zL Z 13 = 8 := r16
  have l14 : zL Z 14 = 4 := r18
  refine CM_intro ?_
  refine j_iload_n 1 dX5_slips_0 rfl (j_S1 dX5_slips_1 kX5_109 (c_isOffset ⟨fun _ _ _ => ?_, fun h => absurd rfl (h k hk)⟩))
  refine j_if_ne (tgt := 9) dX5_slips_4 rfl (fun _ => (j_iload_n 2 dX5_slips_9 rfl (j_S1 dX5_slips_10 kX5_161 (c_isByte ⟨fun _ _ _ => ?_, fun h => absurd rfl (h d hd)⟩)))) (fun h9 => absurd h9 (by decide))
  refine j_if_eq (tgt := 23) dX5_slips_13 rfl (fun h9 => absurd h9 (by decide)) (fun _ => (j_iload_n 3 dX5_slips_16 rfl (j_S1 dX5_slips_17 kX5_161 (c_isByte ⟨fun j hj e => absurd e (hz j hj), fun _ => ?_⟩))))
  refine j_if_ne (tgt := 26) dX5_slips_20 rfl (fun h9 => absurd (by decide) h9) (fun _ => (j_bipush (v := -2) dX5_slips_23 rfl (j_iret dX5_slips_25 ?_)))
  exact hp

def dwN (c : CT) (v k : Nat) : Nat := if v / 256 % 4 = 0 then wdN c k (v % 256) ^^^ 2 ^ (v / 4096 % 14) else wdN c k (v % 256)
theorem dwN_lt {c : CT} (oC : okC c) {v k : Nat} (hk : k < 4) : dwN c v k < 16384 := by
  have h := wdN_lt oC.2.2.1 (oC.2.2.2.1 k hk) (show v % 256 < 256 from Nat.mod_lt _ (by decide))
  unfold dwN
  split
  · exact xor_lt14 h (show 2 ^ (v / 4096 % 14) < 2 ^ 14 from Nat.pow_lt_pow_right (by decide) (Nat.mod_lt _ (by decide)))
  · exact h
theorem c_drawnWord {g : GT} {Z : ZT} {I : IT} {L : LT} {Post : PT} {c : CT} {v k : Nat} (x0 : zK Z 0 = 5) (y1 : zS Z 0 1 = true) (xC : isCo Z) (sC : CC I c) (hv : v < 2 ^ 31) (hk : k < 4) (hp : Post (some (.int (nI (dwN c v k)))) Z I L) : CM g 2 0 0 mX5_drawnWord [.ref 0, .int (nI v), .int (nI k)] Z I L Post := by
  have k2 := xC.1
  refine CM_intro ?_
  unfold dwN at hp
  refine j_aload_n 0 dX5_drawnWord_0 rfl (j_getR (b := 3) dX5_drawnWord_1 fX5_19 rfl (by first | assumption | rfl) (by first | assumption | rfl) (j_iload_n 2 dX5_drawnWord_4 rfl (j_iload_n 1 dX5_drawnWord_5 rfl (j_sipush (v := 255) dX5_drawnWord_6 rfl (j_iand dX5_drawnWord_9 ?_)))))
  rw [and255]
  refine j_V2 dX5_drawnWord_10 kX5_164 (by first | assumption | rfl) (c_cWordOf xC sC hk (Nat.mod_lt _ (by decide)) ?_)
  refine j_istore_n (lv' := [(3, _), (0, _), (1, _), (2, _)]) dX5_drawnWord_13 rfl (j_iload_n 2 dX5_drawnWord_14 rfl (j_bipush (v := 8) dX5_drawnWord_15 rfl (j_ishr dX5_drawnWord_17 ?_)))
  rw [show nI v >>> ((8 : Int32) &&& 31) = nI (v / 256) from shrI (j := 8) hv (by decide)]
  refine j_iconst (v := 4) dX5_drawnWord_18 rfl (j_irem dX5_drawnWord_19 (by decide) ?_)
  rw [show nI (v / 256) - nI (v / 256) / 4 * 4 = nI (v / 256 % 4) from remI (d := 4) (by omega) (by decide) (by decide)]
  refine j_if_ne (tgt := 37) dX5_drawnWord_20 rfl (fun h1 => ?_) (fun h1 => ?_)
  · rw [if_neg (fun z => h1 (by rw [z]; rfl))] at hp
    refine j_iload_n 0 dX5_drawnWord_37 rfl (j_iret dX5_drawnWord_38 ?_)
    exact hp
  · rw [if_pos (nI_inj (b := 0) (by omega) (by decide) h1)] at hp
    refine j_iload_n 0 dX5_drawnWord_23 rfl (j_iconst (v := 1) dX5_drawnWord_24 rfl (j_iload_n 2 dX5_drawnWord_25 rfl (j_bipush (v := 12) dX5_drawnWord_26 rfl (j_ishr dX5_drawnWord_28 ?_))))
    rw [show nI v >>> ((12 : Int32) &&& 31) = nI (v / 4096) from shrI (j := 12) hv (by decide)]
    refine j_bipush (v := 14) dX5_drawnWord_29 rfl (j_irem dX5_drawnWord_31 (by decide) ?_)
    rw [show nI (v / 4096) - nI (v / 4096) / 14 * 14 = nI (v / 4096 % 14) from remI (d := 14) (by omega) (by decide) (by decide)]
    have h14 : v / 4096 % 14 < 14 := Nat.mod_lt _ (by decide)
    have hsh : 1 * 2 ^ (v / 4096 % 14) < 2 ^ 32 := by
      rw [Nat.one_mul]
      exact Nat.pow_lt_pow_right (by decide) (by omega)
    refine j_ishl dX5_drawnWord_32 (j_ixor dX5_drawnWord_33 (j_goto (tgt := 38) dX5_drawnWord_34 rfl (j_iret dX5_drawnWord_38 ?_)))
    rw [show (1 : Int32) <<< (nI (v / 4096 % 14) &&& 31) = nI (1 * 2 ^ (v / 4096 % 14)) from shlI (s := 1) hsh (by omega), fb_xorI, Nat.one_mul]
    exact hp
def dvN (s : Int64) : Nat := s.toBitVec.toNat / 2 ^ 33
theorem dvN_lt (s : Int64) : dvN s < 2 ^ 31 := by
  have := s.toBitVec.isLt
  unfold dvN
  omega
theorem dv_I (x : Int64) : (x.toUInt64 >>> ((33 : Int32).toInt64.toUInt64 &&& Int64.toUInt64 63)).toInt64.toInt32 = nI (dvN x) := by
  have hk : ((33 : Int32).toInt64.toUInt64 &&& Int64.toUInt64 63) = (33 : UInt64) := by decide
  rw [hk]
  have e : (x.toUInt64 >>> (33 : UInt64)).toInt64 = lN (dvN x) := by
    apply wb_inj
    apply BitVec.eq_of_toNat_eq
    show (x.toUInt64 >>> (33 : UInt64)).toBitVec.toNat = (BitVec.ofNat 64 (dvN x)).toNat
    rw [UInt64.toBitVec_shiftRight, BitVec.ushiftRight_eq', BitVec.toNat_ushiftRight, Nat.shiftRight_eq_div_pow, BitVec.toNat_ofNat, Nat.mod_eq_of_lt (by have := dvN_lt x; omega)]
    rfl
  rw [e, lN_i]
def sdF (s : Int64) : Nat → Int64
  | 0 => s
  | n + 1 => sdF s n * 6364136223846793005 + 1442695040888963407
noncomputable def drF (c : CT) (s : Int64) (ρ : RT) : Nat → RT
  | 0 => ρ
  | m + 1 => hsF c 14 (drF c s ρ m) (dwN c (dvN (sdF s (m + 1))) (m % 4))
noncomputable def dsI (c : CT) (s : Int64) (ρ : RT) : Nat → Int32
  | 0 => 0
  | m + 1 => dsI c s ρ m + drF c s ρ (m + 1) 3
theorem OKz.dr {c : CT} (hc : okC c) (s : Int64) {ρ : RT} (h : OKz c ρ) : ∀ m, OKz c (drF c s ρ m)
  | 0 => h
  | m + 1 => OKz.hs hc _ 14 (OKz.dr hc s h m)
theorem k_drawn {g : GT} {Z : ZT} {I : IT} {L : LT} {Post : PT} {t : Nat → Nat} {n : Nat} {c : CT} {w : Nat} {ρ : RT} {A : Nat × Nat × (Nat → RT)} {K : (Nat → RT) × (Nat → Bool)} {E : (Nat → Int32) × (Nat → Nat) × (Nat → Nat) × Nat} {sd : Int64} {k : Nat} (hX : isX Z) (hs : CSt t n c w ρ A K E sd I L) (ho : OKs c w ρ A K E) (h1 : 1 ≤ k) (h40 : k ≤ 40) (hp : ∀ I' L', CSt t n c w ρ A K E (sdF sd k) I' L' → eqM I I' → (∀ a, a ≠ 0 → L' a = L a) → Post (some (.int (dsI c sd ρ k))) Z I' L') : CM g 6 0 0 mX5_drawn [.ref 0, .int (nI k)] Z I L Post := by
  obtain ⟨x0, y0, y1, y2, y3, y4, y5, y6, y7, y8, y9, xT, xC, xN, xA, b1, b2, b3, b4, b5, b6, t1, t2, t3, t4, e1, e2, e3, e4, e5, e6⟩ := id hX
  obtain ⟨sT, ⟨sC, s35, s37, s38⟩, sN, sA, sK, sE, sL⟩ := id hs
  obtain ⟨oC, oW, oN, oA, oK, oE⟩ := id ho
  obtain ⟨q1, q2, q3, q4⟩ := id xT
  obtain ⟨z1, z2, z3, z4, z5, z6, z7, z8, z9, z10, z11, z12, z13⟩ := id xC
  obtain ⟨r1, r2, r3, r4, r5, r6, r7, r8, r9, r10, r11, r12, r13, r14, r15, r16, r17, r18⟩ := id xN
  obtain ⟨a1, a2, a3, a4, a5, a6⟩ := id xA
  have l10 : zL Z 10 = 4 := r10
  have l11 : zL Z 11 = 4 := r12
  have l12 : zL Z 12 = 8 := r14
  have l13 : zL Z 13 = 8 := r16
  have l14 : zL Z 14 = 4 := r18
  refine CM_intro ?_
  have q1 := (t4 0 (by decide)).1
  have hcc : ∀ V, CC (wr I 135 V) c := fun V => sC.fr (fun a _ _ => wr_n (by omega))
  have loop : ∀ (m i : Nat) (V : IT) (L' : LT), i + m = k → REC V (drF c sd ρ i) → L' 0 = sdF sd i → (∀ a, a ≠ 0 → L' a = L a) → JW g mX5_drawn (rmO 6 0 0) (QM Post 0 0) 24 [(4, .int (nI i)), (3, .int (dsI c sd ρ i)), (2, .ref 135), (0, .ref 0), (1, .int (nI k))] [] 0 0 Z (wr I 135 V) L' := by
    intro m
    induction m with
    | zero =>
      intro i V L' hi hV hL hL2
      have : i = k := by omega
      subst this
      refine j_iload 0 dX5_drawn_24 rfl (j_iload_n 4 dX5_drawn_26 rfl (j_icmp_ge (tgt := 86) dX5_drawn_27 rfl (fun g1 => ?_) (fun g1 => ?_)))
      · refine j_iload_n 1 dX5_drawn_86 rfl (j_iret dX5_drawn_87 ?_)
        refine hp _ L' ?_ (fun a ha => wr_n (by omega)) hL2
        obtain ⟨u1, u2, u3, u4, u5, u6, -⟩ := hs.trial (I' := wr I 135 V) (fun a ha => wr_n (by omega))
        exact ⟨u1, u2, u3, u4, u5, u6, hL⟩
      · exact absurd (nI_le (Nat.le_refl _) (by omega)) g1
    | succ m ih =>
      intro i V L' hi hV hL hL2
      refine j_iload 0 dX5_drawn_24 rfl (j_iload_n 4 dX5_drawn_26 rfl (j_icmp_ge (tgt := 86) dX5_drawn_27 rfl (fun g1 => ?_) (fun g1 => ?_)))
      · exact absurd g1 (nI_ge (by omega) (by omega))
      · refine j_aload_n 3 dX5_drawn_30 rfl (j_aload_n 3 dX5_drawn_31 rfl (j_getJ dX5_drawn_32 fX5_62 (by first | assumption | rfl) (j_ldc2 (v := 6364136223846793005) dX5_drawn_35 (List.mem_of_getElem? (i := 693) (by decide +kernel)) (j_lmul dX5_drawn_38 (j_ldc2 (v := 1442695040888963407) dX5_drawn_39 (List.mem_of_getElem? (i := 694) (by decide +kernel)) (j_ladd dX5_drawn_42 ?_))))))
        rw [hL, show sdF sd i * 6364136223846793005 + 1442695040888963407 = sdF sd (i + 1) from rfl]
        refine j_putJ dX5_drawn_43 fX5_62 (by first | assumption | rfl) (j_aload_n 2 dX5_drawn_46 rfl (j_aload_n 3 dX5_drawn_47 rfl (j_getR (b := 3) dX5_drawn_48 fX5_19 rfl (by first | assumption | rfl) (by first | assumption | rfl) (j_aload_n 3 dX5_drawn_51 rfl (j_aload_n 3 dX5_drawn_52 rfl (j_getJ dX5_drawn_53 fX5_62 (by first | assumption | rfl) (j_bipush (v := 33) dX5_drawn_56 rfl (j_lushr dX5_drawn_58 (j_l2i dX5_drawn_59 (j_iload 0 dX5_drawn_60 rfl (j_iconst (v := 3) dX5_drawn_62 rfl (j_iand dX5_drawn_63 ?_))))))))))))
        rw [show upL L' 0 (sdF sd (i + 1)) 0 = sdF sd (i + 1) from if_pos rfl, dv_I, and3]
        refine j_V2 dX5_drawn_64 kX5_277 (by first | assumption | rfl) (c_drawnWord x0 y1 xC (hcc V) (dvN_lt _) (Nat.mod_lt _ (by decide)) ?_)
        have hdw := dwN_lt (v := dvN (sdF sd (i + 1))) oC (Nat.mod_lt i (show 0 < 4 by decide))
        refine j_i2l dX5_drawn_67 ?_
        rw [nI_l (by omega)]
        refine j_bipush (v := 14) dX5_drawn_68 rfl (j_V3 dX5_drawn_70 kX5_204 (by first | assumption | rfl) (c_hears (n := 14) (t4 0 (by decide)) xC (hcc V) (by decide) (rec_wr hV) (oN.dr oC sd i).1 (by decide) (by omega) (fun V2 hV2 => ?_)))
        rw [wr_wr]
        refine j_iload_n 1 dX5_drawn_73 rfl (j_aload_n 2 dX5_drawn_74 rfl (j_V0 dX5_drawn_75 kX5_208 (by first | assumption | rfl) (c_sync (ρ := drF c sd ρ (i + 1)) q1 (rec_wr hV2) (oN.dr oC sd (i + 1)).1.2.1 ?_)))
        refine j_iadd dX5_drawn_78 (j_istore_n (lv' := [(3, _), (4, _), (2, _), (0, _), (1, _)]) dX5_drawn_79 rfl (j_iinc (y := 1) (lv' := [(4, _), (3, _), (2, _), (0, _), (1, _)]) 1 dX5_drawn_80 rfl rfl rfl (j_goto (tgt := 24) dX5_drawn_83 rfl ?_)))
        rw [nI_1]
        refine JW.locals [0, 1, 2, 3, 4] rfl (ih (i + 1) V2 _ (by omega) hV2 (if_pos rfl) (fun a ha => (if_neg ha).trans (hL2 a ha)))
  refine j_iload_n 1 dX5_drawn_0 rfl (j_iconst (v := 1) dX5_drawn_1 rfl (j_icmp_lt (tgt := 11) dX5_drawn_2 rfl (fun g1 => ?_) (fun g1 => ?_)))
  · exact absurd g1 (nI_nlt (b := 1) h1 (by omega))
  · refine j_iload_n 1 dX5_drawn_5 rfl (j_bipush (v := 40) dX5_drawn_6 rfl (j_icmp_le (tgt := 14) dX5_drawn_8 rfl (fun g2 => ?_) (fun g2 => ?_)))
    · refine j_aload_n 0 dX5_drawn_14 rfl (j_V0 dX5_drawn_15 kX5_228 (by first | assumption | rfl) (c_freshTrial hX sN oN.1.2.1 (fun V' hV' => ?_)))
      refine j_astore_n (lv' := [(2, _), (0, _), (1, _)]) dX5_drawn_18 rfl (j_iconst (v := 0) dX5_drawn_19 rfl (j_istore_n (lv' := [(3, _), (2, _), (0, _), (1, _)]) dX5_drawn_20 rfl (j_iconst (v := 0) dX5_drawn_21 rfl (j_istore (lv' := [(4, _), (3, _), (2, _), (0, _), (1, _)]) dX5_drawn_22 rfl ?_))))
      exact JW.locals [0, 1, 2, 3, 4] rfl (loop k 0 V' L (by omega) hV' sL (fun _ _ => rfl))
    · exact absurd (nI_le (b := 40) h40 (by decide)) g2

theorem k_drawn_b {g : GT} {Z : ZT} {I : IT} {L : LT} {Post : PT} {t : Nat → Nat} {n : Nat} {c : CT} {w : Nat} {ρ : RT} {A : Nat × Nat × (Nat → RT)} {K : (Nat → RT) × (Nat → Bool)} {E : (Nat → Int32) × (Nat → Nat) × (Nat → Nat) × Nat} {sd : Int64} {x : Int32} (hX : isX Z) (hs : CSt t n c w ρ A K E sd I L) (ho : OKs c w ρ A K E) (hx : ∀ k, 1 ≤ k → k ≤ 40 → x ≠ nI k) (hp : Post (some (.int (-2))) Z I L) : CM g 6 0 0 mX5_drawn [.ref 0, .int x] Z I L Post := by
  obtain ⟨x0, y0, y1, y2, y3, y4, y5, y6, y7, y8, y9, xT, xC, xN, xA, b1, b2, b3, b4, b5, b6, t1, t2, t3, t4, e1, e2, e3, e4, e5, e6⟩ := id hX
  obtain ⟨sT, ⟨sC, s35, s37, s38⟩, sN, sA, sK, sE, sL⟩ := id hs
  obtain ⟨oC, oW, oN, oA, oK, oE⟩ := id ho
  obtain ⟨q1, q2, q3, q4⟩ := id xT
  obtain ⟨z1, z2, z3, z4, z5, z6, z7, z8, z9, z10, z11, z12, z13⟩ := id xC
  obtain ⟨r1, r2, r3, r4, r5, r6, r7, r8, r9, r10, r11, r12, r13, r14, r15, r16, r17, r18⟩ := id xN
  obtain ⟨a1, a2, a3, a4, a5, a6⟩ := id xA
  have l10 : zL Z 10 = 4 := r10
  have l11 : zL Z 11 = 4 := r12
  have l12 : zL Z 12 = 8 := r14
  have l13 : zL Z 13 = 8 := r16
  have l14 : zL Z 14 = 4 := r18
  refine CM_intro ?_
  refine j_iload_n 1 dX5_drawn_0 rfl (j_iconst (v := 1) dX5_drawn_1 rfl (j_icmp_lt (tgt := 11) dX5_drawn_2 rfl (fun g1 => ?_) (fun g1 => ?_)))
  · refine j_bipush (v := -2) dX5_drawn_11 rfl (j_iret dX5_drawn_13 ?_)
    exact hp
  · refine j_iload_n 1 dX5_drawn_5 rfl (j_bipush (v := 40) dX5_drawn_6 rfl (j_icmp_le (tgt := 14) dX5_drawn_8 rfl (fun g2 => ?_) (fun g2 => ?_)))
    · obtain ⟨k, hk1, hk2, ek⟩ := bt_t (a := 1) (b := 40) (by decide) (i_nlt (k := 1) (by decide) g1) (i_le (k := 40) (by decide) g2)
      exact absurd ek (hx k hk1 hk2)
    · refine j_bipush (v := -2) dX5_drawn_11 rfl (j_iret dX5_drawn_13 ?_)
      exact hp

