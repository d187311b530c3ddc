theorem c_isWord {g : GT} {Z : ZT} {I : IT} {L : LT} {Post : PT} {x : Int32} (hp : isIn 16384 x (Post (some (.int 1)) Z I L) (Post (some (.int 0)) Z I L)) : CM g 0 0 0 mX5_isWord [.int x] Z I L Post := by
  refine CM_intro ?_
  refine j_iload_n 0 dX5_isWord_0 rfl (j_if_lt (tgt := 15) dX5_isWord_1 rfl (fun h1 => ?_) (fun h1 => ?_))
  · refine j_iconst (v := 0) dX5_isWord_15 rfl (j_zret dX5_isWord_16 (by decide) ?_)
    exact isIn_f0 hp h1 (by decide)
  · refine j_iload_n 0 dX5_isWord_4 rfl (j_sipush (v := 16383) dX5_isWord_5 rfl (j_icmp_gt (tgt := 15) dX5_isWord_8 rfl (fun h2 => ?_) (fun h2 => ?_)))
    · refine j_iconst (v := 0) dX5_isWord_15 rfl (j_zret dX5_isWord_16 (by decide) ?_)
      refine isIn_f1 (M := 16384) hp ?_ rfl (by decide)
      have h2 := Int32.lt_iff_toInt_lt.mp h2
      rw [show (16383 : Int32).toInt = 16383 from rfl] at h2
      refine Int32.le_iff_toInt_le.mpr ?_
      rw [show (16384 : Int32).toInt = 16384 from rfl]
      omega
    · refine j_iconst (v := 1) dX5_isWord_11 rfl (j_goto (tgt := 16) dX5_isWord_12 rfl (j_zret dX5_isWord_16 (by decide) ?_))
      refine isIn_t (M := 16384) hp h1 ?_ rfl (by decide)
      intro z
      apply h2
      have z := Int32.le_iff_toInt_le.mp z
      rw [show (16384 : Int32).toInt = 16384 from rfl] at z
      refine Int32.lt_iff_toInt_lt.mpr ?_
      rw [show (16383 : Int32).toInt = 16383 from rfl]
      omega
def cC (I : IT) (c : CT) (w : Nat) : Prop := CC I c ∧ I 3 5 = nI w ∧ I 3 7 = nI (CL w).length ∧ I 3 8 = nI (snB c.1 w 64)
def cK (I : IT) (K : (Nat → RT) × (Nat → Bool)) : Prop := ∀ i, i < 2 → I 116 i = (if K.2 i = true then 1 else 0) ∧ (K.2 i = true → REC (vw I (121 + 7 * i)) (K.1 i))
def cSe (I : IT) (E : (Nat → Int32) × (Nat → Nat) × (Nat → Nat) × Nat) : Prop := I 0 10 = nI E.2.2.2 ∧ ∀ i, i < 4 → I 118 i = E.1 i ∧ I 119 i = nI (E.2.1 i) ∧ I 120 i = nI (E.2.2.1 i)
def CSt (t : Nat → Nat) (n : Nat) (c : CT) (w : Nat) (ρ : RT) (A : Nat × Nat × (Nat → RT)) (K : (Nat → RT) × (Nat → Bool)) (E : (Nat → Int32) × (Nat → Nat) × (Nat → Nat) × Nat) (sd : Int64) (I : IT) (L : LT) : Prop := TX I 1 2 1 t n ∧ cC I c w ∧ REC (vw I 8) ρ ∧ cA I A.1 A.2.1 A.2.2 ∧ cK I K ∧ cSe I E ∧ L 0 = sd
def OKs (c : CT) (w : Nat) (ρ : RT) (A : Nat × Nat × (Nat → RT)) (K : (Nat → RT) × (Nat → Bool)) (E : (Nat → Int32) × (Nat → Nat) × (Nat → Nat) × Nat) : Prop := okC c ∧ w < 4 ∧ OKz c ρ ∧ (∀ j, j < A.2.1 → OKz c (A.2.2 ((A.1 + 13 - j) % 14))) ∧ (∀ i, i < 2 → K.2 i = true → OKz c (K.1 i)) ∧ (E.2.2.2 ≤ 4 ∧ ∀ i, i < 4 → E.2.1 i ≤ 2 ∧ E.2.2.1 i ≤ 9)
def isX (Z : ZT) : Prop := zK Z 0 = 5 ∧ zS Z 0 0 = true ∧ zS Z 0 1 = true ∧ zS Z 0 2 = true ∧ zS Z 0 3 = true ∧ zS Z 0 4 = true ∧ zS Z 0 5 = true ∧ zS Z 0 6 = true ∧ zS Z 0 7 = true ∧ zS Z 0 8 = true ∧ zS Z 0 9 = true ∧ isTx Z ∧ isCo Z ∧ isR Z 8 ∧ isA Z ∧ zK Z 115 = 9 ∧ zL Z 115 = 2 ∧ (∀ i, i < 2 → zS Z 115 i = true) ∧ (∀ i, i < 2 → isR Z (121 + 7 * i)) ∧ zK Z 116 = 8 ∧ zL Z 116 = 2 ∧ zK Z 117 = 9 ∧ zL Z 117 = 9 ∧ (∀ i, i < 9 → zS Z 117 i = true) ∧ (∀ i, i < 9 → isR Z (135 + 7 * i)) ∧ zK Z 118 = 7 ∧ zL Z 118 = 4 ∧ zK Z 119 = 7 ∧ zL Z 119 = 4 ∧ zK Z 120 = 7 ∧ zL Z 120 = 4
/-- the reference's places stay -/
def eqM (I I' : IT) : Prop := ∀ a, 198 ≤ a → I' a = I a
theorem eqM.rfl' {I : IT} : eqM I I := fun _ _ => rfl
theorem eqM.tr {I I' I'' : IT} (h : eqM I I') (h2 : eqM I' I'') : eqM I I'' := fun a ha => (h2 a ha).trans (h a ha)
theorem CC.fr {I I' : IT} {c : CT} (h : CC I c) (e : ∀ a, 3 ≤ a → a < 8 → I' a = I a) : CC I' c := by
  unfold CC at h ⊢
  rw [e 3 (by decide) (by decide), e 4 (by decide) (by decide), e 5 (by decide) (by decide), e 6 (by decide) (by decide), e 7 (by decide) (by decide)]
  exact h
theorem cC.fr {I I' : IT} {c : CT} {w : Nat} (h : cC I c w) (e : ∀ a, 3 ≤ a → a < 8 → I' a = I a) : cC I' c w := by
  obtain ⟨h1, h2, h3, h4⟩ := h
  refine ⟨h1.fr e, ?_, ?_, ?_⟩ <;> rw [e 3 (by decide) (by decide)] <;> assumption
theorem cK.fr {I I' : IT} {K : (Nat → RT) × (Nat → Bool)} (h : cK I K) (e : ∀ a, 115 ≤ a → a < 135 → I' a = I a) : cK I' K := fun i hi => by
  obtain ⟨h1, h2⟩ := h i hi
  refine ⟨by rw [e 116 (by decide) (by decide)]; exact h1, fun hk => rec_fr (h2 hk) (fun j hj => e _ (by omega) (by omega))⟩
theorem cSe.fr {I I' : IT} {E : (Nat → Int32) × (Nat → Nat) × (Nat → Nat) × Nat} (h : cSe I E) (e0 : I' 0 10 = I 0 10) (e : ∀ a, 118 ≤ a → a < 121 → I' a = I a) : cSe I' E := by
  unfold cSe at h ⊢
  rw [e0, e 118 (by decide) (by decide), e 119 (by decide) (by decide), e 120 (by decide) (by decide)]
  exact h
theorem TX.fr {I I' : IT} {a b j : Nat} {t : Nat → Nat} {n : Nat} (h : TX I a b j t n) (e1 : I' a = I a) (e2 : I' b = I b) : TX I' a b j t n := h.up (by rw [e1]) e2
/-- a receiver's place among the class's -/
theorem CSt.trial {t : Nat → Nat} {n : Nat} {c : CT} {w : Nat} {ρ : RT} {A : Nat × Nat × (Nat → RT)} {K : (Nat → RT) × (Nat → Bool)} {E : (Nat → Int32) × (Nat → Nat) × (Nat → Nat) × Nat} {sd : Int64} {I I' : IT} {L : LT} (h : CSt t n c w ρ A K E sd I L) (e : ∀ a, a < 135 → I' a = I a) : CSt t n c w ρ A K E sd I' L := by
  obtain ⟨sT, sC, sN, sA, sK, sE, sL⟩ := h
  exact ⟨sT.fr (e 1 (by decide)) (e 2 (by decide)), sC.fr (fun a _ _ => e a (by omega)), rec_fr sN (fun j hj => e _ (by omega)), sA.fr (fun a _ _ => e a (by omega)), sK.fr (fun a _ _ => e a (by omega)), sE.fr (by rw [e 0 (by decide)]) (fun a _ _ => e a (by omega)), sL⟩
theorem k_offset {g : GT} {Z : ZT} {I : IT} {L : LT} {Post : PT} {t : Nat → Nat} {n : Nat} {c : CT} {w : Nat} {ρ : RT} {A : Nat × Nat × (Nat → RT)} {K : (Nat → RT) × (Nat → Bool)} {E : (Nat → Int32) × (Nat → Nat) × (Nat → Nat) × Nat} {sd : Int64} {k : Nat} (hX : isX Z) (hs : CSt t n c w ρ A K E sd I L) (ho : OKs c w ρ A K E) (hk : k < 4) (hp : Post (some (.int (nI (c.2.1 k)))) Z I L) : CM g 1 0 0 mX5_offset [.ref 0, .int (nI k)] Z I L Post := by
  obtain ⟨x0, y0, y1, y2, y3, y4, y5, y6, y7, y8, y9, xT, xC, xN, xA, b1, b2, b3, b4, b5, b6, t1, t2, t3, t4, e1, e2, e3, e4, e5, e6⟩ := id hX
  obtain ⟨sT, ⟨sC, s35, s37, s38⟩, sN, sA, sK, sE, sL⟩ := id hs
  obtain ⟨oC, oW, oN, oA, oK, oE⟩ := id ho
  obtain ⟨q1, q2, q3, q4⟩ := id xT
  obtain ⟨z1, z2, z3, z4, z5, z6, z7, z8, z9, z10, z11, z12, z13⟩ := id xC
  obtain ⟨r1, r2, r3, r4, r5, r6, r7, r8, r9, r10, r11, r12, r13, r14, r15, r16, r17, r18⟩ := id xN
  obtain ⟨a1, a2, a3, a4, a5, a6⟩ := id xA
  have l10 : zL Z 10 = 4 := r10
  have l11 : zL Z 11 = 4 := r12
  have l12 : zL Z 12 = 8 := r14
  have l13 : zL Z 13 = 8 := r16
  have l14 : zL Z 14 = 4 := r18
  refine CM_intro ?_
  refine j_iload_n 1 dX5_offset_0 rfl (j_S1 dX5_offset_1 kX5_109 (c_isOffset ⟨fun _ _ _ => ?_, fun h => absurd rfl (h k hk)⟩))
  refine j_if_eq (tgt := 19) dX5_offset_4 rfl (fun h9 => absurd h9 (by decide)) (fun _ => (j_aload_n 0 dX5_offset_7 rfl (j_getR (b := 3) dX5_offset_8 fX5_19 rfl (by first | assumption | rfl) (by first | assumption | rfl) (j_getR (b := 4) dX5_offset_11 fX5_112 rfl (by first | assumption | rfl) (by first | assumption | rfl) (j_iload_n 1 dX5_offset_14 rfl (j_iaload k dX5_offset_15 (by first | assumption | rfl) (by first | assumption | rfl) (by omega) (j_goto (tgt := 20) dX5_offset_16 rfl (j_iret dX5_offset_20 ?_))))))))
  rw [sC.2.2.1 k hk]
  exact hp

theorem k_offset_u {g : GT} {Z : ZT} {I : IT} {L : LT} {Post : PT} {t : Nat → Nat} {n : Nat} {c : CT} {w : Nat} {ρ : RT} {A : Nat × Nat × (Nat → RT)} {K : (Nat → RT) × (Nat → Bool)} {E : (Nat → Int32) × (Nat → Nat) × (Nat → Nat) × Nat} {sd : Int64} {x : Int32} (hX : isX Z) (hs : CSt t n c w ρ A K E sd I L) (ho : OKs c w ρ A K E) (hx : ∀ j, j < 4 → x ≠ nI j) (hp : Post (some (.int (-1))) Z I L) : CM g 1 0 0 mX5_offset [.ref 0, .int x] Z I L Post := by
  obtain ⟨x0, y0, y1, y2, y3, y4, y5, y6, y7, y8, y9, xT, xC, xN, xA, b1, b2, b3, b4, b5, b6, t1, t2, t3, t4, e1, e2, e3, e4, e5, e6⟩ := id hX
  obtain ⟨sT, ⟨sC, s35, s37, s38⟩, sN, sA, sK, sE, sL⟩ := id hs
  obtain ⟨oC, oW, oN, oA, oK, oE⟩ := id ho
  obtain ⟨q1, q2, q3, q4⟩ := id xT
  obtain ⟨z1, z2, z3, z4, z5, z6, z7, z8, z9, z10, z11, z12, z13⟩ := id xC
  obtain ⟨r1, r2, r3, r4, r5, r6, r7, r8, r9, r10, r11, r12, r13, r14, r15, r16, r17, r18⟩ := id xN
  obtain ⟨a1, a2, a3, a4, a5, a6⟩ := id xA
  have l10 : zL Z 10 = 4 := r10
  have l11 : zL Z 11 = 4 := r12
  have l12 : zL Z 12 = 8 := r14
  have l13 : zL Z 13 = 8 := r16
  have l14 : zL Z 14 = 4 := r18
  refine CM_intro ?_
  refine j_iload_n 1 dX5_offset_0 rfl (j_S1 dX5_offset_1 kX5_109 (c_isOffset ⟨fun j hj e => absurd e (hx j hj), fun _ => ?_⟩))
  refine j_if_eq (tgt := 19) dX5_offset_4 rfl (fun _ => (j_iconst (v := -1) dX5_offset_19 rfl (j_iret dX5_offset_20 ?_))) (fun h9 => absurd (by decide) h9)
  exact hp

theorem k_part {g : GT} {Z : ZT} {I : IT} {L : LT} {Post : PT} {t : Nat → Nat} {n : Nat} {c : CT} {w : Nat} {ρ : RT} {A : Nat × Nat × (Nat → RT)} {K : (Nat → RT) × (Nat → Bool)} {E : (Nat → Int32) × (Nat → Nat) × (Nat → Nat) × Nat} {sd : Int64} {k : Nat} (hX : isX Z) (hs : CSt t n c w ρ A K E sd I L) (ho : OKs c w ρ A K E) (hk : k < 4) (hp : Post (some (.int (ρ (18 + k)))) Z I L) : CM g 1 0 0 mX5_part [.ref 0, .int (nI k)] Z I L Post := by
  obtain ⟨x0, y0, y1, y2, y3, y4, y5, y6, y7, y8, y9, xT, xC, xN, xA, b1, b2, b3, b4, b5, b6, t1, t2, t3, t4, e1, e2, e3, e4, e5, e6⟩ := id hX
  obtain ⟨sT, ⟨sC, s35, s37, s38⟩, sN, sA, sK, sE, sL⟩ := id hs
  obtain ⟨oC, oW, oN, oA, oK, oE⟩ := id ho
  obtain ⟨q1, q2, q3, q4⟩ := id xT
  obtain ⟨z1, z2, z3, z4, z5, z6, z7, z8, z9, z10, z11, z12, z13⟩ := id xC
  obtain ⟨r1, r2, r3, r4, r5, r6, r7, r8, r9, r10, r11, r12, r13, r14, r15, r16, r17, r18⟩ := id xN
  obtain ⟨a1, a2, a3, a4, a5, a6⟩ := id xA
  have l10 : zL Z 10 = 4 := r10
  have l11 : zL Z 11 = 4 := r12
  have l12 : zL Z 12 = 8 := r14
  have l13 : zL Z 13 = 8 := r16
  have l14 : zL Z 14 = 4 := r18
  refine CM_intro ?_
  refine j_iload_n 1 dX5_part_0 rfl (j_S1 dX5_part_1 kX5_109 (c_isOffset ⟨fun _ _ _ => ?_, fun h => absurd rfl (h k hk)⟩))
  refine j_if_eq (tgt := 19) dX5_part_4 rfl (fun h9 => absurd h9 (by decide)) (fun _ => (j_aload_n 0 dX5_part_7 rfl (j_getR (b := 8) dX5_part_8 fX5_26 rfl (by first | assumption | rfl) (by first | assumption | rfl) (j_getR (b := 14) dX5_part_11 fX5_143 rfl (by first | assumption | rfl) (by first | assumption | rfl) (j_iload_n 1 dX5_part_14 rfl (j_iaload k dX5_part_15 (by first | assumption | rfl) (by first | assumption | rfl) (by omega) (j_goto (tgt := 20) dX5_part_16 rfl (j_iret dX5_part_20 ?_))))))))
  rw [show I 14 k = ρ (18 + k) from sN.2.2 k hk]
  exact hp

theorem k_part_u {g : GT} {Z : ZT} {I : IT} {L : LT} {Post : PT} {t : Nat → Nat} {n : Nat} {c : CT} {w : Nat} {ρ : RT} {A : Nat × Nat × (Nat → RT)} {K : (Nat → RT) × (Nat → Bool)} {E : (Nat → Int32) × (Nat → Nat) × (Nat → Nat) × Nat} {sd : Int64} {x : Int32} (hX : isX Z) (hs : CSt t n c w ρ A K E sd I L) (ho : OKs c w ρ A K E) (hx : ∀ j, j < 4 → x ≠ nI j) (hp : Post (some (.int (-1))) Z I L) : CM g 1 0 0 mX5_part [.ref 0, .int x] Z I L Post := by
  obtain ⟨x0, y0, y1, y2, y3, y4, y5, y6, y7, y8, y9, xT, xC, xN, xA, b1, b2, b3, b4, b5, b6, t1, t2, t3, t4, e1, e2, e3, e4, e5, e6⟩ := id hX
  obtain ⟨sT, ⟨sC, s35, s37, s38⟩, sN, sA, sK, sE, sL⟩ := id hs
  obtain ⟨oC, oW, oN, oA, oK, oE⟩ := id ho
  obtain ⟨q1, q2, q3, q4⟩ := id xT
  obtain ⟨z1, z2, z3, z4, z5, z6, z7, z8, z9, z10, z11, z12, z13⟩ := id xC
  obtain ⟨r1, r2, r3, r4, r5, r6, r7, r8, r9, r10, r11, r12, r13, r14, r15, r16, r17, r18⟩ := id xN
  obtain ⟨a1, a2, a3, a4, a5, a6⟩ := id xA
  have l10 : zL Z 10 = 4 := r10
  have l11 : zL Z 11 = 4 := r12
  have l12 : zL Z 12 = 8 := r14
  have l13 : zL Z 13 = 8 := r16
  have l14 : zL Z 14 = 4 := r18
  refine CM_intro ?_
  refine j_iload_n 1 dX5_part_0 rfl (j_S1 dX5_part_1 kX5_109 (c_isOffset ⟨fun j hj e => absurd e (hx j hj), fun _ => ?_⟩))
  refine j_if_eq (tgt := 19) dX5_part_4 rfl (fun _ => (j_iconst (v := -1) dX5_part_19 rfl (j_iret dX5_part_20 ?_))) (fun h9 => absurd (by decide) h9)
  exact hp

theorem k_name {g : GT} {Z : ZT} {I : IT} {L : LT} {Post : PT} {t : Nat → Nat} {n : Nat} {c : CT} {w : Nat} {ρ : RT} {A : Nat × Nat × (Nat → RT)} {K : (Nat → RT) × (Nat → Bool)} {E : (Nat → Int32) × (Nat → Nat) × (Nat → Nat) × Nat} {sd : Int64} {k : Nat} {b : Int32} (hX : isX Z) (hs : CSt t n c w ρ A K E sd I L) (ho : OKs c w ρ A K E) (hk : k < 4) (hp : Post (some (.int (if b = 0 then ρ (22 + k) else ρ (26 + k)))) Z I L) : CM g 1 0 0 mX5_name [.ref 0, .int (nI k), .int b] Z I L Post := by
  obtain ⟨x0, y0, y1, y2, y3, y4, y5, y6, y7, y8, y9, xT, xC, xN, xA, b1, b2, b3, b4, b5, b6, t1, t2, t3, t4, e1, e2, e3, e4, e5, e6⟩ := id hX
  obtain ⟨sT, ⟨sC, s35, s37, s38⟩, sN, sA, sK, sE, sL⟩ := id hs
  obtain ⟨oC, oW, oN, oA, oK, oE⟩ := id ho
  obtain ⟨q1, q2, q3, q4⟩ := id xT
  obtain ⟨z1, z2, z3, z4, z5, z6, z7, z8, z9, z10, z11, z12, z13⟩ := id xC
  obtain ⟨r1, r2, r3, r4, r5, r6, r7, r8, r9, r10, r11, r12, r13, r14, r15, r16, r17, r18⟩ := id xN
  obtain ⟨a1, a2, a3, a4, a5, a6⟩ := id xA
  have l10 : zL Z 10 = 4 := r10
  have l11 : zL Z 11 = 4 := r12
  have l12 : zL Z 12 = 8 := r14
  have l13 : zL Z 13 = 8 := r16
  have l14 : zL Z 14 = 4 := r18
  refine CM_intro ?_
  refine j_iload_n 1 dX5_name_0 rfl (j_S1 dX5_name_1 kX5_146 (c_isPlace ⟨fun _ _ _ => ?_, fun h => absurd rfl (h k hk)⟩))
  refine j_if_ne (tgt := 9) dX5_name_4 rfl (fun _ => (j_iload_n 2 dX5_name_9 rfl (j_if_eq (tgt := 28) dX5_name_10 rfl (fun h1 => ?_) (fun h1 => ?_)))) (fun h9 => absurd h9 (by decide))
  · rw [if_pos h1] at hp
    refine j_aload_n 0 dX5_name_28 rfl (j_getR (b := 8) dX5_name_29 fX5_26 rfl (by first | assumption | rfl) (by first | assumption | rfl) (j_getR (b := 9) dX5_name_32 fX5_115 rfl (by first | assumption | rfl) (by first | assumption | rfl) (j_getR (b := 10) dX5_name_35 fX5_136 rfl (by first | assumption | rfl) (by first | assumption | rfl) (j_iload_n 1 dX5_name_38 rfl (j_iaload k dX5_name_39 (by first | assumption | rfl) (by first | assumption | rfl) (by omega) (j_iret dX5_name_40 ?_))))))
    rw [show I 10 k = ρ (22 + k) from sN.2.1.2.2.2.2.2.1 k hk]
    exact hp
  · rw [if_neg h1] at hp
    refine j_aload_n 0 dX5_name_13 rfl (j_getR (b := 8) dX5_name_14 fX5_26 rfl (by first | assumption | rfl) (by first | assumption | rfl) (j_getR (b := 9) dX5_name_17 fX5_115 rfl (by first | assumption | rfl) (by first | assumption | rfl) (j_getR (b := 11) dX5_name_20 fX5_149 rfl (by first | assumption | rfl) (by first | assumption | rfl) (j_iload_n 1 dX5_name_23 rfl (j_iaload k dX5_name_24 (by first | assumption | rfl) (by first | assumption | rfl) (by omega) (j_goto (tgt := 40) dX5_name_25 rfl (j_iret dX5_name_40 ?_)))))))
    rw [show I 11 k = ρ (26 + k) from sN.2.1.2.2.2.2.2.2.1 k hk]
    exact hp

theorem k_name_u {g : GT} {Z : ZT} {I : IT} {L : LT} {Post : PT} {t : Nat → Nat} {n : Nat} {c : CT} {w : Nat} {ρ : RT} {A : Nat × Nat × (Nat → RT)} {K : (Nat → RT) × (Nat → Bool)} {E : (Nat → Int32) × (Nat → Nat) × (Nat → Nat) × Nat} {sd : Int64} {x b : Int32} (hX : isX Z) (hs : CSt t n c w ρ A K E sd I L) (ho : OKs c w ρ A K E) (hx : ∀ j, j < 4 → x ≠ nI j) (hp : Post (some (.int (-1))) Z I L) : CM g 1 0 0 mX5_name [.ref 0, .int x, .int b] Z I L Post := by
  obtain ⟨x0, y0, y1, y2, y3, y4, y5, y6, y7, y8, y9, xT, xC, xN, xA, b1, b2, b3, b4, b5, b6, t1, t2, t3, t4, e1, e2, e3, e4, e5, e6⟩ := id hX
  obtain ⟨sT, ⟨sC, s35, s37, s38⟩, sN, sA, sK, sE, sL⟩ := id hs
  obtain ⟨oC, oW, oN, oA, oK, oE⟩ := id ho
  obtain ⟨q1, q2, q3, q4⟩ := id xT
  obtain ⟨z1, z2, z3, z4, z5, z6, z7, z8, z9, z10, z11, z12, z13⟩ := id xC
  obtain ⟨r1, r2, r3, r4, r5, r6, r7, r8, r9, r10, r11, r12, r13, r14, r15, r16, r17, r18⟩ := id xN
  obtain ⟨a1, a2, a3, a4, a5, a6⟩ := id xA
  have l10 : zL Z 10 = 4 := r10
  have l11 : zL Z 11 = 4 := r12
  have l12 : zL Z 12 = 8 := r14
  have l13 : zL Z 13 = 8 := r16
  have l14 : zL Z 14 = 4 := r18
  refine CM_intro ?_
  refine j_iload_n 1 dX5_name_0 rfl (j_S1 dX5_name_1 kX5_146 (c_isPlace ⟨fun j hj e => absurd e (hx j hj), fun _ => ?_⟩))
  refine j_if_ne (tgt := 9) dX5_name_4 rfl (fun h9 => absurd (by decide) h9) (fun _ => (j_iconst (v := -1) dX5_name_7 rfl (j_iret dX5_name_8 ?_)))
  exact hp

theorem k_list {g : GT} {Z : ZT} {I : IT} {L : LT} {Post : PT} {t : Nat → Nat} {n : Nat} {c : CT} {w : Nat} {ρ : RT} {A : Nat × Nat × (Nat → RT)} {K : (Nat → RT) × (Nat → Bool)} {E : (Nat → Int32) × (Nat → Nat) × (Nat → Nat) × Nat} {sd : Int64} {m : Nat} {x b : Int32} (hX : isX Z) (hs : CSt t n c w ρ A K E sd I L) (ho : OKs c w ρ A K E) (hm : ρ 30 = nI m) (hm8 : m ≤ 8) (hp : ∀ q, q < m → nI (abN ρ q m) = x → Post (some (.int (if b = 0 then ρ (31 + q) else ρ (39 + q)))) Z I L) (hn : (∀ q, q < m → nI (abN ρ q m) ≠ x) → Post (some (.int (-9))) Z I L) : CM g 2 0 0 mX5_list [.ref 0, .int x, .int b] Z I L Post := by
  obtain ⟨x0, y0, y1, y2, y3, y4, y5, y6, y7, y8, y9, xT, xC, xN, xA, b1, b2, b3, b4, b5, b6, t1, t2, t3, t4, e1, e2, e3, e4, e5, e6⟩ := id hX
  obtain ⟨sT, ⟨sC, s35, s37, s38⟩, sN, sA, sK, sE, sL⟩ := id hs
  obtain ⟨oC, oW, oN, oA, oK, oE⟩ := id ho
  obtain ⟨q1, q2, q3, q4⟩ := id xT
  obtain ⟨z1, z2, z3, z4, z5, z6, z7, z8, z9, z10, z11, z12, z13⟩ := id xC
  obtain ⟨r1, r2, r3, r4, r5, r6, r7, r8, r9, r10, r11, r12, r13, r14, r15, r16, r17, r18⟩ := id xN
  obtain ⟨a1, a2, a3, a4, a5, a6⟩ := id xA
  have l10 : zL Z 10 = 4 := r10
  have l11 : zL Z 11 = 4 := r12
  have l12 : zL Z 12 = 8 := r14
  have l13 : zL Z 13 = 8 := r16
  have l14 : zL Z 14 = 4 := r18
  refine CM_intro ?_
  refine j_aload_n 0 dX5_list_0 rfl (j_getR (b := 8) dX5_list_1 fX5_26 rfl (by first | assumption | rfl) (by first | assumption | rfl) (j_getR (b := 9) dX5_list_4 fX5_115 rfl (by first | assumption | rfl) (by first | assumption | rfl) (j_iload_n 1 dX5_list_7 rfl (j_V1 dX5_list_8 kX5_152 (by first | assumption | rfl) (c_index xN sN.2.1 hm hm8 (fun q hq e => ?_) (fun hq => ?_))))))
  · have hp := hp q hq e
    refine j_istore_n (lv' := [(3, _), (0, _), (1, _), (2, _)]) dX5_list_11 rfl (j_iload_n 0 dX5_list_12 rfl (j_if_ge (tgt := 19) dX5_list_13 rfl (fun h1 => ?_) (fun h1 => ?_)))
    · refine j_iload_n 3 dX5_list_19 rfl (j_if_eq (tgt := 38) dX5_list_20 rfl (fun h2 => ?_) (fun h2 => ?_))
      · rw [if_pos h2] at hp
        refine j_aload_n 1 dX5_list_38 rfl (j_getR (b := 8) dX5_list_39 fX5_26 rfl (by first | assumption | rfl) (by first | assumption | rfl) (j_getR (b := 9) dX5_list_42 fX5_115 rfl (by first | assumption | rfl) (by first | assumption | rfl) (j_getR (b := 12) dX5_list_45 fX5_158 rfl (by first | assumption | rfl) (by first | assumption | rfl) (j_iload_n 0 dX5_list_48 rfl (j_iaload q dX5_list_49 (by first | assumption | rfl) (by first | assumption | rfl) (by omega) (j_iret dX5_list_50 ?_))))))
        rw [show I 12 q = ρ (31 + q) from sN.2.1.2.2.2.2.2.2.2.1 q (by omega)]
        exact hp
      · rw [if_neg h2] at hp
        refine j_aload_n 1 dX5_list_23 rfl (j_getR (b := 8) dX5_list_24 fX5_26 rfl (by first | assumption | rfl) (by first | assumption | rfl) (j_getR (b := 9) dX5_list_27 fX5_115 rfl (by first | assumption | rfl) (by first | assumption | rfl) (j_getR (b := 13) dX5_list_30 fX5_155 rfl (by first | assumption | rfl) (by first | assumption | rfl) (j_iload_n 0 dX5_list_33 rfl (j_iaload q dX5_list_34 (by first | assumption | rfl) (by first | assumption | rfl) (by omega) (j_goto (tgt := 50) dX5_list_35 rfl (j_iret dX5_list_50 ?_)))))))
        rw [show I 13 q = ρ (39 + q) from sN.2.1.2.2.2.2.2.2.2.2 q (by omega)]
        exact hp
    · exact absurd (nI_le (a := 0) (Nat.zero_le _) (by omega)) h1
  · have hn := hn hq
    refine j_istore_n (lv' := [(3, _), (0, _), (1, _), (2, _)]) dX5_list_11 rfl (j_iload_n 0 dX5_list_12 rfl (j_if_ge (tgt := 19) dX5_list_13 rfl (fun h1 => ?_) (fun h1 => ?_)))
    · exact absurd h1 (by decide)
    · refine j_bipush (v := -9) dX5_list_16 rfl (j_iret dX5_list_18 ?_)
      exact hn

theorem k_word {g : GT} {Z : ZT} {I : IT} {L : LT} {Post : PT} {t : Nat → Nat} {n : Nat} {c : CT} {w : Nat} {ρ : RT} {A : Nat × Nat × (Nat → RT)} {K : (Nat → RT) × (Nat → Bool)} {E : (Nat → Int32) × (Nat → Nat) × (Nat → Nat) × Nat} {sd : Int64} {k d : Nat} (hX : isX Z) (hs : CSt t n c w ρ A K E sd I L) (ho : OKs c w ρ A K E) (hk : k < 4) (hd : d < 256) (hp : Post (some (.int (nI (wdN c k d)))) Z I L) : CM g 2 0 0 mX5_word [.ref 0, .int (nI k), .int (nI d)] Z I L Post := by
  obtain ⟨x0, y0, y1, y2, y3, y4, y5, y6, y7, y8, y9, xT, xC, xN, xA, b1, b2, b3, b4, b5, b6, t1, t2, t3, t4, e1, e2, e3, e4, e5, e6⟩ := id hX
  obtain ⟨sT, ⟨sC, s35, s37, s38⟩, sN, sA, sK, sE, sL⟩ := id hs
  obtain ⟨oC, oW, oN, oA, oK, oE⟩ := id ho
  obtain ⟨q1, q2, q3, q4⟩ := id xT
  obtain ⟨z1, z2, z3, z4, z5, z6, z7, z8, z9, z10, z11, z12, z13⟩ := id xC
  obtain ⟨r1, r2, r3, r4, r5, r6, r7, r8, r9, r10, r11, r12, r13, r14, r15, r16, r17, r18⟩ := id xN
  obtain ⟨a1, a2, a3, a4, a5, a6⟩ := id xA
  have l10 : zL Z 10 = 4 := r10
  have l11 : zL Z 11 = 4 := r12
  have l12 : zL Z 12 = 8 := r14
  have l13 : zL Z 13 = 8 := r16
  have l14 : zL Z 14 = 4 := r18
  refine CM_intro ?_
  refine j_iload_n 1 dX5_word_0 rfl (j_S1 dX5_word_1 kX5_109 (c_isOffset ⟨fun _ _ _ => ?_, fun h => absurd rfl (h k hk)⟩))
  refine j_if_ne (tgt := 9) dX5_word_4 rfl (fun _ => (j_iload_n 2 dX5_word_9 rfl (j_S1 dX5_word_10 kX5_161 (c_isByte ⟨fun _ _ _ => ?_, fun h => absurd rfl (h d hd)⟩)))) (fun h9 => absurd h9 (by decide))
  refine j_if_eq (tgt := 28) dX5_word_13 rfl (fun h9 => absurd h9 (by decide)) (fun _ => (j_aload_n 0 dX5_word_16 rfl (j_getR (b := 3) dX5_word_17 fX5_19 rfl (by first | assumption | rfl) (by first | assumption | rfl) (j_iload_n 1 dX5_word_20 rfl (j_iload_n 2 dX5_word_21 rfl (j_V2 dX5_word_22 kX5_164 (by first | assumption | rfl) (c_cWordOf xC sC hk hd ?_)))))))
  refine j_goto (tgt := 30) dX5_word_25 rfl (j_iret dX5_word_30 ?_)
  exact hp

theorem k_rest {g : GT} {Z : ZT} {I : IT} {L : LT} {Post : PT} {t : Nat → Nat} {n : Nat} {c : CT} {w : Nat} {ρ : RT} {A : Nat × Nat × (Nat → RT)} {K : (Nat → RT) × (Nat → Bool)} {E : (Nat → Int32) × (Nat → Nat) × (Nat → Nat) × Nat} {sd : Int64} {k d : Nat} (hX : isX Z) (hs : CSt t n c w ρ A K E sd I L) (ho : OKs c w ρ A K E) (hk : k < 4) (hd : d < 16384) (hp : Post (some (.int (nI (lfN c.1 (d ^^^ c.2.1 k))))) Z I L) : CM g 2 0 0 mX5_rest [.ref 0, .int (nI k), .int (nI d)] Z I L Post := by
  obtain ⟨x0, y0, y1, y2, y3, y4, y5, y6, y7, y8, y9, xT, xC, xN, xA, b1, b2, b3, b4, b5, b6, t1, t2, t3, t4, e1, e2, e3, e4, e5, e6⟩ := id hX
  obtain ⟨sT, ⟨sC, s35, s37, s38⟩, sN, sA, sK, sE, sL⟩ := id hs
  obtain ⟨oC, oW, oN, oA, oK, oE⟩ := id ho
  obtain ⟨q1, q2, q3, q4⟩ := id xT
  obtain ⟨z1, z2, z3, z4, z5, z6, z7, z8, z9, z10, z11, z12, z13⟩ := id xC
  obtain ⟨r1, r2, r3, r4, r5, r6, r7, r8, r9, r10, r11, r12, r13, r14, r15, r16, r17, r18⟩ := id xN
  obtain ⟨a1, a2, a3, a4, a5, a6⟩ := id xA
  have l10 : zL Z 10 = 4 := r10
  have l11 : zL Z 11 = 4 := r12
  have l12 : zL Z 12 = 8 := r14
  have l13 : zL Z 13 = 8 := r16
  have l14 : zL Z 14 = 4 := r18
  refine CM_intro ?_
  refine j_iload_n 1 dX5_rest_0 rfl (j_S1 dX5_rest_1 kX5_109 (c_isOffset ⟨fun _ _ _ => ?_, fun h => absurd rfl (h k hk)⟩))
  refine j_if_ne (tgt := 9) dX5_rest_4 rfl (fun _ => (j_iload_n 2 dX5_rest_9 rfl (j_S1 dX5_rest_10 kX5_168 (c_isWord ⟨fun _ _ _ => ?_, fun h => absurd rfl (h d hd)⟩)))) (fun h9 => absurd h9 (by decide))
  refine j_if_eq (tgt := 28) dX5_rest_13 rfl (fun h9 => absurd h9 (by decide)) (fun _ => (j_aload_n 0 dX5_rest_16 rfl (j_getR (b := 3) dX5_rest_17 fX5_19 rfl (by first | assumption | rfl) (by first | assumption | rfl) (j_iload_n 1 dX5_rest_20 rfl (j_iload_n 2 dX5_rest_21 rfl (j_V2 dX5_rest_22 kX5_171 (by first | assumption | rfl) (c_restFor xC sC hk hd ?_)))))))
  refine j_goto (tgt := 30) dX5_rest_25 rfl (j_iret dX5_rest_30 ?_)
  exact hp

theorem k_word_u {g : GT} {Z : ZT} {I : IT} {L : LT} {Post : PT} {t : Nat → Nat} {n : Nat} {c : CT} {w : Nat} {ρ : RT} {A : Nat × Nat × (Nat → RT)} {K : (Nat → RT) × (Nat → Bool)} {E : (Nat → Int32) × (Nat → Nat) × (Nat → Nat) × Nat} {sd : Int64} {x y : Int32} (hX : isX Z) (hs : CSt t n c w ρ A K E sd I L) (ho : OKs c w ρ A K E) (hx : ∀ j, j < 4 → x ≠ nI j) (hp : Post (some (.int (-1))) Z I L) : CM g 2 0 0 mX5_word [.ref 0, .int x, .int y] Z I L Post := by
  obtain ⟨x0, y0, y1, y2, y3, y4, y5, y6, y7, y8, y9, xT, xC, xN, xA, b1, b2, b3, b4, b5, b6, t1, t2, t3, t4, e1, e2, e3, e4, e5, e6⟩ := id hX
  obtain ⟨sT, ⟨sC, s35, s37, s38⟩, sN, sA, sK, sE, sL⟩ := id hs
  obtain ⟨oC, oW, oN, oA, oK, oE⟩ := id ho
  obtain ⟨q1, q2, q3, q4⟩ := id xT
  obtain ⟨z1, z2, z3, z4, z5, z6, z7, z8, z9, z10, z11, z12, z13⟩ := id xC
  obtain ⟨r1, r2, r3, r4, r5, r6, r7, r8, r9, r10, r11, r12, r13, r14, r15, r16, r17, r18⟩ := id xN
  obtain ⟨a1, a2, a3, a4, a5, a6⟩ := id xA
  have l10 : zL Z 10 = 4 := r10
  have l11 : zL Z 11 = 4 := r12
  have l12 : zL Z 12 = 8 := r14
  have l13 : zL Z 13 = 8 := r16
  have l14 : zL Z 14 = 4 := r18
  refine CM_intro ?_
  refine j_iload_n 1 dX5_word_0 rfl (j_S1 dX5_word_1 kX5_109 (c_isOffset ⟨fun j hj e => absurd e (hx j hj), fun _ => ?_⟩))
  refine j_if_ne (tgt := 9) dX5_word_4 rfl (fun h9 => absurd (by decide) h9) (fun _ => (j_iconst (v := -1) dX5_word_7 rfl (j_iret dX5_word_8 ?_)))
  exact hp

theorem k_word_b {g : GT} {Z : ZT} {I : IT} {L : LT} {Post : PT} {t : Nat → Nat} {n : Nat} {c : CT} {w : Nat} {ρ : RT} {A : Nat × Nat × (Nat → RT)} {K : (Nat → RT) × (Nat → Bool)} {E : (Nat → Int32) × (Nat → Nat) × (Nat → Nat) × Nat} {sd : Int64} {k : Nat} {y : Int32} (hX : isX Z) (hs : CSt t n c w ρ A K E sd I L) (ho : OKs c w ρ A K E) (hk : k < 4) (hy : ∀ j, j < 256 → y ≠ nI j) (hp : Post (some (.int (-2))) Z I L) : CM g 2 0 0 mX5_word [.ref 0, .int (nI k), .int y] Z I L Post := by
  obtain ⟨x0, y0, y1, y2, y3, y4, y5, y6, y7, y8, y9, xT, xC, xN, xA, b1, b2, b3, b4, b5, b6, t1, t2, t3, t4, e1, e2, e3, e4, e5, e6⟩ := id hX
  obtain ⟨sT, ⟨sC, s35, s37, s38⟩, sN, sA, sK, sE, sL⟩ := id hs
  obtain ⟨oC, oW, oN, oA, oK, oE⟩ := id ho
  obtain ⟨q1, q2, q3, q4⟩ := id xT
  obtain ⟨z1, z2, z3, z4, z5, z6, z7, z8, z9, z10, z11, z12, z13⟩ := id xC
  obtain ⟨r1, r2, r3, r4, r5, r6, r7, r8, r9, r10, r11, r12, r13, r14, r15, r16, r17, r18⟩ := id xN
  obtain ⟨a1, a2, a3, a4, a5, a6⟩ := id xA
  have l10 : zL Z 10 = 4 := r10
  have l11 : zL Z 11 = 4 := r12
  have l12 : zL Z 12 = 8 := r14
  have l13 : zL Z 13 = 8 := r16
  have l14 : zL Z 14 = 4 := r18
  refine CM_intro ?_
  refine j_iload_n 1 dX5_word_0 rfl (j_S1 dX5_word_1 kX5_109 (c_isOffset ⟨fun _ _ _ => ?_, fun h => absurd rfl (h k hk)⟩))
  refine j_if_ne (tgt := 9) dX5_word_4 rfl (fun _ => (j_iload_n 2 dX5_word_9 rfl (j_S1 dX5_word_10 kX5_161 (c_isByte ⟨fun j hj e => absurd e (hy j hj), fun _ => ?_⟩)))) (fun h9 => absurd h9 (by decide))
  refine j_if_eq (tgt := 28) dX5_word_13 rfl (fun _ => (j_bipush (v := -2) dX5_word_28 rfl (j_iret dX5_word_30 ?_))) (fun h9 => absurd (by decide) h9)
  exact hp

theorem k_rest_u {g : GT} {Z : ZT} {I : IT} {L : LT} {Post : PT} {t : Nat → Nat} {n : Nat} {c : CT} {w : Nat} {ρ : RT} {A : Nat × Nat × (Nat → RT)} {K : (Nat → RT) × (Nat → Bool)} {E : (Nat → Int32) × (Nat → Nat) × (Nat → Nat) × Nat} {sd : Int64} {x y : Int32} (hX : isX Z) (hs : CSt t n c w ρ A K E sd I L) (ho : OKs c w ρ A K E) (hx : ∀ j, j < 4 → x ≠ nI j) (hp : Post (some (.int (-1))) Z I L) : CM g 2 0 0 mX5_rest [.ref 0, .int x, .int y] Z I L Post := by
  obtain ⟨x0, y0, y1, y2, y3, y4, y5, y6, y7, y8, y9, xT, xC, xN, xA, b1, b2, b3, b4, b5, b6, t1, t2, t3, t4, e1, e2, e3, e4, e5, e6⟩ := id hX
  obtain ⟨sT, ⟨sC, s35, s37, s38⟩, sN, sA, sK, sE, sL⟩ := id hs
  obtain ⟨oC, oW, oN, oA, oK, oE⟩ := id ho
  obtain ⟨q1, q2, q3, q4⟩ := id xT
  obtain ⟨z1, z2, z3, z4, z5, z6, z7, z8, z9, z10, z11, z12, z13⟩ := id xC
  obtain ⟨r1, r2, r3, r4, r5, r6, r7, r8, r9, r10, r11, r12, r13, r14, r15, r16, r17, r18⟩ := id xN
  obtain ⟨a1, a2, a3, a4, a5, a6⟩ := id xA
  have l10 : zL Z 10 = 4 := r10
  have l11 : zL Z 11 = 4 := r12
  have l12 : zL Z 12 = 8 := r14
  have l13 : zL Z 13 = 8 := r16
  have l14 : zL Z 14 = 4 := r18
  refine CM_intro ?_
  refine j_iload_n 1 dX5_rest_0 rfl (j_S1 dX5_rest_1 kX5_109 (c_isOffset ⟨fun j hj e => absurd e (hx j hj), fun _ => ?_⟩))
  refine j_if_ne (tgt := 9) dX5_rest_4 rfl (fun h9 => absurd (by decide) h9) (fun _ => (j_iconst (v := -1) dX5_rest_7 rfl (j_iret dX5_rest_8 ?_)))
  exact hp

theorem k_rest_b {g : GT} {Z : ZT} {I : IT} {L : LT} {Post : PT} {t : Nat → Nat} {n : Nat} {c : CT} {w : Nat} {ρ : RT} {A : Nat × Nat × (Nat → RT)} {K : (Nat → RT) × (Nat → Bool)} {E : (Nat → Int32) × (Nat → Nat) × (Nat → Nat) × Nat} {sd : Int64} {k : Nat} {y : Int32} (hX : isX Z) (hs : CSt t n c w ρ A K E sd I L) (ho : OKs c w ρ A K E) (hk : k < 4) (hy : ∀ j, j < 16384 → y ≠ nI j) (hp : Post (some (.int (-2))) Z I L) : CM g 2 0 0 mX5_rest [.ref 0, .int (nI k), .int y] Z I L Post := by
  obtain ⟨x0, y0, y1, y2, y3, y4, y5, y6, y7, y8, y9, xT, xC, xN, xA, b1, b2, b3, b4, b5, b6, t1, t2, t3, t4, e1, e2, e3, e4, e5, e6⟩ := id hX
  obtain ⟨sT, ⟨sC, s35, s37, s38⟩, sN, sA, sK, sE, sL⟩ := id hs
  obtain ⟨oC, oW, oN, oA, oK, oE⟩ := id ho
  obtain ⟨q1, q2, q3, q4⟩ := id xT
  obtain ⟨z1, z2, z3, z4, z5, z6, z7, z8, z9, z10, z11, z12, z13⟩ := id xC
  obtain ⟨r1, r2, r3, r4, r5, r6, r7, r8, r9, r10, r11, r12, r13, r14, r15, r16, r17, r18⟩ := id xN
  obtain ⟨a1, a2, a3, a4, a5, a6⟩ := id xA
  have l10 : zL Z 10 = 4 := r10
  have l11 : zL Z 11 = 4 := r12
  have l12 : zL Z 12 = 8 := r14
  have l13 : zL Z 13 = 8 := r16
  have l14 : zL Z 14 = 4 := r18
  refine CM_intro ?_
  refine j_iload_n 1 dX5_rest_0 rfl (j_S1 dX5_rest_1 kX5_109 (c_isOffset ⟨fun _ _ _ => ?_, fun h => absurd rfl (h k hk)⟩))
  refine j_if_ne (tgt := 9) dX5_rest_4 rfl (fun _ => (j_iload_n 2 dX5_rest_9 rfl (j_S1 dX5_rest_10 kX5_168 (c_isWord ⟨fun j hj e => absurd e (hy j hj), fun _ => ?_⟩)))) (fun h9 => absurd h9 (by decide))
  refine j_if_eq (tgt := 28) dX5_rest_13 rfl (fun _ => (j_bipush (v := -2) dX5_rest_28 rfl (j_iret dX5_rest_30 ?_))) (fun h9 => absurd (by decide) h9)
  exact hp

theorem k_mended_u {g : GT} {Z : ZT} {I : IT} {L : LT} {Post : PT} {t : Nat → Nat} {n : Nat} {c : CT} {w : Nat} {ρ : RT} {A : Nat × Nat × (Nat → RT)} {K : (Nat → RT) × (Nat → Bool)} {E : (Nat → Int32) × (Nat → Nat) × (Nat → Nat) × Nat} {sd : Int64} {x y : Int32} (hX : isX Z) (hs : CSt t n c w ρ A K E sd I L) (ho : OKs c w ρ A K E) (hx : ∀ j, j < 4 → x ≠ nI j) (hp : Post (some (.int (-1))) Z I L) : CM g 3 0 0 mX5_mended [.ref 0, .int x, .int y] Z I L Post := by
  obtain ⟨x0, y0, y1, y2, y3, y4, y5, y6, y7, y8, y9, xT, xC, xN, xA, b1, b2, b3, b4, b5, b6, t1, t2, t3, t4, e1, e2, e3, e4, e5, e6⟩ := id hX
  obtain ⟨sT, ⟨sC, s35, s37, s38⟩, sN, sA, sK, sE, sL⟩ := id hs
  obtain ⟨oC, oW, oN, oA, oK, oE⟩ := id ho
  obtain ⟨q1, q2, q3, q4⟩ := id xT
  obtain ⟨z1, z2, z3, z4, z5, z6, z7, z8, z9, z10, z11, z12, z13⟩ := id xC
  obtain ⟨r1, r2, r3, r4, r5, r6, r7, r8, r9, r10, r11, r12, r13, r14, r15, r16, r17, r18⟩ := id xN
  obtain ⟨a1, a2, a3, a4, a5, a6⟩ := id xA
  have l10 : zL Z 10 = 4 := r10
  have l11 : zL Z 11 = 4 := r12
  have l12 : zL Z 12 = 8 := r14
  have l13 : zL Z 13 = 8 := r16
  have l14 : zL Z 14 = 4 := r18
  refine CM_intro ?_
  refine j_iload_n 1 dX5_mended_0 rfl (j_S1 dX5_mended_1 kX5_109 (c_isOffset ⟨fun j hj e => absurd e (hx j hj), fun _ => ?_⟩))
  refine j_if_ne (tgt := 9) dX5_mended_4 rfl (fun h9 => absurd (by decide) h9) (fun _ => (j_iconst (v := -1) dX5_mended_7 rfl (j_iret dX5_mended_8 ?_)))
  exact hp

theorem k_mended_b {g : GT} {Z : ZT} {I : IT} {L : LT} {Post : PT} {t : Nat → Nat} {n : Nat} {c : CT} {w : Nat} {ρ : RT} {A : Nat × Nat × (Nat → RT)} {K : (Nat → RT) × (Nat → Bool)} {E : (Nat → Int32) × (Nat → Nat) × (Nat → Nat) × Nat} {sd : Int64} {k : Nat} {y : Int32} (hX : isX Z) (hs : CSt t n c w ρ A K E sd I L) (ho : OKs c w ρ A K E) (hk : k < 4) (hy : ∀ j, j < 16384 → y ≠ nI j) (hp : Post (some (.int (-2))) Z I L) : CM g 3 0 0 mX5_mended [.ref 0, .int (nI k), .int y] Z I L Post := by
  obtain ⟨x0, y0, y1, y2, y3, y4, y5, y6, y7, y8, y9, xT, xC, xN, xA, b1, b2, b3, b4, b5, b6, t1, t2, t3, t4, e1, e2, e3, e4, e5, e6⟩ := id hX
  obtain ⟨sT, ⟨sC, s35, s37, s38⟩, sN, sA, sK, sE, sL⟩ := id hs
  obtain ⟨oC, oW, oN, oA, oK, oE⟩ := id ho
  obtain ⟨q1, q2, q3, q4⟩ := id xT
  obtain ⟨z1, z2, z3, z4, z5, z6, z7, z8, z9, z10, z11, z12, z13⟩ := id xC
  obtain ⟨r1, r2, r3, r4, r5, r6, r7, r8, r9, r10, r11, r12, r13, r14, r15, r16, r17, r18⟩ := id xN
  obtain ⟨a1, a2, a3, a4, a5, a6⟩ := id xA
  have l10 : zL Z 10 = 4 := r10
  have l11 : zL Z 11 = 4 := r12
  have l12 : zL Z 12 = 8 := r14
  have l13 : zL Z 13 = 8 := r16
  have l14 : zL Z 14 = 4 := r18
  refine CM_intro ?_
  refine j_iload_n 1 dX5_mended_0 rfl (j_S1 dX5_mended_1 kX5_109 (c_isOffset ⟨fun _ _ _ => ?_, fun h => absurd rfl (h k hk)⟩))
  refine j_if_ne (tgt := 9) dX5_mended_4 rfl (fun _ => (j_iload_n 2 dX5_mended_9 rfl (j_S1 dX5_mended_10 kX5_168 (c_isWord ⟨fun j hj e => absurd e (hy j hj), fun _ => ?_⟩)))) (fun h9 => absurd h9 (by decide))
  refine j_if_ne (tgt := 19) dX5_mended_13 rfl (fun h9 => absurd (by decide) h9) (fun _ => (j_bipush (v := -2) dX5_mended_16 rfl (j_iret dX5_mended_18 ?_)))
  exact hp

def meI (c : CT) (k d : Nat) : Int32 := if lfN c.1 (d ^^^ c.2.1 k) = 0 then nI (d / 64) else if c.2.2.2 (lfN c.1 (d ^^^ c.2.1 k)) = 0 then -9 else nI ((d ^^^ c.2.2.2 (lfN c.1 (d ^^^ c.2.1 k))) / 64)
theorem k_mended {g : GT} {Z : ZT} {I : IT} {L : LT} {Post : PT} {t : Nat → Nat} {n : Nat} {c : CT} {w : Nat} {ρ : RT} {A : Nat × Nat × (Nat → RT)} {K : (Nat → RT) × (Nat → Bool)} {E : (Nat → Int32) × (Nat → Nat) × (Nat → Nat) × Nat} {sd : Int64} {k d : Nat} (hX : isX Z) (hs : CSt t n c w ρ A K E sd I L) (ho : OKs c w ρ A K E) (hk : k < 4) (hd : d < 16384) (hp : Post (some (.int (meI c k d))) Z I L) : CM g 3 0 0 mX5_mended [.ref 0, .int (nI k), .int (nI d)] Z I L Post := by
  obtain ⟨x0, y0, y1, y2, y3, y4, y5, y6, y7, y8, y9, xT, xC, xN, xA, b1, b2, b3, b4, b5, b6, t1, t2, t3, t4, e1, e2, e3, e4, e5, e6⟩ := id hX
  obtain ⟨sT, ⟨sC, s35, s37, s38⟩, sN, sA, sK, sE, sL⟩ := id hs
  obtain ⟨oC, oW, oN, oA, oK, oE⟩ := id ho
  obtain ⟨q1, q2, q3, q4⟩ := id xT
  obtain ⟨z1, z2, z3, z4, z5, z6, z7, z8, z9, z10, z11, z12, z13⟩ := id xC
  obtain ⟨r1, r2, r3, r4, r5, r6, r7, r8, r9, r10, r11, r12, r13, r14, r15, r16, r17, r18⟩ := id xN
  obtain ⟨a1, a2, a3, a4, a5, a6⟩ := id xA
  have l10 : zL Z 10 = 4 := r10
  have l11 : zL Z 11 = 4 := r12
  have l12 : zL Z 12 = 8 := r14
  have l13 : zL Z 13 = 8 := r16
  have l14 : zL Z 14 = 4 := r18
  refine CM_intro ?_
  have hb : bkI c k d = -9 ∧ meI c k d = -9 ∨ ∃ v, v < 16384 ∧ bkI c k d = nI v ∧ meI c k d = nI (v / 64) := by
    unfold bkI meI
    have hr : lfN c.1 (d ^^^ c.2.1 k) < 64 := lfN_lt oC.2.2.1 (xor_lt14 hd (by have := oC.2.2.2.1 k hk; omega))
    by_cases h1 : lfN c.1 (d ^^^ c.2.1 k) = 0
    · rw [if_pos h1, if_pos h1]
      exact Or.inr ⟨d, hd, rfl, rfl⟩
    · rw [if_neg h1, if_neg h1]
      by_cases h2 : c.2.2.2 (lfN c.1 (d ^^^ c.2.1 k)) = 0
      · rw [if_pos h2, if_pos h2]
        exact Or.inl ⟨rfl, rfl⟩
      · rw [if_neg h2, if_neg h2]
        exact Or.inr ⟨_, xor_lt14 hd (oC.2.2.2.2 _ hr), rfl, rfl⟩
  refine j_iload_n 1 dX5_mended_0 rfl (j_S1 dX5_mended_1 kX5_109 (c_isOffset ⟨fun _ _ _ => ?_, fun h => absurd rfl (h k hk)⟩))
  refine j_if_ne (tgt := 9) dX5_mended_4 rfl (fun _ => (j_iload_n 2 dX5_mended_9 rfl (j_S1 dX5_mended_10 kX5_168 (c_isWord ⟨fun _ _ _ => ?_, fun h => absurd rfl (h d hd)⟩)))) (fun h9 => absurd h9 (by decide))
  refine j_if_ne (tgt := 19) dX5_mended_13 rfl (fun _ => (j_aload_n 0 dX5_mended_19 rfl (j_getR (b := 3) dX5_mended_20 fX5_19 rfl (by first | assumption | rfl) (by first | assumption | rfl) (j_iload_n 2 dX5_mended_23 rfl (j_aload_n 0 dX5_mended_24 rfl (j_getR (b := 3) dX5_mended_25 fX5_19 rfl (by first | assumption | rfl) (by first | assumption | rfl) (j_iload_n 1 dX5_mended_28 rfl (j_iload_n 2 dX5_mended_29 rfl (j_V2 dX5_mended_30 kX5_171 (by first | assumption | rfl) (c_restFor xC sC hk hd (j_V2 dX5_mended_33 kX5_174 (by first | assumption | rfl) (c_blockOf xC sC hk hd ?_)))))))))))) (fun h9 => absurd h9 (by decide))
  rcases hb with ⟨hb1, hb2⟩ | ⟨v, hv, hb1, hb2⟩
  · rw [hb1]
    rw [hb2] at hp
    refine j_istore_n (lv' := [(3, _), (0, _), (1, _), (2, _)]) dX5_mended_36 rfl (j_iload_n 0 dX5_mended_37 rfl (j_bipush (v := -9) dX5_mended_38 rfl (j_icmp_ne (tgt := 48) dX5_mended_40 rfl (fun h9 => absurd (by decide) h9) (fun _ => (j_bipush (v := -9) dX5_mended_43 rfl (j_goto (tgt := 52) dX5_mended_45 rfl (j_iret dX5_mended_52 ?_)))))))
    exact hp
  · rw [hb1]
    rw [hb2] at hp
    refine j_istore_n (lv' := [(3, _), (0, _), (1, _), (2, _)]) dX5_mended_36 rfl (j_iload_n 0 dX5_mended_37 rfl (j_bipush (v := -9) dX5_mended_38 rfl (j_icmp_ne (tgt := 48) dX5_mended_40 rfl (fun h1 => ?_) (fun h1 => ?_))))
    · refine j_iload_n 0 dX5_mended_48 rfl (j_bipush (v := 6) dX5_mended_49 rfl (j_ishr dX5_mended_51 ?_))
      rw [show nI v >>> ((6 : Int32) &&& 31) = nI (v / 64) from shrI (s := v) (j := 6) (by omega) (by decide)]
      refine j_iret dX5_mended_52 ?_
      exact hp
    · exact absurd h1 (nI_ne9 (by omega))

