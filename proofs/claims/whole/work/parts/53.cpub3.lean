def tU (t : Nat → Nat) (i l : Nat) : Nat → Nat := fun k => if k = i then l else t k
theorem TX.add {I I' : IT} {a b j : Nat} {t : Nat → Nat} {n l : Nat} (h : TX I a b j t n) (hn : n < 40) (hl : l ≤ 255) (e1 : I' a j = nI (n + 1)) (e2 : I' b = upd (I b) n (nI l)) : TX I' a b j (tU t n l) (n + 1) := by
  obtain ⟨h1, h2, h3, h4⟩ := h
  refine ⟨by omega, e1, fun i hi => ?_, fun i hi => ?_⟩
  · rw [e2]
    unfold tU
    by_cases e : i = n
    · subst e; rw [upd_s, if_pos rfl]
    · rw [upd_n e, if_neg e]; exact h3 i hi
  · unfold tU
    split
    · exact hl
    · exact h4 i hi
theorem k_write {g : GT} {Z : ZT} {I : IT} {L : LT} {Post : PT} {t : Nat → Nat} {n : Nat} {c : CT} {w : Nat} {ρ : RT} {A : Nat × Nat × (Nat → RT)} {K : (Nat → RT) × (Nat → Bool)} {E : (Nat → Int32) × (Nat → Nat) × (Nat → Nat) × Nat} {sd : Int64} {l : Nat} (hX : isX Z) (hs : CSt t n c w ρ A K E sd I L) (ho : OKs c w ρ A K E) (hl : l < 256) (hn : n < 40) (hp : ∀ I', CSt (tU t n l) (n + 1) c w ρ A K E sd I' L → eqM I I' → Post (some (.int (nI (n + 1)))) Z I' L) : CM g 1 0 0 mX5_write [.ref 0, .int (nI l)] Z I L Post := by
  obtain ⟨x0, y0, y1, y2, y3, y4, y5, y6, y7, y8, y9, xT, xC, xN, xA, b1, b2, b3, b4, b5, b6, t1, t2, t3, t4, e1, e2, e3, e4, e5, e6⟩ := id hX
  obtain ⟨sT, ⟨sC, s35, s37, s38⟩, sN, sA, sK, sE, sL⟩ := id hs
  obtain ⟨oC, oW, oN, oA, oK, oE⟩ := id ho
  obtain ⟨q1, q2, q3, q4⟩ := id xT
  obtain ⟨z1, z2, z3, z4, z5, z6, z7, z8, z9, z10, z11, z12, z13⟩ := id xC
  obtain ⟨r1, r2, r3, r4, r5, r6, r7, r8, r9, r10, r11, r12, r13, r14, r15, r16, r17, r18⟩ := id xN
  obtain ⟨a1, a2, a3, a4, a5, a6⟩ := id xA
  have l10 : zL Z 10 = 4 := r10
  have l11 : zL Z 11 = 4 := r12
  have l12 : zL Z 12 = 8 := r14
  have l13 : zL Z 13 = 8 := r16
  have l14 : zL Z 14 = 4 := r18
  refine CM_intro ?_
  refine j_iload_n 1 dX5_write_0 rfl (j_if_lt (tgt := 11) dX5_write_1 rfl (fun g1 => ?_) (fun g1 => ?_))
  · exact absurd g1 (nI_pos (by omega))
  · refine j_iload_n 1 dX5_write_4 rfl (j_sipush (v := 255) dX5_write_5 rfl (j_icmp_le (tgt := 14) dX5_write_8 rfl (fun g2 => ?_) (fun g2 => ?_)))
    · refine j_aload_n 0 dX5_write_14 rfl (j_getR (b := 1) dX5_write_15 fX5_10 rfl (by first | assumption | rfl) (by first | assumption | rfl) (j_iload_n 1 dX5_write_18 rfl (j_V1 dX5_write_19 kX5_66 (by first | assumption | rfl) (c_add xT sT (by omega) (fun z => absurd z (by omega)) (fun _ => ?_)))))
      refine j_if_eq (tgt := 35) dX5_write_22 rfl (fun h9 => absurd h9 (by decide)) (fun _ => (j_aload_n 0 dX5_write_25 rfl (j_getR (b := 1) dX5_write_26 fX5_10 rfl (by first | assumption | rfl) (by first | assumption | rfl) (j_getI dX5_write_29 fX5_70 (by first | assumption | rfl) (j_goto (tgt := 37) dX5_write_32 rfl (j_iret dX5_write_37 ?_))))))
      rw [show upI (upI I 2 n (nI l)) 1 1 (nI (n + 1)) 1 1 = nI (n + 1) from rfl]
      have fr : ∀ a, a = 0 ∨ 3 ≤ a → upI (upI I 2 n (nI l)) 1 1 (nI (n + 1)) a = I a := fun a ha => by rw [upI_n (by omega), upI_n (by omega)]
      refine hp _ ⟨sT.add hn (by omega) rfl rfl, cC.fr ⟨sC, s35, s37, s38⟩ (fun a _ _ => fr a (by omega)), rec_fr sN (fun j hj => fr _ (by omega)), sA.fr (fun a _ _ => fr a (by omega)), sK.fr (fun a _ _ => fr a (by omega)), sE.fr (by rw [fr 0 (by omega)]) (fun a _ _ => fr a (by omega)), sL⟩ (fun a ha => fr a (by omega))
    · exact absurd (nI_le (b := 255) (by omega) (by decide)) g2

theorem k_write_f {g : GT} {Z : ZT} {I : IT} {L : LT} {Post : PT} {t : Nat → Nat} {n : Nat} {c : CT} {w : Nat} {ρ : RT} {A : Nat × Nat × (Nat → RT)} {K : (Nat → RT) × (Nat → Bool)} {E : (Nat → Int32) × (Nat → Nat) × (Nat → Nat) × Nat} {sd : Int64} {l : Nat} (hX : isX Z) (hs : CSt t n c w ρ A K E sd I L) (ho : OKs c w ρ A K E) (hl : l < 256) (hn : n = 40) (hp : Post (some (.int (-4))) Z I L) : CM g 1 0 0 mX5_write [.ref 0, .int (nI l)] Z I L Post := by
  obtain ⟨x0, y0, y1, y2, y3, y4, y5, y6, y7, y8, y9, xT, xC, xN, xA, b1, b2, b3, b4, b5, b6, t1, t2, t3, t4, e1, e2, e3, e4, e5, e6⟩ := id hX
  obtain ⟨sT, ⟨sC, s35, s37, s38⟩, sN, sA, sK, sE, sL⟩ := id hs
  obtain ⟨oC, oW, oN, oA, oK, oE⟩ := id ho
  obtain ⟨q1, q2, q3, q4⟩ := id xT
  obtain ⟨z1, z2, z3, z4, z5, z6, z7, z8, z9, z10, z11, z12, z13⟩ := id xC
  obtain ⟨r1, r2, r3, r4, r5, r6, r7, r8, r9, r10, r11, r12, r13, r14, r15, r16, r17, r18⟩ := id xN
  obtain ⟨a1, a2, a3, a4, a5, a6⟩ := id xA
  have l10 : zL Z 10 = 4 := r10
  have l11 : zL Z 11 = 4 := r12
  have l12 : zL Z 12 = 8 := r14
  have l13 : zL Z 13 = 8 := r16
  have l14 : zL Z 14 = 4 := r18
  refine CM_intro ?_
  refine j_iload_n 1 dX5_write_0 rfl (j_if_lt (tgt := 11) dX5_write_1 rfl (fun g1 => ?_) (fun g1 => ?_))
  · exact absurd g1 (nI_pos (by omega))
  · refine j_iload_n 1 dX5_write_4 rfl (j_sipush (v := 255) dX5_write_5 rfl (j_icmp_le (tgt := 14) dX5_write_8 rfl (fun g2 => ?_) (fun g2 => ?_)))
    · refine j_aload_n 0 dX5_write_14 rfl (j_getR (b := 1) dX5_write_15 fX5_10 rfl (by first | assumption | rfl) (by first | assumption | rfl) (j_iload_n 1 dX5_write_18 rfl (j_V1 dX5_write_19 kX5_66 (by first | assumption | rfl) (c_add xT sT (by omega) (fun _ => ?_) (fun z => absurd z (by omega))))))
      refine j_if_eq (tgt := 35) dX5_write_22 rfl (fun _ => (j_bipush (v := -4) dX5_write_35 rfl (j_iret dX5_write_37 ?_))) (fun h9 => absurd (by decide) h9)
      exact hp
    · exact absurd (nI_le (b := 255) (by omega) (by decide)) g2

theorem k_write_b {g : GT} {Z : ZT} {I : IT} {L : LT} {Post : PT} {t : Nat → Nat} {n : Nat} {c : CT} {w : Nat} {ρ : RT} {A : Nat × Nat × (Nat → RT)} {K : (Nat → RT) × (Nat → Bool)} {E : (Nat → Int32) × (Nat → Nat) × (Nat → Nat) × Nat} {sd : Int64} {x : Int32} (hX : isX Z) (hs : CSt t n c w ρ A K E sd I L) (ho : OKs c w ρ A K E) (hx : ∀ j, j < 256 → x ≠ nI j) (hp : Post (some (.int (-2))) Z I L) : CM g 1 0 0 mX5_write [.ref 0, .int x] Z I L Post := by
  obtain ⟨x0, y0, y1, y2, y3, y4, y5, y6, y7, y8, y9, xT, xC, xN, xA, b1, b2, b3, b4, b5, b6, t1, t2, t3, t4, e1, e2, e3, e4, e5, e6⟩ := id hX
  obtain ⟨sT, ⟨sC, s35, s37, s38⟩, sN, sA, sK, sE, sL⟩ := id hs
  obtain ⟨oC, oW, oN, oA, oK, oE⟩ := id ho
  obtain ⟨q1, q2, q3, q4⟩ := id xT
  obtain ⟨z1, z2, z3, z4, z5, z6, z7, z8, z9, z10, z11, z12, z13⟩ := id xC
  obtain ⟨r1, r2, r3, r4, r5, r6, r7, r8, r9, r10, r11, r12, r13, r14, r15, r16, r17, r18⟩ := id xN
  obtain ⟨a1, a2, a3, a4, a5, a6⟩ := id xA
  have l10 : zL Z 10 = 4 := r10
  have l11 : zL Z 11 = 4 := r12
  have l12 : zL Z 12 = 8 := r14
  have l13 : zL Z 13 = 8 := r16
  have l14 : zL Z 14 = 4 := r18
  refine CM_intro ?_
  refine j_iload_n 1 dX5_write_0 rfl (j_if_lt (tgt := 11) dX5_write_1 rfl (fun g1 => ?_) (fun g1 => ?_))
  · refine j_bipush (v := -2) dX5_write_11 rfl (j_iret dX5_write_13 ?_)
    exact hp
  · refine j_iload_n 1 dX5_write_4 rfl (j_sipush (v := 255) dX5_write_5 rfl (j_icmp_le (tgt := 14) dX5_write_8 rfl (fun g2 => ?_) (fun g2 => ?_)))
    · obtain ⟨k, hk1, hk2, ek⟩ := bt_t (a := 0) (b := 255) (by decide) (i_nlt (k := 0) (by decide) g1) (i_le (k := 255) (by decide) g2)
      exact absurd ek (hx k (by omega))
    · refine j_bipush (v := -2) dX5_write_11 rfl (j_iret dX5_write_13 ?_)
      exact hp

theorem k_wipe {g : GT} {Z : ZT} {I : IT} {L : LT} {Post : PT} {t : Nat → Nat} {n : Nat} {c : CT} {w : Nat} {ρ : RT} {A : Nat × Nat × (Nat → RT)} {K : (Nat → RT) × (Nat → Bool)} {E : (Nat → Int32) × (Nat → Nat) × (Nat → Nat) × Nat} {sd : Int64}  (hX : isX Z) (hs : CSt t n c w ρ A K E sd I L) (ho : OKs c w ρ A K E)  (hp : ∀ I', CSt t 0 c w ρ A K E sd I' L → eqM I I' → Post (some (.int (nI n))) Z I' L) : CM g 0 0 0 mX5_wipe [.ref 0] Z I L Post := by
  obtain ⟨x0, y0, y1, y2, y3, y4, y5, y6, y7, y8, y9, xT, xC, xN, xA, b1, b2, b3, b4, b5, b6, t1, t2, t3, t4, e1, e2, e3, e4, e5, e6⟩ := id hX
  obtain ⟨sT, ⟨sC, s35, s37, s38⟩, sN, sA, sK, sE, sL⟩ := id hs
  obtain ⟨oC, oW, oN, oA, oK, oE⟩ := id ho
  obtain ⟨q1, q2, q3, q4⟩ := id xT
  obtain ⟨z1, z2, z3, z4, z5, z6, z7, z8, z9, z10, z11, z12, z13⟩ := id xC
  obtain ⟨r1, r2, r3, r4, r5, r6, r7, r8, r9, r10, r11, r12, r13, r14, r15, r16, r17, r18⟩ := id xN
  obtain ⟨a1, a2, a3, a4, a5, a6⟩ := id xA
  have l10 : zL Z 10 = 4 := r10
  have l11 : zL Z 11 = 4 := r12
  have l12 : zL Z 12 = 8 := r14
  have l13 : zL Z 13 = 8 := r16
  have l14 : zL Z 14 = 4 := r18
  refine CM_intro ?_
  refine j_aload_n 0 dX5_wipe_0 rfl (j_getR (b := 1) dX5_wipe_1 fX5_10 rfl (by first | assumption | rfl) (by first | assumption | rfl) (j_getI dX5_wipe_4 fX5_70 (by first | assumption | rfl) (j_istore_n (lv' := [(1, _), (0, _)]) dX5_wipe_7 rfl (j_aload_n 1 dX5_wipe_8 rfl (j_getR (b := 1) dX5_wipe_9 fX5_10 rfl (by first | assumption | rfl) (by first | assumption | rfl) (j_iconst (v := 0) dX5_wipe_12 rfl (j_putI dX5_wipe_13 fX5_70 (by first | assumption | rfl) (j_iload_n 0 dX5_wipe_16 rfl (j_iret dX5_wipe_17 ?_)))))))))
  rw [sT.2.1]
  have fr : ∀ a, a ≠ 1 → upI I 1 1 0 a = I a := fun a ha => upI_n ha
  refine hp _ ⟨⟨by omega, rfl, sT.2.2.1, sT.2.2.2⟩, cC.fr ⟨sC, s35, s37, s38⟩ (fun a _ _ => fr a (by omega)), rec_fr sN (fun j hj => fr _ (by omega)), sA.fr (fun a _ _ => fr a (by omega)), sK.fr (fun a _ _ => fr a (by omega)), sE.fr (by rw [fr 0 (by omega)]) (fun a _ _ => fr a (by omega)), sL⟩ (fun a ha => fr a (by omega))

theorem k_fault {g : GT} {Z : ZT} {I : IT} {L : LT} {Post : PT} {t : Nat → Nat} {n : Nat} {c : CT} {w : Nat} {ρ : RT} {A : Nat × Nat × (Nat → RT)} {K : (Nat → RT) × (Nat → Bool)} {E : (Nat → Int32) × (Nat → Nat) × (Nat → Nat) × Nat} {sd : Int64}  (hX : isX Z) (hs : CSt t n c w ρ A K E sd I L) (ho : OKs c w ρ A K E)  (hp : Post (some (.int (fauF t n))) Z I L) : CM g 5 0 0 mX5_fault [.ref 0] Z I L Post := by
  obtain ⟨x0, y0, y1, y2, y3, y4, y5, y6, y7, y8, y9, xT, xC, xN, xA, b1, b2, b3, b4, b5, b6, t1, t2, t3, t4, e1, e2, e3, e4, e5, e6⟩ := id hX
  obtain ⟨sT, ⟨sC, s35, s37, s38⟩, sN, sA, sK, sE, sL⟩ := id hs
  obtain ⟨oC, oW, oN, oA, oK, oE⟩ := id ho
  obtain ⟨q1, q2, q3, q4⟩ := id xT
  obtain ⟨z1, z2, z3, z4, z5, z6, z7, z8, z9, z10, z11, z12, z13⟩ := id xC
  obtain ⟨r1, r2, r3, r4, r5, r6, r7, r8, r9, r10, r11, r12, r13, r14, r15, r16, r17, r18⟩ := id xN
  obtain ⟨a1, a2, a3, a4, a5, a6⟩ := id xA
  have l10 : zL Z 10 = 4 := r10
  have l11 : zL Z 11 = 4 := r12
  have l12 : zL Z 12 = 8 := r14
  have l13 : zL Z 13 = 8 := r16
  have l14 : zL Z 14 = 4 := r18
  refine CM_intro ?_
  refine j_aload_n 0 dX5_fault_0 rfl (j_getR (b := 1) dX5_fault_1 fX5_10 rfl (by first | assumption | rfl) (by first | assumption | rfl) (j_V0 dX5_fault_4 kX5_73 (by first | assumption | rfl) (c_firstFault xT sT ?_)))
  refine j_iret dX5_fault_7 ?_
  exact hp

theorem k_station_l {g : GT} {Z : ZT} {I : IT} {L : LT} {Post : PT} {t : Nat → Nat} {n : Nat} {c : CT} {w : Nat} {ρ : RT} {A : Nat × Nat × (Nat → RT)} {K : (Nat → RT) × (Nat → Bool)} {E : (Nat → Int32) × (Nat → Nat) × (Nat → Nat) × Nat} {sd : Int64}  (hX : isX Z) (hs : CSt t n c w ρ A K E sd I L) (ho : OKs c w ρ A K E) (hf : fauF t n ≠ -9) (hp : Post (some (.int (-3))) Z I L) : CM g 5 0 0 mX5_station [.ref 0] Z I L Post := by
  obtain ⟨x0, y0, y1, y2, y3, y4, y5, y6, y7, y8, y9, xT, xC, xN, xA, b1, b2, b3, b4, b5, b6, t1, t2, t3, t4, e1, e2, e3, e4, e5, e6⟩ := id hX
  obtain ⟨sT, ⟨sC, s35, s37, s38⟩, sN, sA, sK, sE, sL⟩ := id hs
  obtain ⟨oC, oW, oN, oA, oK, oE⟩ := id ho
  obtain ⟨q1, q2, q3, q4⟩ := id xT
  obtain ⟨z1, z2, z3, z4, z5, z6, z7, z8, z9, z10, z11, z12, z13⟩ := id xC
  obtain ⟨r1, r2, r3, r4, r5, r6, r7, r8, r9, r10, r11, r12, r13, r14, r15, r16, r17, r18⟩ := id xN
  obtain ⟨a1, a2, a3, a4, a5, a6⟩ := id xA
  have l10 : zL Z 10 = 4 := r10
  have l11 : zL Z 11 = 4 := r12
  have l12 : zL Z 12 = 8 := r14
  have l13 : zL Z 13 = 8 := r16
  have l14 : zL Z 14 = 4 := r18
  refine CM_intro ?_
  refine j_aload_n 0 dX5_station_0 rfl (j_getR (b := 1) dX5_station_1 fX5_10 rfl (by first | assumption | rfl) (by first | assumption | rfl) (j_V0 dX5_station_4 kX5_73 (by first | assumption | rfl) (c_firstFault xT sT ?_)))
  refine j_bipush (v := -9) dX5_station_7 rfl (j_icmp_eq (tgt := 15) dX5_station_9 rfl (fun g1 => ?_) (fun g1 => ?_))
  · exact absurd g1 hf
  · refine j_bipush (v := -3) dX5_station_12 rfl (j_iret dX5_station_14 ?_)
    exact hp

def stC (t : Nat → Nat) : CT := mkC (nuN t 1) (fun k => nuN t (3 + 2 * k)) (t 11 - 48) (t 12 - 48)
theorem k_station {g : GT} {Z : ZT} {I : IT} {L : LT} {Post : PT} {t : Nat → Nat} {n : Nat} {c : CT} {w : Nat} {ρ : RT} {A : Nat × Nat × (Nat → RT)} {K : (Nat → RT) × (Nat → Bool)} {E : (Nat → Int32) × (Nat → Nat) × (Nat → Nat) × Nat} {sd : Int64}  (hX : isX Z) (hs : CSt t n c w ρ A K E sd I L) (ho : OKs c w ρ A K E) (hf : fauF t n = -9) (hp : ∀ I', CSt t n (stC t) (t 11 - 48) fr0 (A.1, 0, A.2.2) (K.1, fun _ => false) E sd I' L → eqM I I' → Post (some (.int (nI (nuN t 1)))) Z I' L) : CM g 5 0 0 mX5_station [.ref 0] Z I L Post := by
  obtain ⟨x0, y0, y1, y2, y3, y4, y5, y6, y7, y8, y9, xT, xC, xN, xA, b1, b2, b3, b4, b5, b6, t1, t2, t3, t4, e1, e2, e3, e4, e5, e6⟩ := id hX
  obtain ⟨sT, ⟨sC, s35, s37, s38⟩, sN, sA, sK, sE, sL⟩ := id hs
  obtain ⟨oC, oW, oN, oA, oK, oE⟩ := id ho
  obtain ⟨q1, q2, q3, q4⟩ := id xT
  obtain ⟨z1, z2, z3, z4, z5, z6, z7, z8, z9, z10, z11, z12, z13⟩ := id xC
  obtain ⟨r1, r2, r3, r4, r5, r6, r7, r8, r9, r10, r11, r12, r13, r14, r15, r16, r17, r18⟩ := id xN
  obtain ⟨a1, a2, a3, a4, a5, a6⟩ := id xA
  have l10 : zL Z 10 = 4 := r10
  have l11 : zL Z 11 = 4 := r12
  have l12 : zL Z 12 = 8 := r14
  have l13 : zL Z 13 = 8 := r16
  have l14 : zL Z 14 = 4 := r18
  refine CM_intro ?_
  have hst := stx_of (fau_ok hf).2
  refine j_aload_n 0 dX5_station_0 rfl (j_getR (b := 1) dX5_station_1 fX5_10 rfl (by first | assumption | rfl) (by first | assumption | rfl) (j_V0 dX5_station_4 kX5_73 (by first | assumption | rfl) (c_firstFault xT sT ?_)))
  refine j_bipush (v := -9) dX5_station_7 rfl (j_icmp_eq (tgt := 15) dX5_station_9 rfl (fun g1 => ?_) (fun g1 => ?_))
  · refine j_aload_n 0 dX5_station_15 rfl (j_getR (b := 3) dX5_station_16 fX5_19 rfl (by first | assumption | rfl) (by first | assumption | rfl) (j_aload_n 0 dX5_station_19 rfl (j_getR (b := 1) dX5_station_20 fX5_10 rfl (by first | assumption | rfl) (by first | assumption | rfl) (j_V1 dX5_station_23 kX5_77 (by first | assumption | rfl) (c_takeFrom xT xC sT hst (fun I1 f1 h1 h2 h3 h4 => ?_))))))
    refine j_aload_n 0 dX5_station_26 rfl (j_getR (b := 8) dX5_station_27 fX5_26 rfl (by first | assumption | rfl) (by first | assumption | rfl) (j_V0 dX5_station_30 kX5_81 (by first | assumption | rfl) (c_clr xN (fun V' hV' => ?_))))
    refine j_aload_n 0 dX5_station_33 rfl (j_getR (b := 15) dX5_station_34 fX5_33 rfl (by first | assumption | rfl) (by first | assumption | rfl) (j_V0 dX5_station_37 kX5_84 (by first | assumption | rfl) (c_forget a1 ?_)))
    refine j_iconst (v := 0) dX5_station_40 rfl (j_istore_n (lv' := [(1, _), (0, _)]) dX5_station_41 rfl (j_iload_n 0 dX5_station_42 rfl (j_iconst (v := 2) dX5_station_43 rfl (j_icmp_ge (tgt := 60) dX5_station_44 rfl (fun h9 => absurd h9 (by decide)) (fun _ => (j_aload_n 1 dX5_station_47 rfl (j_getR (b := 116) dX5_station_48 fX5_41 rfl (by first | assumption | rfl) (by first | assumption | rfl) (j_iload_n 0 dX5_station_51 rfl (j_iconst (v := 0) dX5_station_52 rfl (j_bastore 0 dX5_station_53 (by first | assumption | rfl) (by decide) (by first | assumption | rfl) (by omega) (j_iinc (y := 1) (lv' := [(1, _), (0, _)]) 0 dX5_station_54 rfl rfl rfl (j_goto (tgt := 42) dX5_station_57 rfl (j_iload_n 0 dX5_station_42 rfl (j_iconst (v := 2) dX5_station_43 rfl (j_icmp_ge (tgt := 60) dX5_station_44 rfl (fun h9 => absurd h9 (by decide)) (fun _ => (j_aload_n 1 dX5_station_47 rfl (j_getR (b := 116) dX5_station_48 fX5_41 rfl (by first | assumption | rfl) (by first | assumption | rfl) (j_iload_n 0 dX5_station_51 rfl (j_iconst (v := 0) dX5_station_52 rfl (j_bastore 1 dX5_station_53 (by first | assumption | rfl) (by decide) (by first | assumption | rfl) (by omega) (j_iinc (y := 1) (lv' := [(1, _), (0, _)]) 0 dX5_station_54 rfl rfl rfl (j_goto (tgt := 42) dX5_station_57 rfl (j_iload_n 0 dX5_station_42 rfl (j_iconst (v := 2) dX5_station_43 rfl (j_icmp_ge (tgt := 60) dX5_station_44 rfl (fun _ => ?_) (fun h9 => absurd (by decide) h9)))))))))))))))))))))))))))
    have fr : ∀ a, a ≠ 15 → a ≠ 116 → upI (upI (upI (wr I1 8 V') 15 2 0) 116 0 0) 116 1 0 a = wr I1 8 V' a := fun a ha hb => by rw [upI_n hb, upI_n hb, upI_n ha]
    have fr2 : ∀ a, a < 3 ∨ 16 ≤ a → a ≠ 116 → upI (upI (upI (wr I1 8 V') 15 2 0) 116 0 0) 116 1 0 a = I a := fun a ha hb => by rw [fr a (by omega) hb, wr_n (by omega), f1 a (by omega) (by omega) (by omega) (by omega) (by omega)]
    have fr3 : ∀ a, 3 ≤ a → a < 8 → upI (upI (upI (wr I1 8 V') 15 2 0) 116 0 0) 116 1 0 a = I1 a := fun a ha hb => by rw [fr a (by omega) (by omega), wr_n (by omega)]
    have fr15 : ∀ j, j ≠ 2 → upI (upI (upI (wr I1 8 V') 15 2 0) 116 0 0) 116 1 0 15 j = I 15 j := fun j hj => by
      rw [upI_n (by decide), upI_n (by decide)]
      show upd (wr I1 8 V' 15) 2 0 j = _
      rw [upd_n hj, wr_n (by omega), f1 15 (by omega) (by omega) (by omega) (by omega) (by omega)]
    refine j_aload_n 1 dX5_station_60 rfl (j_getR (b := 3) dX5_station_61 fX5_19 rfl (by first | assumption | rfl) (by first | assumption | rfl) (j_getI dX5_station_64 fX5_87 (by first | assumption | rfl) ?_))
    rw [fr3 3 (by decide) (by decide), show I1 3 4 = nI (nuN t 1) from h1.1]
    refine j_iret dX5_station_67 ?_
    refine hp _ ⟨sT.fr (fr2 1 (by omega) (by decide)) (fr2 2 (by omega) (by decide)), cC.fr ⟨h1, h2, h3, h4⟩ fr3, rec_fr (rec_wr (I := I1) hV') (fun j hj => fr _ (by omega) (by omega)), ⟨sA.1, Nat.zero_le _, (fr15 1 (by decide)).trans sA.2.2.1, rfl, fun j hj => absurd hj (Nat.not_lt_zero _)⟩, fun i hi => ⟨?_, fun z => absurd (show false = true from z) (by decide)⟩, sE.fr (by rw [fr2 0 (by omega) (by decide)]) (fun a _ _ => fr2 a (by omega) (by omega)), sL⟩ (fun a ha => fr2 a (by omega) (by omega))
    have : i = 0 ∨ i = 1 := by omega
    rcases this with r | r <;> subst r <;> rfl
  · exact absurd hf g1

theorem k_seed {g : GT} {Z : ZT} {I : IT} {L : LT} {Post : PT} {t : Nat → Nat} {n : Nat} {c : CT} {w : Nat} {ρ : RT} {A : Nat × Nat × (Nat → RT)} {K : (Nat → RT) × (Nat → Bool)} {E : (Nat → Int32) × (Nat → Nat) × (Nat → Nat) × Nat} {sd : Int64} {v : Int64} (hX : isX Z) (hs : CSt t n c w ρ A K E sd I L) (ho : OKs c w ρ A K E)  (hp : ∀ L', CSt t n c w ρ A K E v I L' → (∀ a, a ≠ 0 → L' a = L a) → Post (some (.long sd)) Z I L') : CM g 0 0 0 mX5_seed [.ref 0, .long v] Z I L Post := by
  obtain ⟨x0, y0, y1, y2, y3, y4, y5, y6, y7, y8, y9, xT, xC, xN, xA, b1, b2, b3, b4, b5, b6, t1, t2, t3, t4, e1, e2, e3, e4, e5, e6⟩ := id hX
  obtain ⟨sT, ⟨sC, s35, s37, s38⟩, sN, sA, sK, sE, sL⟩ := id hs
  obtain ⟨oC, oW, oN, oA, oK, oE⟩ := id ho
  obtain ⟨q1, q2, q3, q4⟩ := id xT
  obtain ⟨z1, z2, z3, z4, z5, z6, z7, z8, z9, z10, z11, z12, z13⟩ := id xC
  obtain ⟨r1, r2, r3, r4, r5, r6, r7, r8, r9, r10, r11, r12, r13, r14, r15, r16, r17, r18⟩ := id xN
  obtain ⟨a1, a2, a3, a4, a5, a6⟩ := id xA
  have l10 : zL Z 10 = 4 := r10
  have l11 : zL Z 11 = 4 := r12
  have l12 : zL Z 12 = 8 := r14
  have l13 : zL Z 13 = 8 := r16
  have l14 : zL Z 14 = 4 := r18
  refine CM_intro ?_
  refine j_aload_n 0 dX5_seed_0 rfl (j_getJ dX5_seed_1 fX5_62 (by first | assumption | rfl) (j_lstore_n (lv' := [(3, _), (0, _), (1, _)]) dX5_seed_4 rfl (j_aload_n 1 dX5_seed_5 rfl (j_lload_n 2 dX5_seed_6 rfl (j_putJ dX5_seed_7 fX5_62 (by first | assumption | rfl) (j_lload_n 0 dX5_seed_10 rfl (j_lret dX5_seed_11 ?_)))))))
  rw [sL]
  refine hp _ ⟨sT, ⟨sC, s35, s37, s38⟩, sN, sA, sK, sE, ?_⟩ (fun a ha => ?_)
  · exact if_pos rfl
  · exact if_neg ha

def seE (E : (Nat → Int32) × (Nat → Nat) × (Nat → Nat) × Nat) (G : Int32) (k v : Nat) : (Nat → Int32) × (Nat → Nat) × (Nat → Nat) × Nat := (upd E.1 E.2.2.2 G, tU E.2.1 E.2.2.2 k, tU E.2.2.1 E.2.2.2 v, E.2.2.2 + 1)
theorem k_see {g : GT} {Z : ZT} {I : IT} {L : LT} {Post : PT} {t : Nat → Nat} {n : Nat} {c : CT} {w : Nat} {ρ : RT} {A : Nat × Nat × (Nat → RT)} {K : (Nat → RT) × (Nat → Bool)} {E : (Nat → Int32) × (Nat → Nat) × (Nat → Nat) × Nat} {sd : Int64} {G : Int32} {k v : Nat} (hX : isX Z) (hs : CSt t n c w ρ A K E sd I L) (ho : OKs c w ρ A K E) (hk : k ≤ 2) (hv : v ≤ 9) (hn : E.2.2.2 < 4) (hp : ∀ I', CSt t n c w ρ A K (seE E G k v) sd I' L → eqM I I' → Post (some (.int (nI (E.2.2.2 + 1)))) Z I' L) : CM g 0 0 0 mX5_see [.ref 0, .int G, .int (nI k), .int (nI v)] Z I L Post := by
  obtain ⟨x0, y0, y1, y2, y3, y4, y5, y6, y7, y8, y9, xT, xC, xN, xA, b1, b2, b3, b4, b5, b6, t1, t2, t3, t4, e1, e2, e3, e4, e5, e6⟩ := id hX
  obtain ⟨sT, ⟨sC, s35, s37, s38⟩, sN, sA, sK, sE, sL⟩ := id hs
  obtain ⟨oC, oW, oN, oA, oK, oE⟩ := id ho
  obtain ⟨q1, q2, q3, q4⟩ := id xT
  obtain ⟨z1, z2, z3, z4, z5, z6, z7, z8, z9, z10, z11, z12, z13⟩ := id xC
  obtain ⟨r1, r2, r3, r4, r5, r6, r7, r8, r9, r10, r11, r12, r13, r14, r15, r16, r17, r18⟩ := id xN
  obtain ⟨a1, a2, a3, a4, a5, a6⟩ := id xA
  have l10 : zL Z 10 = 4 := r10
  have l11 : zL Z 11 = 4 := r12
  have l12 : zL Z 12 = 8 := r14
  have l13 : zL Z 13 = 8 := r16
  have l14 : zL Z 14 = 4 := r18
  refine CM_intro ?_
  refine j_iload_n 2 dX5_see_0 rfl (j_if_lt (tgt := 19) dX5_see_1 rfl (fun g1 => ?_) (fun g1 => ?_))
  · exact absurd g1 (nI_pos (by omega))
  · refine j_iload_n 2 dX5_see_4 rfl (j_iconst (v := 2) dX5_see_5 rfl (j_icmp_gt (tgt := 19) dX5_see_6 rfl (fun g2 => ?_) (fun g2 => ?_)))
    · exact absurd g2 (nI_nlt (a := 2) hk (by decide))
    · refine j_iload_n 3 dX5_see_9 rfl (j_if_lt (tgt := 19) dX5_see_10 rfl (fun g3 => ?_) (fun g3 => ?_))
      · exact absurd g3 (nI_pos (by omega))
      · refine j_iload_n 3 dX5_see_13 rfl (j_bipush (v := 9) dX5_see_14 rfl (j_icmp_le (tgt := 22) dX5_see_16 rfl (fun g4 => ?_) (fun g4 => ?_)))
        · refine j_aload_n 0 dX5_see_22 rfl (j_getI dX5_see_23 fX5_58 (by first | assumption | rfl) (j_iconst (v := 4) dX5_see_26 rfl (j_icmp_lt (tgt := 33) dX5_see_27 rfl (fun g5 => ?_) (fun g5 => ?_))))
          · refine j_aload_n 0 dX5_see_33 rfl (j_getR (b := 118) dX5_see_34 fX5_48 rfl (by first | assumption | rfl) (by first | assumption | rfl) (j_aload_n 0 dX5_see_37 rfl (j_getI dX5_see_38 fX5_58 (by first | assumption | rfl) (j_iload_n 1 dX5_see_41 rfl (j_iastore E.2.2.2 dX5_see_42 sE.1 (by first | assumption | rfl) (by omega) (j_aload_n 0 dX5_see_43 rfl (j_getR (b := 119) dX5_see_44 fX5_52 rfl (by first | assumption | rfl) (by first | assumption | rfl) (j_aload_n 0 dX5_see_47 rfl (j_getI dX5_see_48 fX5_58 (by first | assumption | rfl) (j_iload_n 2 dX5_see_51 rfl (j_iastore E.2.2.2 dX5_see_52 sE.1 (by first | assumption | rfl) (by omega) (j_aload_n 0 dX5_see_53 rfl (j_getR (b := 120) dX5_see_54 fX5_55 rfl (by first | assumption | rfl) (by first | assumption | rfl) (j_aload_n 0 dX5_see_57 rfl (j_getI dX5_see_58 fX5_58 (by first | assumption | rfl) (j_iload_n 3 dX5_see_61 rfl (j_iastore E.2.2.2 dX5_see_62 sE.1 (by first | assumption | rfl) (by omega) (j_aload_n 0 dX5_see_63 rfl (j_dup dX5_see_64 rfl (j_getI dX5_see_65 fX5_58 (by first | assumption | rfl) (j_iconst (v := 1) dX5_see_68 rfl (j_iadd dX5_see_69 ?_))))))))))))))))))))))
            rw [show upI (upI (upI I 118 E.2.2.2 G) 119 E.2.2.2 (nI k)) 120 E.2.2.2 (nI v) 0 10 = nI E.2.2.2 from sE.1, nI_1]
            refine j_putI dX5_see_70 fX5_58 (by first | assumption | rfl) (j_aload_n 0 dX5_see_73 rfl (j_getI dX5_see_74 fX5_58 (by first | assumption | rfl) (j_iret dX5_see_77 ?_)))
            have fr : ∀ a, a ≠ 0 → a < 118 ∨ 121 ≤ a → upI (upI (upI (upI I 118 E.2.2.2 G) 119 E.2.2.2 (nI k)) 120 E.2.2.2 (nI v)) 0 10 (nI (E.2.2.2 + 1)) a = I a := fun a ha hb => by rw [upI_n (by omega), upI_n (by omega), upI_n (by omega), upI_n (by omega)]
            refine hp _ ⟨sT.fr (fr 1 (by omega) (by omega)) (fr 2 (by omega) (by omega)), cC.fr ⟨sC, s35, s37, s38⟩ (fun a _ _ => fr a (by omega) (by omega)), rec_fr sN (fun j hj => fr _ (by omega) (by omega)), sA.fr (fun a _ _ => fr a (by omega) (by omega)), fun i hi => ⟨?_, fun z => rec_fr ((sK i hi).2 z) (fun j hj => fr _ (by omega) (by omega))⟩, ⟨rfl, fun i hi => ?_⟩, sL⟩ (fun a ha => fr a (by omega) (by omega))
            · rw [fr 116 (by omega) (by omega)]; exact (sK i hi).1
            · obtain ⟨u1, u2, u3⟩ := sE.2 i hi
              unfold seE tU
              by_cases e : i = E.2.2.2
              · subst e
                refine ⟨?_, ?_, ?_⟩
                · show upd (I 118) _ _ _ = upd _ _ _ _
                  rw [upd_s, upd_s]
                · show upd (I 119) _ _ _ = nI (if _ then _ else _)
                  rw [upd_s, if_pos rfl]
                · show upd (I 120) _ _ _ = nI (if _ then _ else _)
                  rw [upd_s, if_pos rfl]
              · refine ⟨?_, ?_, ?_⟩
                · show upd (I 118) _ _ _ = upd _ _ _ _
                  rw [upd_n e, upd_n e]; exact u1
                · show upd (I 119) _ _ _ = nI (if _ then _ else _)
                  rw [upd_n e, if_neg e]; exact u2
                · show upd (I 120) _ _ _ = nI (if _ then _ else _)
                  rw [upd_n e, if_neg e]; exact u3
          · rw [sE.1] at g5
            exact absurd (nI_lt (b := 4) hn (by decide)) g5
        · exact absurd (nI_le (b := 9) hv (by decide)) g4

theorem k_see_f {g : GT} {Z : ZT} {I : IT} {L : LT} {Post : PT} {t : Nat → Nat} {n : Nat} {c : CT} {w : Nat} {ρ : RT} {A : Nat × Nat × (Nat → RT)} {K : (Nat → RT) × (Nat → Bool)} {E : (Nat → Int32) × (Nat → Nat) × (Nat → Nat) × Nat} {sd : Int64} {G : Int32} {k v : Nat} (hX : isX Z) (hs : CSt t n c w ρ A K E sd I L) (ho : OKs c w ρ A K E) (hk : k ≤ 2) (hv : v ≤ 9) (hn : E.2.2.2 = 4) (hp : Post (some (.int (-4))) Z I L) : CM g 0 0 0 mX5_see [.ref 0, .int G, .int (nI k), .int (nI v)] Z I L Post := by
  obtain ⟨x0, y0, y1, y2, y3, y4, y5, y6, y7, y8, y9, xT, xC, xN, xA, b1, b2, b3, b4, b5, b6, t1, t2, t3, t4, e1, e2, e3, e4, e5, e6⟩ := id hX
  obtain ⟨sT, ⟨sC, s35, s37, s38⟩, sN, sA, sK, sE, sL⟩ := id hs
  obtain ⟨oC, oW, oN, oA, oK, oE⟩ := id ho
  obtain ⟨q1, q2, q3, q4⟩ := id xT
  obtain ⟨z1, z2, z3, z4, z5, z6, z7, z8, z9, z10, z11, z12, z13⟩ := id xC
  obtain ⟨r1, r2, r3, r4, r5, r6, r7, r8, r9, r10, r11, r12, r13, r14, r15, r16, r17, r18⟩ := id xN
  obtain ⟨a1, a2, a3, a4, a5, a6⟩ := id xA
  have l10 : zL Z 10 = 4 := r10
  have l11 : zL Z 11 = 4 := r12
  have l12 : zL Z 12 = 8 := r14
  have l13 : zL Z 13 = 8 := r16
  have l14 : zL Z 14 = 4 := r18
  refine CM_intro ?_
  refine j_iload_n 2 dX5_see_0 rfl (j_if_lt (tgt := 19) dX5_see_1 rfl (fun g1 => ?_) (fun g1 => ?_))
  · exact absurd g1 (nI_pos (by omega))
  · refine j_iload_n 2 dX5_see_4 rfl (j_iconst (v := 2) dX5_see_5 rfl (j_icmp_gt (tgt := 19) dX5_see_6 rfl (fun g2 => ?_) (fun g2 => ?_)))
    · exact absurd g2 (nI_nlt (a := 2) hk (by decide))
    · refine j_iload_n 3 dX5_see_9 rfl (j_if_lt (tgt := 19) dX5_see_10 rfl (fun g3 => ?_) (fun g3 => ?_))
      · exact absurd g3 (nI_pos (by omega))
      · refine j_iload_n 3 dX5_see_13 rfl (j_bipush (v := 9) dX5_see_14 rfl (j_icmp_le (tgt := 22) dX5_see_16 rfl (fun g4 => ?_) (fun g4 => ?_)))
        · refine j_aload_n 0 dX5_see_22 rfl (j_getI dX5_see_23 fX5_58 (by first | assumption | rfl) (j_iconst (v := 4) dX5_see_26 rfl (j_icmp_lt (tgt := 33) dX5_see_27 rfl (fun g5 => ?_) (fun g5 => ?_))))
          · rw [sE.1, hn] at g5
            exact absurd g5 (by decide)
          · refine j_bipush (v := -4) dX5_see_30 rfl (j_iret dX5_see_32 ?_)
            exact hp
        · exact absurd (nI_le (b := 9) hv (by decide)) g4

theorem k_see_b {g : GT} {Z : ZT} {I : IT} {L : LT} {Post : PT} {t : Nat → Nat} {n : Nat} {c : CT} {w : Nat} {ρ : RT} {A : Nat × Nat × (Nat → RT)} {K : (Nat → RT) × (Nat → Bool)} {E : (Nat → Int32) × (Nat → Nat) × (Nat → Nat) × Nat} {sd : Int64} {G x y : Int32} (hX : isX Z) (hs : CSt t n c w ρ A K E sd I L) (ho : OKs c w ρ A K E) (hx : ∀ k v, k ≤ 2 → v ≤ 9 → x = nI k → y = nI v → False) (hp : Post (some (.int (-2))) Z I L) : CM g 0 0 0 mX5_see [.ref 0, .int G, .int x, .int y] Z I L Post := by
  obtain ⟨x0, y0, y1, y2, y3, y4, y5, y6, y7, y8, y9, xT, xC, xN, xA, b1, b2, b3, b4, b5, b6, t1, t2, t3, t4, e1, e2, e3, e4, e5, e6⟩ := id hX
  obtain ⟨sT, ⟨sC, s35, s37, s38⟩, sN, sA, sK, sE, sL⟩ := id hs
  obtain ⟨oC, oW, oN, oA, oK, oE⟩ := id ho
  obtain ⟨q1, q2, q3, q4⟩ := id xT
  obtain ⟨z1, z2, z3, z4, z5, z6, z7, z8, z9, z10, z11, z12, z13⟩ := id xC
  obtain ⟨r1, r2, r3, r4, r5, r6, r7, r8, r9, r10, r11, r12, r13, r14, r15, r16, r17, r18⟩ := id xN
  obtain ⟨a1, a2, a3, a4, a5, a6⟩ := id xA
  have l10 : zL Z 10 = 4 := r10
  have l11 : zL Z 11 = 4 := r12
  have l12 : zL Z 12 = 8 := r14
  have l13 : zL Z 13 = 8 := r16
  have l14 : zL Z 14 = 4 := r18
  refine CM_intro ?_
  refine j_iload_n 2 dX5_see_0 rfl (j_if_lt (tgt := 19) dX5_see_1 rfl (fun g1 => ?_) (fun g1 => ?_))
  · refine j_bipush (v := -2) dX5_see_19 rfl (j_iret dX5_see_21 ?_)
    exact hp
  · refine j_iload_n 2 dX5_see_4 rfl (j_iconst (v := 2) dX5_see_5 rfl (j_icmp_gt (tgt := 19) dX5_see_6 rfl (fun g2 => ?_) (fun g2 => ?_)))
    · refine j_bipush (v := -2) dX5_see_19 rfl (j_iret dX5_see_21 ?_)
      exact hp
    · refine j_iload_n 3 dX5_see_9 rfl (j_if_lt (tgt := 19) dX5_see_10 rfl (fun g3 => ?_) (fun g3 => ?_))
      · refine j_bipush (v := -2) dX5_see_19 rfl (j_iret dX5_see_21 ?_)
        exact hp
      · refine j_iload_n 3 dX5_see_13 rfl (j_bipush (v := 9) dX5_see_14 rfl (j_icmp_le (tgt := 22) dX5_see_16 rfl (fun g4 => ?_) (fun g4 => ?_)))
        · obtain ⟨k, -, hk2, ek⟩ := bt_t (a := 0) (b := 2) (by decide) (i_nlt (k := 0) (by decide) g1) (i_ngt (k := 2) (by decide) g2)
          obtain ⟨v, -, hv2, ev⟩ := bt_t (a := 0) (b := 9) (by decide) (i_nlt (k := 0) (by decide) g3) (i_le (k := 9) (by decide) g4)
          exact (hx k v hk2 hv2 ek ev).elim
        · refine j_bipush (v := -2) dX5_see_19 rfl (j_iret dX5_see_21 ?_)
          exact hp

theorem k_unsee {g : GT} {Z : ZT} {I : IT} {L : LT} {Post : PT} {t : Nat → Nat} {n : Nat} {c : CT} {w : Nat} {ρ : RT} {A : Nat × Nat × (Nat → RT)} {K : (Nat → RT) × (Nat → Bool)} {E : (Nat → Int32) × (Nat → Nat) × (Nat → Nat) × Nat} {sd : Int64}  (hX : isX Z) (hs : CSt t n c w ρ A K E sd I L) (ho : OKs c w ρ A K E)  (hp : ∀ I', CSt t n c w ρ A K (E.1, E.2.1, E.2.2.1, 0) sd I' L → eqM I I' → Post (some (.int (nI E.2.2.2))) Z I' L) : CM g 0 0 0 mX5_unsee [.ref 0] Z I L Post := by
  obtain ⟨x0, y0, y1, y2, y3, y4, y5, y6, y7, y8, y9, xT, xC, xN, xA, b1, b2, b3, b4, b5, b6, t1, t2, t3, t4, e1, e2, e3, e4, e5, e6⟩ := id hX
  obtain ⟨sT, ⟨sC, s35, s37, s38⟩, sN, sA, sK, sE, sL⟩ := id hs
  obtain ⟨oC, oW, oN, oA, oK, oE⟩ := id ho
  obtain ⟨q1, q2, q3, q4⟩ := id xT
  obtain ⟨z1, z2, z3, z4, z5, z6, z7, z8, z9, z10, z11, z12, z13⟩ := id xC
  obtain ⟨r1, r2, r3, r4, r5, r6, r7, r8, r9, r10, r11, r12, r13, r14, r15, r16, r17, r18⟩ := id xN
  obtain ⟨a1, a2, a3, a4, a5, a6⟩ := id xA
  have l10 : zL Z 10 = 4 := r10
  have l11 : zL Z 11 = 4 := r12
  have l12 : zL Z 12 = 8 := r14
  have l13 : zL Z 13 = 8 := r16
  have l14 : zL Z 14 = 4 := r18
  refine CM_intro ?_
  refine j_aload_n 0 dX5_unsee_0 rfl (j_getI dX5_unsee_1 fX5_58 (by first | assumption | rfl) (j_istore_n (lv' := [(1, _), (0, _)]) dX5_unsee_4 rfl (j_aload_n 1 dX5_unsee_5 rfl (j_iconst (v := 0) dX5_unsee_6 rfl (j_putI dX5_unsee_7 fX5_58 (by first | assumption | rfl) (j_iload_n 0 dX5_unsee_10 rfl (j_iret dX5_unsee_11 ?_)))))))
  rw [sE.1]
  have fr : ∀ a, a ≠ 0 → upI I 0 10 0 a = I a := fun a ha => upI_n ha
  refine hp _ ⟨sT.fr (fr 1 (by omega)) (fr 2 (by omega)), cC.fr ⟨sC, s35, s37, s38⟩ (fun a _ _ => fr a (by omega)), rec_fr sN (fun j hj => fr _ (by omega)), sA.fr (fun a _ _ => fr a (by omega)), sK.fr (fun a _ _ => fr a (by omega)), ⟨rfl, fun i hi => sE.2 i hi⟩, sL⟩ (fun a ha => fr a (by omega))

def kpK (K : (Nat → RT) × (Nat → Bool)) (i : Nat) (ρ : RT) : (Nat → RT) × (Nat → Bool) := (dnU K.1 i ρ, fun k => if k = i then true else K.2 k)
theorem k_keep {g : GT} {Z : ZT} {I : IT} {L : LT} {Post : PT} {t : Nat → Nat} {n : Nat} {c : CT} {w : Nat} {ρ : RT} {A : Nat × Nat × (Nat → RT)} {K : (Nat → RT) × (Nat → Bool)} {E : (Nat → Int32) × (Nat → Nat) × (Nat → Nat) × Nat} {sd : Int64} {k : Nat} (hX : isX Z) (hs : CSt t n c w ρ A K E sd I L) (ho : OKs c w ρ A K E) (hk : k < 2) (hp : ∀ I', CSt t n c w ρ A (kpK K k ρ) E sd I' L → eqM I I' → Post (some (.int (ρ 0))) Z I' L) : CM g 3 0 0 mX5_keep [.ref 0, .int (nI k)] Z I L Post := by
  obtain ⟨x0, y0, y1, y2, y3, y4, y5, y6, y7, y8, y9, xT, xC, xN, xA, b1, b2, b3, b4, b5, b6, t1, t2, t3, t4, e1, e2, e3, e4, e5, e6⟩ := id hX
  obtain ⟨sT, ⟨sC, s35, s37, s38⟩, sN, sA, sK, sE, sL⟩ := id hs
  obtain ⟨oC, oW, oN, oA, oK, oE⟩ := id ho
  obtain ⟨q1, q2, q3, q4⟩ := id xT
  obtain ⟨z1, z2, z3, z4, z5, z6, z7, z8, z9, z10, z11, z12, z13⟩ := id xC
  obtain ⟨r1, r2, r3, r4, r5, r6, r7, r8, r9, r10, r11, r12, r13, r14, r15, r16, r17, r18⟩ := id xN
  obtain ⟨a1, a2, a3, a4, a5, a6⟩ := id xA
  have l10 : zL Z 10 = 4 := r10
  have l11 : zL Z 11 = 4 := r12
  have l12 : zL Z 12 = 8 := r14
  have l13 : zL Z 13 = 8 := r16
  have l14 : zL Z 14 = 4 := r18
  refine CM_intro ?_
  have b3k := b3 k hk
  have b4k := (b4 k hk).1
  refine j_iload_n 1 dX5_keep_0 rfl (j_S1 dX5_keep_1 kX5_280 (c_isSlot ⟨fun _ _ _ => ?_, fun h => absurd rfl (h k hk)⟩))
  refine j_if_ne (tgt := 9) dX5_keep_4 rfl (fun _ => (j_aload_n 0 dX5_keep_9 rfl (j_getR (b := 115) dX5_keep_10 fX5_37 rfl (by first | assumption | rfl) (by first | assumption | rfl) (j_iload_n 1 dX5_keep_13 rfl (j_aaload (b := 121 + 7 * k) k dX5_keep_14 (by first | assumption | rfl) rfl (by first | assumption | rfl) (by omega) (by first | assumption | rfl) (j_aload_n 0 dX5_keep_15 rfl (j_getR (b := 8) dX5_keep_16 fX5_26 rfl (by first | assumption | rfl) (by first | assumption | rfl) (j_V1 dX5_keep_19 kX5_266 (by first | assumption | rfl) (c_copy (b4 k hk) xN (by omega) sN oN.1.2.1 (fun V' hV' => ?_)))))))))) (fun h9 => absurd h9 (by decide))
  refine j_aload_n 0 dX5_keep_22 rfl (j_getR (b := 116) dX5_keep_23 fX5_41 rfl (by first | assumption | rfl) (by first | assumption | rfl) (j_iload_n 1 dX5_keep_26 rfl (j_iconst (v := 1) dX5_keep_27 rfl (j_bastore k dX5_keep_28 (by first | assumption | rfl) (by decide) (by first | assumption | rfl) (by omega) (j_aload_n 0 dX5_keep_29 rfl (j_getR (b := 8) dX5_keep_30 fX5_26 rfl (by first | assumption | rfl) (by first | assumption | rfl) (j_getI dX5_keep_33 fX5_283 (by first | assumption | rfl) ?_)))))))
  have fr : ∀ a, a ≠ 116 → a < 121 + 7 * k ∨ 128 + 7 * k ≤ a → upI (wr I (121 + 7 * k) V') 116 k 1 a = I a := fun a ha hb => by rw [upI_n ha, wr_n (by omega)]
  rw [fr 8 (by decide) (by omega), show I 8 3 = ρ 0 from sN.1.2.1]
  refine j_iret dX5_keep_36 ?_
  refine hp _ ⟨sT.fr (fr 1 (by omega) (by omega)) (fr 2 (by omega) (by omega)), cC.fr ⟨sC, s35, s37, s38⟩ (fun a _ _ => fr a (by omega) (by omega)), rec_fr sN (fun j hj => fr _ (by omega) (by omega)), sA.fr (fun a _ _ => fr a (by omega) (by omega)), fun i hi => ?_, sE.fr (by rw [fr 0 (by omega) (by omega)]) (fun a _ _ => fr a (by omega) (by omega)), sL⟩ (fun a ha => fr a (by omega) (by omega))
  have e116 : wr I (121 + 7 * k) V' 116 = I 116 := wr_n (by omega)
  unfold kpK dnU
  by_cases e : i = k
  · subst e
    refine ⟨?_, fun _ => ?_⟩
    · show upd (wr I _ V' 116) i 1 i = if (if i = i then true else _) = true then 1 else 0
      rw [upd_s, if_pos rfl]; rfl
    · show REC _ (if i = i then ρ else _)
      rw [if_pos rfl]
      exact rec_fr (rec_wr (I := I) hV') (fun j hj => upI_n (by omega))
  · refine ⟨?_, fun z => ?_⟩
    · show upd (wr I _ V' 116) k 1 i = if (if i = k then true else K.2 i) = true then 1 else 0
      rw [upd_n e, e116, if_neg e]
      exact (sK i hi).1
    · show REC _ (if i = k then ρ else K.1 i)
      rw [if_neg e]
      have z : (if i = k then true else K.2 i) = true := z
      rw [if_neg e] at z
      exact rec_fr ((sK i hi).2 z) (fun j hj => fr _ (by omega) (by omega))

theorem k_keep_u {g : GT} {Z : ZT} {I : IT} {L : LT} {Post : PT} {t : Nat → Nat} {n : Nat} {c : CT} {w : Nat} {ρ : RT} {A : Nat × Nat × (Nat → RT)} {K : (Nat → RT) × (Nat → Bool)} {E : (Nat → Int32) × (Nat → Nat) × (Nat → Nat) × Nat} {sd : Int64} {x : Int32} (hX : isX Z) (hs : CSt t n c w ρ A K E sd I L) (ho : OKs c w ρ A K E) (hx : ∀ j, j < 2 → x ≠ nI j) (hp : Post (some (.int (-1))) Z I L) : CM g 3 0 0 mX5_keep [.ref 0, .int x] Z I L Post := by
  obtain ⟨x0, y0, y1, y2, y3, y4, y5, y6, y7, y8, y9, xT, xC, xN, xA, b1, b2, b3, b4, b5, b6, t1, t2, t3, t4, e1, e2, e3, e4, e5, e6⟩ := id hX
  obtain ⟨sT, ⟨sC, s35, s37, s38⟩, sN, sA, sK, sE, sL⟩ := id hs
  obtain ⟨oC, oW, oN, oA, oK, oE⟩ := id ho
  obtain ⟨q1, q2, q3, q4⟩ := id xT
  obtain ⟨z1, z2, z3, z4, z5, z6, z7, z8, z9, z10, z11, z12, z13⟩ := id xC
  obtain ⟨r1, r2, r3, r4, r5, r6, r7, r8, r9, r10, r11, r12, r13, r14, r15, r16, r17, r18⟩ := id xN
  obtain ⟨a1, a2, a3, a4, a5, a6⟩ := id xA
  have l10 : zL Z 10 = 4 := r10
  have l11 : zL Z 11 = 4 := r12
  have l12 : zL Z 12 = 8 := r14
  have l13 : zL Z 13 = 8 := r16
  have l14 : zL Z 14 = 4 := r18
  refine CM_intro ?_
  refine j_iload_n 1 dX5_keep_0 rfl (j_S1 dX5_keep_1 kX5_280 (c_isSlot ⟨fun j hj e => absurd e (hx j hj), fun _ => ?_⟩))
  refine j_if_ne (tgt := 9) dX5_keep_4 rfl (fun h9 => absurd (by decide) h9) (fun _ => (j_iconst (v := -1) dX5_keep_7 rfl (j_iret dX5_keep_8 ?_)))
  exact hp

theorem k_again_u {g : GT} {Z : ZT} {I : IT} {L : LT} {Post : PT} {t : Nat → Nat} {n : Nat} {c : CT} {w : Nat} {ρ : RT} {A : Nat × Nat × (Nat → RT)} {K : (Nat → RT) × (Nat → Bool)} {E : (Nat → Int32) × (Nat → Nat) × (Nat → Nat) × Nat} {sd : Int64} {x : Int32} (hX : isX Z) (hs : CSt t n c w ρ A K E sd I L) (ho : OKs c w ρ A K E) (hx : ∀ j, j < 2 → x ≠ nI j) (hp : Post (some (.int (-1))) Z I L) : CM g 3 0 0 mX5_again [.ref 0, .int x] Z I L Post := by
  obtain ⟨x0, y0, y1, y2, y3, y4, y5, y6, y7, y8, y9, xT, xC, xN, xA, b1, b2, b3, b4, b5, b6, t1, t2, t3, t4, e1, e2, e3, e4, e5, e6⟩ := id hX
  obtain ⟨sT, ⟨sC, s35, s37, s38⟩, sN, sA, sK, sE, sL⟩ := id hs
  obtain ⟨oC, oW, oN, oA, oK, oE⟩ := id ho
  obtain ⟨q1, q2, q3, q4⟩ := id xT
  obtain ⟨z1, z2, z3, z4, z5, z6, z7, z8, z9, z10, z11, z12, z13⟩ := id xC
  obtain ⟨r1, r2, r3, r4, r5, r6, r7, r8, r9, r10, r11, r12, r13, r14, r15, r16, r17, r18⟩ := id xN
  obtain ⟨a1, a2, a3, a4, a5, a6⟩ := id xA
  have l10 : zL Z 10 = 4 := r10
  have l11 : zL Z 11 = 4 := r12
  have l12 : zL Z 12 = 8 := r14
  have l13 : zL Z 13 = 8 := r16
  have l14 : zL Z 14 = 4 := r18
  refine CM_intro ?_
  refine j_iload_n 1 dX5_again_0 rfl (j_S1 dX5_again_1 kX5_280 (c_isSlot ⟨fun j hj e => absurd e (hx j hj), fun _ => ?_⟩))
  refine j_if_ne (tgt := 9) dX5_again_4 rfl (fun h9 => absurd (by decide) h9) (fun _ => (j_iconst (v := -1) dX5_again_7 rfl (j_iret dX5_again_8 ?_)))
  exact hp

theorem k_again_l {g : GT} {Z : ZT} {I : IT} {L : LT} {Post : PT} {t : Nat → Nat} {n : Nat} {c : CT} {w : Nat} {ρ : RT} {A : Nat × Nat × (Nat → RT)} {K : (Nat → RT) × (Nat → Bool)} {E : (Nat → Int32) × (Nat → Nat) × (Nat → Nat) × Nat} {sd : Int64} {k : Nat} (hX : isX Z) (hs : CSt t n c w ρ A K E sd I L) (ho : OKs c w ρ A K E) (hk : k < 2) (hb : K.2 k = false) (hp : Post (some (.int (-3))) Z I L) : CM g 3 0 0 mX5_again [.ref 0, .int (nI k)] Z I L Post := by
  obtain ⟨x0, y0, y1, y2, y3, y4, y5, y6, y7, y8, y9, xT, xC, xN, xA, b1, b2, b3, b4, b5, b6, t1, t2, t3, t4, e1, e2, e3, e4, e5, e6⟩ := id hX
  obtain ⟨sT, ⟨sC, s35, s37, s38⟩, sN, sA, sK, sE, sL⟩ := id hs
  obtain ⟨oC, oW, oN, oA, oK, oE⟩ := id ho
  obtain ⟨q1, q2, q3, q4⟩ := id xT
  obtain ⟨z1, z2, z3, z4, z5, z6, z7, z8, z9, z10, z11, z12, z13⟩ := id xC
  obtain ⟨r1, r2, r3, r4, r5, r6, r7, r8, r9, r10, r11, r12, r13, r14, r15, r16, r17, r18⟩ := id xN
  obtain ⟨a1, a2, a3, a4, a5, a6⟩ := id xA
  have l10 : zL Z 10 = 4 := r10
  have l11 : zL Z 11 = 4 := r12
  have l12 : zL Z 12 = 8 := r14
  have l13 : zL Z 13 = 8 := r16
  have l14 : zL Z 14 = 4 := r18
  refine CM_intro ?_
  refine j_iload_n 1 dX5_again_0 rfl (j_S1 dX5_again_1 kX5_280 (c_isSlot ⟨fun _ _ _ => ?_, fun h => absurd rfl (h k hk)⟩))
  refine j_if_ne (tgt := 9) dX5_again_4 rfl (fun _ => (j_aload_n 0 dX5_again_9 rfl (j_getR (b := 116) dX5_again_10 fX5_41 rfl (by first | assumption | rfl) (by first | assumption | rfl) (j_iload_n 1 dX5_again_13 rfl (j_baload k dX5_again_14 (by first | assumption | rfl) (by first | assumption | rfl) (by omega) (j_if_ne (tgt := 21) dX5_again_15 rfl (fun g1 => ?_) (fun g1 => ?_))))))) (fun h9 => absurd h9 (by decide))
  · rw [(sK k hk).1, hb] at g1
    exact absurd rfl g1
  · refine j_bipush (v := -3) dX5_again_18 rfl (j_iret dX5_again_20 ?_)
    exact hp

theorem k_again {g : GT} {Z : ZT} {I : IT} {L : LT} {Post : PT} {t : Nat → Nat} {n : Nat} {c : CT} {w : Nat} {ρ : RT} {A : Nat × Nat × (Nat → RT)} {K : (Nat → RT) × (Nat → Bool)} {E : (Nat → Int32) × (Nat → Nat) × (Nat → Nat) × Nat} {sd : Int64} {k : Nat} (hX : isX Z) (hs : CSt t n c w ρ A K E sd I L) (ho : OKs c w ρ A K E) (hk : k < 2) (hb : K.2 k = true) (hp : ∀ I', CSt t n c w (K.1 k) (A.1, 0, A.2.2) K E sd I' L → eqM I I' → Post (some (.int (K.1 k 0))) Z I' L) : CM g 3 0 0 mX5_again [.ref 0, .int (nI k)] Z I L Post := by
  obtain ⟨x0, y0, y1, y2, y3, y4, y5, y6, y7, y8, y9, xT, xC, xN, xA, b1, b2, b3, b4, b5, b6, t1, t2, t3, t4, e1, e2, e3, e4, e5, e6⟩ := id hX
  obtain ⟨sT, ⟨sC, s35, s37, s38⟩, sN, sA, sK, sE, sL⟩ := id hs
  obtain ⟨oC, oW, oN, oA, oK, oE⟩ := id ho
  obtain ⟨q1, q2, q3, q4⟩ := id xT
  obtain ⟨z1, z2, z3, z4, z5, z6, z7, z8, z9, z10, z11, z12, z13⟩ := id xC
  obtain ⟨r1, r2, r3, r4, r5, r6, r7, r8, r9, r10, r11, r12, r13, r14, r15, r16, r17, r18⟩ := id xN
  obtain ⟨a1, a2, a3, a4, a5, a6⟩ := id xA
  have l10 : zL Z 10 = 4 := r10
  have l11 : zL Z 11 = 4 := r12
  have l12 : zL Z 12 = 8 := r14
  have l13 : zL Z 13 = 8 := r16
  have l14 : zL Z 14 = 4 := r18
  refine CM_intro ?_
  have b3k := b3 k hk
  refine j_iload_n 1 dX5_again_0 rfl (j_S1 dX5_again_1 kX5_280 (c_isSlot ⟨fun _ _ _ => ?_, fun h => absurd rfl (h k hk)⟩))
  refine j_if_ne (tgt := 9) dX5_again_4 rfl (fun _ => (j_aload_n 0 dX5_again_9 rfl (j_getR (b := 116) dX5_again_10 fX5_41 rfl (by first | assumption | rfl) (by first | assumption | rfl) (j_iload_n 1 dX5_again_13 rfl (j_baload k dX5_again_14 (by first | assumption | rfl) (by first | assumption | rfl) (by omega) (j_if_ne (tgt := 21) dX5_again_15 rfl (fun g1 => ?_) (fun g1 => ?_))))))) (fun h9 => absurd h9 (by decide))
  · refine j_aload_n 0 dX5_again_21 rfl (j_getR (b := 8) dX5_again_22 fX5_26 rfl (by first | assumption | rfl) (by first | assumption | rfl) (j_aload_n 0 dX5_again_25 rfl (j_getR (b := 115) dX5_again_26 fX5_37 rfl (by first | assumption | rfl) (by first | assumption | rfl) (j_iload_n 1 dX5_again_29 rfl (j_aaload (b := 121 + 7 * k) k dX5_again_30 (by first | assumption | rfl) rfl (by first | assumption | rfl) (by omega) (by first | assumption | rfl) (j_V1 dX5_again_31 kX5_266 (by first | assumption | rfl) (c_copy xN (b4 k hk) (by omega) ((sK k hk).2 hb) (oK k hk hb).1.2.1 (fun V' hV' => ?_))))))))
    refine j_aload_n 0 dX5_again_34 rfl (j_getR (b := 15) dX5_again_35 fX5_33 rfl (by first | assumption | rfl) (by first | assumption | rfl) (j_V0 dX5_again_38 kX5_84 (by first | assumption | rfl) (c_forget a1 ?_)))
    have fr : ∀ a, a < 8 ∨ 16 ≤ a → upI (wr I 8 V') 15 2 0 a = I a := fun a ha => by rw [upI_n (by omega), wr_n (by omega)]
    refine j_aload_n 0 dX5_again_41 rfl (j_getR (b := 8) dX5_again_42 fX5_26 rfl (by first | assumption | rfl) (by first | assumption | rfl) (j_getI dX5_again_45 fX5_283 (by first | assumption | rfl) ?_))
    rw [show upI (wr I 8 V') 15 2 0 8 3 = K.1 k 0 from hV'.1.2.1]
    refine j_iret dX5_again_48 ?_
    have hA : cA (upI (wr I 8 V') 15 2 0) A.1 0 A.2.2 := (sA.fr (I' := wr I 8 V') (fun a _ _ => wr_n (by omega))).gone
    exact hp _ ⟨sT.fr (fr 1 (by omega)) (fr 2 (by omega)), cC.fr ⟨sC, s35, s37, s38⟩ (fun a _ _ => fr a (by omega)), rec_fr (rec_wr (I := I) hV') (fun j hj => upI_n (by omega)), hA, sK.fr (fun a _ _ => fr a (by omega)), sE.fr (by rw [fr 0 (by omega)]) (fun a _ _ => fr a (by omega)), sL⟩ (fun a ha => fr a (by omega))
  · rw [(sK k hk).1, hb] at g1
    exact absurd g1 (by decide)

