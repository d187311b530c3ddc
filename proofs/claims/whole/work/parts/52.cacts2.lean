theorem i_nlt {x : Int32} {k : Nat} (hk : k < 2 ^ 31) (h : ¬ x < nI k) : (k : Int) ≤ x.toInt := by
  have h := Int32.le_iff_toInt_le.mp (Int32.not_lt.mp h)
  rw [nI_toInt hk] at h
  exact h
theorem i_ngt {x : Int32} {k : Nat} (hk : k < 2 ^ 31) (h : ¬ nI k < x) : x.toInt ≤ (k : Int) := by
  have h := Int32.le_iff_toInt_le.mp (Int32.not_lt.mp h)
  rw [nI_toInt hk] at h
  exact h
theorem i_le {x : Int32} {k : Nat} (hk : k < 2 ^ 31) (h : x ≤ nI k) : x.toInt ≤ (k : Int) := by
  have h := Int32.le_iff_toInt_le.mp h
  rw [nI_toInt hk] at h
  exact h
theorem i_nn {x : Int32} (h : ¬ x < 0) : ∃ v, v < 2 ^ 31 ∧ x = nI v := by
  obtain ⟨j, -, h2, e⟩ := bt_t (a := 0) (b := 2147483647) (x := x) (by decide) (i_nlt (k := 0) (by decide) h) (show x.toInt ≤ 2147483647 from Int32.toInt_le x)
  exact ⟨j, by omega, e⟩
/-- a GROUP that is HEARD n times -/
noncomputable def giF (c : CT) (G : Int32) : Nat → RT → RT
  | 0, ρ => ρ
  | n + 1, ρ => hgF c G 0 4 (giF c G n ρ)
theorem OKz.gi {c : CT} (hc : okC c) (G : Int32) {ρ : RT} (h : OKz c ρ) : ∀ n, OKz c (giF c G n ρ)
  | 0 => h
  | n + 1 => OKz.hg hc G 0 (OKz.gi hc G h n) 4
theorem c_hearGroups {g : GT} {Z : ZT} {I : IT} {L : LT} {Post : PT} {r n : Nat} {ρ : RT} {c : CT} {G : Int32} (x0 : zK Z 0 = 5) (y1 : zS Z 0 1 = true) (hZ : isR Z r) (hZc : isCo Z) (hc : CC I c) (oC : okC c) (hr : 8 ≤ r) (hV : REC (vw I r) ρ) (hok : OKz c ρ) (hn : n ≤ 9) (hp : ∀ V', REC V' (giF c G n ρ) → Post none Z (wr I r V') L) : CM g 6 0 0 mX5_hearGroups [.ref 0, .ref r, .int G, .int (nI n)] Z I L Post := by
  have k1 := hZ.1
  have k2 := hZc.1
  refine CM_intro ?_
  have hlt := rt_lt (G := G) (t := 0) oC.2.2.1 oC.2.2.2.1 4 (by decide)
  have loop : ∀ (m k : Nat) (V : IT), k + m = n → REC V (giF c G k ρ) → JW g mX5_hearGroups (rmO 6 0 0) (QM Post 0 0) 13 [(6, .int (nI k)), (4, .long (lN (rtN c G 0 4))), (0, .ref 0), (1, .ref r), (2, .int G), (3, .int (nI n))] [] 0 0 Z (wr I r V) L := by
    intro m
    induction m with
    | zero =>
      intro k V hk hV
      have : k = n := by omega
      subst this
      refine j_iload 0 dX5_hearGroups_13 rfl (j_iload_n 5 dX5_hearGroups_15 rfl (j_icmp_ge (tgt := 37) dX5_hearGroups_16 rfl (fun h1 => ?_) (fun h1 => ?_)))
      · refine j_vret dX5_hearGroups_37 ?_
        exact hp V hV
      · exact absurd (nI_le (Nat.le_refl _) (by omega)) h1
    | succ m ih =>
      intro k V hk hV
      refine j_iload 0 dX5_hearGroups_13 rfl (j_iload_n 5 dX5_hearGroups_15 rfl (j_icmp_ge (tgt := 37) dX5_hearGroups_16 rfl (fun h1 => ?_) (fun h1 => ?_)))
      · exact absurd h1 (nI_ge (by omega) (by omega))
      · refine j_aload_n 3 dX5_hearGroups_19 rfl (j_aload_n 2 dX5_hearGroups_20 rfl (j_getR (b := 3) dX5_hearGroups_21 fX5_19 rfl (by first | assumption | rfl) (by first | assumption | rfl) (j_lload 1 dX5_hearGroups_24 rfl (j_bipush (v := 56) dX5_hearGroups_26 rfl (j_V3 dX5_hearGroups_28 kX5_204 (by first | assumption | rfl) (c_cHearBits (n := 56) hZ hZc hc hr hV (hok.gi oC G k).1 (by decide) (by omega) ?_))))))
        intro V' hV'
        rw [hs_rt (k := 4) oC.2.2.1 oC.2.2.2.1 _ (by decide)] at hV'
        refine j_iinc (y := 1) (lv' := [(6, _), (4, _), (0, _), (1, _), (2, _), (3, _)]) 0 dX5_hearGroups_31 rfl rfl rfl (j_goto (tgt := 13) dX5_hearGroups_34 rfl ?_)
        rw [nI_1]
        exact JW.locals [0, 1, 2, 3, 4, 5] rfl (ih (k + 1) V' (by omega) hV')
  refine j_aload_n 0 dX5_hearGroups_0 rfl (j_getR (b := 3) dX5_hearGroups_1 fX5_19 rfl (by first | assumption | rfl) (by first | assumption | rfl) (j_iload_n 2 dX5_hearGroups_4 rfl (j_V1 dX5_hearGroups_5 kX5_232 (by first | assumption | rfl) (c_groupRow hZc hc ?_))))
  refine j_lstore (lv' := [(4, _), (0, _), (1, _), (2, _), (3, _)]) dX5_hearGroups_8 rfl (j_iconst (v := 0) dX5_hearGroups_10 rfl (j_istore (lv' := [(6, _), (4, _), (0, _), (1, _), (2, _), (3, _)]) dX5_hearGroups_11 rfl ?_))
  have h := loop n 0 (vw I r) (by omega) hV
  rw [wr_vw] at h
  exact JW.locals [0, 1, 2, 3, 4, 5] rfl h
theorem CSt.now {t : Nat → Nat} {n : Nat} {c : CT} {w : Nat} {ρ ρ' : RT} {A A' : Nat × Nat × (Nat → RT)} {K : (Nat → RT) × (Nat → Bool)} {E : (Nat → Int32) × (Nat → Nat) × (Nat → Nat) × Nat} {sd : Int64} {I I1 V : IT} {L : LT} (h : CSt t n c w ρ A K E sd I L) (hA : cA I1 A'.1 A'.2.1 A'.2.2) (e : ∀ a, a < 15 ∨ 115 ≤ a → I1 a = I a) (hV : REC V ρ') : CSt t n c w ρ' A' K E sd (wr I1 8 V) L := by
  obtain ⟨sT, sC, sN, sA, sK, sE, sL⟩ := h
  have e2 : ∀ a, a < 8 ∨ 115 ≤ a → wr I1 8 V a = I a := fun a ha => by rw [wr_n (by omega), e a (by omega)]
  exact ⟨sT.fr (e2 1 (by omega)) (e2 2 (by omega)), sC.fr (fun a _ _ => e2 a (by omega)), rec_wr hV, hA.fr (fun a _ _ => wr_n (by omega)), sK.fr (fun a _ _ => e2 a (by omega)), sE.fr (by rw [e2 0 (by omega)]) (fun a _ _ => e2 a (by omega)), sL⟩
theorem eqM.now {I I1 V : IT} (e : ∀ a, a < 15 ∨ 115 ≤ a → I1 a = I a) : eqM I (wr I1 8 V) := fun a ha => by rw [wr_n (by omega), e a (by omega)]
def acA (A : Nat × Nat × (Nat → RT)) (ρ : RT) : Nat × Nat × (Nat → RT) := ((A.1 + 1) % 14, min (A.2.1 + 1) 14, dnU A.2.2 A.1 ρ)
theorem k_bits {g : GT} {Z : ZT} {I : IT} {L : LT} {Post : PT} {t : Nat → Nat} {n : Nat} {c : CT} {w : Nat} {ρ : RT} {A : Nat × Nat × (Nat → RT)} {K : (Nat → RT) × (Nat → Bool)} {E : (Nat → Int32) × (Nat → Nat) × (Nat → Nat) × Nat} {sd : Int64} {k v : Nat} (hX : isX Z) (hs : CSt t n c w ρ A K E sd I L) (ho : OKs c w ρ A K E) (h1 : 1 ≤ k) (h14 : k ≤ 14) (hv : v < 2 ^ k) (hp : ∀ I', CSt t n c w (hsF c k ρ v) (acA A ρ) K E sd I' L → eqM I I' → Post (some (.int (hsF c k ρ v 3))) Z I' L) : CM g 6 0 0 mX5_bits [.ref 0, .int (nI k), .int (nI v)] Z I L Post := by
  obtain ⟨x0, y0, y1, y2, y3, y4, y5, y6, y7, y8, y9, xT, xC, xN, xA, b1, b2, b3, b4, b5, b6, t1, t2, t3, t4, e1, e2, e3, e4, e5, e6⟩ := id hX
  obtain ⟨sT, ⟨sC, s35, s37, s38⟩, sN, sA, sK, sE, sL⟩ := id hs
  obtain ⟨oC, oW, oN, oA, oK, oE⟩ := id ho
  obtain ⟨q1, q2, q3, q4⟩ := id xT
  obtain ⟨z1, z2, z3, z4, z5, z6, z7, z8, z9, z10, z11, z12, z13⟩ := id xC
  obtain ⟨r1, r2, r3, r4, r5, r6, r7, r8, r9, r10, r11, r12, r13, r14, r15, r16, r17, r18⟩ := id xN
  obtain ⟨a1, a2, a3, a4, a5, a6⟩ := id xA
  have l10 : zL Z 10 = 4 := r10
  have l11 : zL Z 11 = 4 := r12
  have l12 : zL Z 12 = 8 := r14
  have l13 : zL Z 13 = 8 := r16
  have l14 : zL Z 14 = 4 := r18
  refine CM_intro ?_
  have hv14 : v < 16384 := Nat.lt_of_lt_of_le hv (Nat.pow_le_pow_right (n := 2) (j := 14) (by decide) h14)
  have oN' := oN.hs oC v k
  refine j_iload_n 1 dX5_bits_0 rfl (j_iconst (v := 1) dX5_bits_1 rfl (j_icmp_lt (tgt := 21) dX5_bits_2 rfl (fun g1 => ?_) (fun g1 => ?_)))
  · exact absurd g1 (nI_nlt (b := 1) h1 (by omega))
  · refine j_iload_n 1 dX5_bits_5 rfl (j_bipush (v := 14) dX5_bits_6 rfl (j_icmp_gt (tgt := 21) dX5_bits_8 rfl (fun g2 => ?_) (fun g2 => ?_)))
    · exact absurd g2 (nI_nlt (a := 14) h14 (by decide))
    · refine j_iload_n 2 dX5_bits_11 rfl (j_if_lt (tgt := 21) dX5_bits_12 rfl (fun g3 => ?_) (fun g3 => ?_))
      · exact absurd g3 (nI_pos (by omega))
      · refine j_iload_n 2 dX5_bits_15 rfl (j_iload_n 1 dX5_bits_16 rfl (j_ishr dX5_bits_17 ?_))
        rw [shrI (by omega) (by omega), Nat.div_eq_of_lt hv]
        refine j_if_eq (tgt := 24) dX5_bits_18 rfl (fun g4 => ?_) (fun g4 => ?_)
        · refine j_aload_n 0 dX5_bits_24 rfl (j_getR (b := 15) dX5_bits_25 fX5_33 rfl (by first | assumption | rfl) (by first | assumption | rfl) (j_aload_n 0 dX5_bits_28 rfl (j_getR (b := 8) dX5_bits_29 fX5_26 rfl (by first | assumption | rfl) (by first | assumption | rfl) (j_V1 dX5_bits_32 kX5_200 (by first | assumption | rfl) (c_remember xA xN sA sN oN.1.2.1 (fun I1 fr hA => ?_))))))
          refine j_aload_n 0 dX5_bits_35 rfl (j_getR (b := 8) dX5_bits_36 fX5_26 rfl (by first | assumption | rfl) (by first | assumption | rfl) (j_aload_n 0 dX5_bits_39 rfl (j_getR (b := 3) dX5_bits_40 fX5_19 rfl (by first | assumption | rfl) (by first | assumption | rfl) (j_iload_n 2 dX5_bits_43 rfl (j_i2l dX5_bits_44 (j_iload_n 1 dX5_bits_45 rfl ?_))))))
          rw [nI_l (by omega)]
          refine j_V3 dX5_bits_46 kX5_204 (by first | assumption | rfl) (c_hears xN xC (sC.fr (fun a _ _ => fr a (by omega))) (by decide) (rec_fr sN (fun j hj => fr _ (by omega))) oN.1 (by omega) (by omega) (fun V' hV' => ?_))
          refine j_aload_n 0 dX5_bits_49 rfl (j_getR (b := 8) dX5_bits_50 fX5_26 rfl (by first | assumption | rfl) (by first | assumption | rfl) (j_V0 dX5_bits_53 kX5_208 (by first | assumption | rfl) (c_sync r1 (rec_wr hV') oN'.1.2.1 ?_)))
          refine j_iret dX5_bits_56 ?_
          exact hp _ (hs.now hA fr hV') (eqM.now fr)
        · exact absurd rfl g4

theorem k_bits_b {g : GT} {Z : ZT} {I : IT} {L : LT} {Post : PT} {t : Nat → Nat} {n : Nat} {c : CT} {w : Nat} {ρ : RT} {A : Nat × Nat × (Nat → RT)} {K : (Nat → RT) × (Nat → Bool)} {E : (Nat → Int32) × (Nat → Nat) × (Nat → Nat) × Nat} {sd : Int64} {x y : Int32} (hX : isX Z) (hs : CSt t n c w ρ A K E sd I L) (ho : OKs c w ρ A K E) (hx : ∀ k v, 1 ≤ k → k ≤ 14 → v < 2 ^ k → x = nI k → y = nI v → False) (hp : Post (some (.int (-2))) Z I L) : CM g 6 0 0 mX5_bits [.ref 0, .int x, .int y] Z I L Post := by
  obtain ⟨x0, y0, y1, y2, y3, y4, y5, y6, y7, y8, y9, xT, xC, xN, xA, b1, b2, b3, b4, b5, b6, t1, t2, t3, t4, e1, e2, e3, e4, e5, e6⟩ := id hX
  obtain ⟨sT, ⟨sC, s35, s37, s38⟩, sN, sA, sK, sE, sL⟩ := id hs
  obtain ⟨oC, oW, oN, oA, oK, oE⟩ := id ho
  obtain ⟨q1, q2, q3, q4⟩ := id xT
  obtain ⟨z1, z2, z3, z4, z5, z6, z7, z8, z9, z10, z11, z12, z13⟩ := id xC
  obtain ⟨r1, r2, r3, r4, r5, r6, r7, r8, r9, r10, r11, r12, r13, r14, r15, r16, r17, r18⟩ := id xN
  obtain ⟨a1, a2, a3, a4, a5, a6⟩ := id xA
  have l10 : zL Z 10 = 4 := r10
  have l11 : zL Z 11 = 4 := r12
  have l12 : zL Z 12 = 8 := r14
  have l13 : zL Z 13 = 8 := r16
  have l14 : zL Z 14 = 4 := r18
  refine CM_intro ?_
  refine j_iload_n 1 dX5_bits_0 rfl (j_iconst (v := 1) dX5_bits_1 rfl (j_icmp_lt (tgt := 21) dX5_bits_2 rfl (fun g1 => ?_) (fun g1 => ?_)))
  · refine j_bipush (v := -2) dX5_bits_21 rfl (j_iret dX5_bits_23 ?_)
    exact hp
  · refine j_iload_n 1 dX5_bits_5 rfl (j_bipush (v := 14) dX5_bits_6 rfl (j_icmp_gt (tgt := 21) dX5_bits_8 rfl (fun g2 => ?_) (fun g2 => ?_)))
    · refine j_bipush (v := -2) dX5_bits_21 rfl (j_iret dX5_bits_23 ?_)
      exact hp
    · refine j_iload_n 2 dX5_bits_11 rfl (j_if_lt (tgt := 21) dX5_bits_12 rfl (fun g3 => ?_) (fun g3 => ?_))
      · refine j_bipush (v := -2) dX5_bits_21 rfl (j_iret dX5_bits_23 ?_)
        exact hp
      · obtain ⟨k, hk1, hk2, ek⟩ := bt_t (a := 1) (b := 14) (by decide) (i_nlt (k := 1) (by decide) g1) (i_ngt (k := 14) (by decide) g2)
        obtain ⟨v, hv, ev⟩ := i_nn g3
        subst ek ev
        refine j_iload_n 2 dX5_bits_15 rfl (j_iload_n 1 dX5_bits_16 rfl (j_ishr dX5_bits_17 ?_))
        rw [shrI hv (by omega)]
        refine j_if_eq (tgt := 24) dX5_bits_18 rfl (fun g4 => ?_) (fun g4 => ?_)
        · have h0 : v / 2 ^ k = 0 := nI_inj (b := 0) (Nat.lt_of_le_of_lt (Nat.div_le_self _ _) hv) (by decide) g4
          exact (hx k v hk1 hk2 ((Nat.div_eq_zero_iff_lt (Nat.two_pow_pos k)).mp h0) rfl rfl).elim
        · refine j_bipush (v := -2) dX5_bits_21 rfl (j_iret dX5_bits_23 ?_)
          exact hp

theorem k_hear {g : GT} {Z : ZT} {I : IT} {L : LT} {Post : PT} {t : Nat → Nat} {n : Nat} {c : CT} {w : Nat} {ρ : RT} {A : Nat × Nat × (Nat → RT)} {K : (Nat → RT) × (Nat → Bool)} {E : (Nat → Int32) × (Nat → Nat) × (Nat → Nat) × Nat} {sd : Int64} {k d v : Nat} (hX : isX Z) (hs : CSt t n c w ρ A K E sd I L) (ho : OKs c w ρ A K E) (hk : k < 4) (hd : d < 256) (hv : v < 16384) (hp : ∀ I', CSt t n c w (hsF c 14 ρ (wdN c k d ^^^ v)) (acA A ρ) K E sd I' L → eqM I I' → Post (some (.int (hsF c 14 ρ (wdN c k d ^^^ v) 3))) Z I' L) : CM g 6 0 0 mX5_hear [.ref 0, .int (nI k), .int (nI d), .int (nI v)] Z I L Post := by
  obtain ⟨x0, y0, y1, y2, y3, y4, y5, y6, y7, y8, y9, xT, xC, xN, xA, b1, b2, b3, b4, b5, b6, t1, t2, t3, t4, e1, e2, e3, e4, e5, e6⟩ := id hX
  obtain ⟨sT, ⟨sC, s35, s37, s38⟩, sN, sA, sK, sE, sL⟩ := id hs
  obtain ⟨oC, oW, oN, oA, oK, oE⟩ := id ho
  obtain ⟨q1, q2, q3, q4⟩ := id xT
  obtain ⟨z1, z2, z3, z4, z5, z6, z7, z8, z9, z10, z11, z12, z13⟩ := id xC
  obtain ⟨r1, r2, r3, r4, r5, r6, r7, r8, r9, r10, r11, r12, r13, r14, r15, r16, r17, r18⟩ := id xN
  obtain ⟨a1, a2, a3, a4, a5, a6⟩ := id xA
  have l10 : zL Z 10 = 4 := r10
  have l11 : zL Z 11 = 4 := r12
  have l12 : zL Z 12 = 8 := r14
  have l13 : zL Z 13 = 8 := r16
  have l14 : zL Z 14 = 4 := r18
  refine CM_intro ?_
  have hw := wdN_lt oC.2.2.1 (oC.2.2.2.1 k hk) hd
  have hx := xor_lt14 hw hv
  have oN' := oN.hs oC (wdN c k d ^^^ v) 14
  refine j_iload_n 1 dX5_hear_0 rfl (j_S1 dX5_hear_1 kX5_109 (c_isOffset ⟨fun _ _ _ => ?_, fun h => absurd rfl (h k hk)⟩))
  refine j_if_ne (tgt := 9) dX5_hear_4 rfl (fun _ => (j_iload_n 2 dX5_hear_9 rfl (j_S1 dX5_hear_10 kX5_161 (c_isByte ⟨fun _ _ _ => ?_, fun h => absurd rfl (h d hd)⟩)))) (fun h9 => absurd h9 (by decide))
  refine j_if_eq (tgt := 23) dX5_hear_13 rfl (fun h9 => absurd h9 (by decide)) (fun _ => (j_iload_n 3 dX5_hear_16 rfl (j_S1 dX5_hear_17 kX5_168 (c_isWord ⟨fun _ _ _ => ?_, fun h => absurd rfl (h v hv)⟩))))
  refine j_if_ne (tgt := 26) dX5_hear_20 rfl (fun _ => (j_aload_n 0 dX5_hear_26 rfl (j_getR (b := 15) dX5_hear_27 fX5_33 rfl (by first | assumption | rfl) (by first | assumption | rfl) (j_aload_n 0 dX5_hear_30 rfl (j_getR (b := 8) dX5_hear_31 fX5_26 rfl (by first | assumption | rfl) (by first | assumption | rfl) (j_V1 dX5_hear_34 kX5_200 (by first | assumption | rfl) (c_remember xA xN sA sN oN.1.2.1 (fun I1 fr hA => ?_)))))))) (fun h9 => absurd h9 (by decide))
  refine j_aload_n 0 dX5_hear_37 rfl (j_getR (b := 8) dX5_hear_38 fX5_26 rfl (by first | assumption | rfl) (by first | assumption | rfl) (j_aload_n 0 dX5_hear_41 rfl (j_getR (b := 3) dX5_hear_42 fX5_19 rfl (by first | assumption | rfl) (by first | assumption | rfl) (j_aload_n 0 dX5_hear_45 rfl (j_getR (b := 3) dX5_hear_46 fX5_19 rfl (by first | assumption | rfl) (by first | assumption | rfl) (j_iload_n 1 dX5_hear_49 rfl (j_iload_n 2 dX5_hear_50 rfl (j_V2 dX5_hear_51 kX5_164 (by first | assumption | rfl) (c_cWordOf xC (sC.fr (fun a _ _ => fr a (by omega))) hk hd ?_)))))))))
  refine j_iload_n 3 dX5_hear_54 rfl (j_ixor dX5_hear_55 (j_i2l dX5_hear_56 ?_))
  rw [fb_xorI, nI_l (by omega)]
  refine j_bipush (v := 14) dX5_hear_57 rfl (j_V3 dX5_hear_59 kX5_204 (by first | assumption | rfl) (c_hears (n := 14) xN xC (sC.fr (fun a _ _ => fr a (by omega))) (by decide) (rec_fr sN (fun j hj => fr _ (by omega))) oN.1 (by omega) (by omega) (fun V' hV' => ?_)))
  refine j_aload_n 0 dX5_hear_62 rfl (j_getR (b := 8) dX5_hear_63 fX5_26 rfl (by first | assumption | rfl) (by first | assumption | rfl) (j_V0 dX5_hear_66 kX5_208 (by first | assumption | rfl) (c_sync r1 (rec_wr hV') oN'.1.2.1 ?_)))
  refine j_iret dX5_hear_69 ?_
  exact hp _ (hs.now hA fr hV') (eqM.now fr)

theorem k_hear_u {g : GT} {Z : ZT} {I : IT} {L : LT} {Post : PT} {t : Nat → Nat} {n : Nat} {c : CT} {w : Nat} {ρ : RT} {A : Nat × Nat × (Nat → RT)} {K : (Nat → RT) × (Nat → Bool)} {E : (Nat → Int32) × (Nat → Nat) × (Nat → Nat) × Nat} {sd : Int64} {x y z : Int32} (hX : isX Z) (hs : CSt t n c w ρ A K E sd I L) (ho : OKs c w ρ A K E) (hx : ∀ j, j < 4 → x ≠ nI j) (hp : Post (some (.int (-1))) Z I L) : CM g 6 0 0 mX5_hear [.ref 0, .int x, .int y, .int z] Z I L Post := by
  obtain ⟨x0, y0, y1, y2, y3, y4, y5, y6, y7, y8, y9, xT, xC, xN, xA, b1, b2, b3, b4, b5, b6, t1, t2, t3, t4, e1, e2, e3, e4, e5, e6⟩ := id hX
  obtain ⟨sT, ⟨sC, s35, s37, s38⟩, sN, sA, sK, sE, sL⟩ := id hs
  obtain ⟨oC, oW, oN, oA, oK, oE⟩ := id ho
  obtain ⟨q1, q2, q3, q4⟩ := id xT
  obtain ⟨z1, z2, z3, z4, z5, z6, z7, z8, z9, z10, z11, z12, z13⟩ := id xC
  obtain ⟨r1, r2, r3, r4, r5, r6, r7, r8, r9, r10, r11, r12, r13, r14, r15, r16, r17, r18⟩ := id xN
  obtain ⟨a1, a2, a3, a4, a5, a6⟩ := id xA
  have l10 : zL Z 10 = 4 := r10
  have l11 : zL Z 11 = 4 := r12
  have l12 : zL Z 12 = 8 := r14
  have l13 : zL Z 13 = 8 := r16
  have l14 : zL Z 14 = 4 := r18
  refine CM_intro ?_
  refine j_iload_n 1 dX5_hear_0 rfl (j_S1 dX5_hear_1 kX5_109 (c_isOffset ⟨fun j hj e => absurd e (hx j hj), fun _ => ?_⟩))
  refine j_if_ne (tgt := 9) dX5_hear_4 rfl (fun h9 => absurd (by decide) h9) (fun _ => (j_iconst (v := -1) dX5_hear_7 rfl (j_iret dX5_hear_8 ?_)))
  exact hp

theorem k_hear_b {g : GT} {Z : ZT} {I : IT} {L : LT} {Post : PT} {t : Nat → Nat} {n : Nat} {c : CT} {w : Nat} {ρ : RT} {A : Nat × Nat × (Nat → RT)} {K : (Nat → RT) × (Nat → Bool)} {E : (Nat → Int32) × (Nat → Nat) × (Nat → Nat) × Nat} {sd : Int64} {k : Nat} {y z : Int32} (hX : isX Z) (hs : CSt t n c w ρ A K E sd I L) (ho : OKs c w ρ A K E) (hk : k < 4) (hy : ∀ j, j < 256 → y ≠ nI j) (hp : Post (some (.int (-2))) Z I L) : CM g 6 0 0 mX5_hear [.ref 0, .int (nI k), .int y, .int z] Z I L Post := by
  obtain ⟨x0, y0, y1, y2, y3, y4, y5, y6, y7, y8, y9, xT, xC, xN, xA, b1, b2, b3, b4, b5, b6, t1, t2, t3, t4, e1, e2, e3, e4, e5, e6⟩ := id hX
  obtain ⟨sT, ⟨sC, s35, s37, s38⟩, sN, sA, sK, sE, sL⟩ := id hs
  obtain ⟨oC, oW, oN, oA, oK, oE⟩ := id ho
  obtain ⟨q1, q2, q3, q4⟩ := id xT
  obtain ⟨z1, z2, z3, z4, z5, z6, z7, z8, z9, z10, z11, z12, z13⟩ := id xC
  obtain ⟨r1, r2, r3, r4, r5, r6, r7, r8, r9, r10, r11, r12, r13, r14, r15, r16, r17, r18⟩ := id xN
  obtain ⟨a1, a2, a3, a4, a5, a6⟩ := id xA
  have l10 : zL Z 10 = 4 := r10
  have l11 : zL Z 11 = 4 := r12
  have l12 : zL Z 12 = 8 := r14
  have l13 : zL Z 13 = 8 := r16
  have l14 : zL Z 14 = 4 := r18
  refine CM_intro ?_
  refine j_iload_n 1 dX5_hear_0 rfl (j_S1 dX5_hear_1 kX5_109 (c_isOffset ⟨fun _ _ _ => ?_, fun h => absurd rfl (h k hk)⟩))
  refine j_if_ne (tgt := 9) dX5_hear_4 rfl (fun _ => (j_iload_n 2 dX5_hear_9 rfl (j_S1 dX5_hear_10 kX5_161 (c_isByte ⟨fun j hj e => absurd e (hy j hj), fun _ => ?_⟩)))) (fun h9 => absurd h9 (by decide))
  refine j_if_eq (tgt := 23) dX5_hear_13 rfl (fun _ => (j_bipush (v := -2) dX5_hear_23 rfl (j_iret dX5_hear_25 ?_))) (fun h9 => absurd (by decide) h9)
  exact hp

theorem k_hear_c {g : GT} {Z : ZT} {I : IT} {L : LT} {Post : PT} {t : Nat → Nat} {n : Nat} {c : CT} {w : Nat} {ρ : RT} {A : Nat × Nat × (Nat → RT)} {K : (Nat → RT) × (Nat → Bool)} {E : (Nat → Int32) × (Nat → Nat) × (Nat → Nat) × Nat} {sd : Int64} {k d : Nat} {z : Int32} (hX : isX Z) (hs : CSt t n c w ρ A K E sd I L) (ho : OKs c w ρ A K E) (hk : k < 4) (hd : d < 256) (hz : ∀ j, j < 16384 → z ≠ nI j) (hp : Post (some (.int (-2))) Z I L) : CM g 6 0 0 mX5_hear [.ref 0, .int (nI k), .int (nI d), .int z] Z I L Post := by
  obtain ⟨x0, y0, y1, y2, y3, y4, y5, y6, y7, y8, y9, xT, xC, xN, xA, b1, b2, b3, b4, b5, b6, t1, t2, t3, t4, e1, e2, e3, e4, e5, e6⟩ := id hX
  obtain ⟨sT, ⟨sC, s35, s37, s38⟩, sN, sA, sK, sE, sL⟩ := id hs
  obtain ⟨oC, oW, oN, oA, oK, oE⟩ := id ho
  obtain ⟨q1, q2, q3, q4⟩ := id xT
  obtain ⟨z1, z2, z3, z4, z5, z6, z7, z8, z9, z10, z11, z12, z13⟩ := id xC
  obtain ⟨r1, r2, r3, r4, r5, r6, r7, r8, r9, r10, r11, r12, r13, r14, r15, r16, r17, r18⟩ := id xN
  obtain ⟨a1, a2, a3, a4, a5, a6⟩ := id xA
  have l10 : zL Z 10 = 4 := r10
  have l11 : zL Z 11 = 4 := r12
  have l12 : zL Z 12 = 8 := r14
  have l13 : zL Z 13 = 8 := r16
  have l14 : zL Z 14 = 4 := r18
  refine CM_intro ?_
  refine j_iload_n 1 dX5_hear_0 rfl (j_S1 dX5_hear_1 kX5_109 (c_isOffset ⟨fun _ _ _ => ?_, fun h => absurd rfl (h k hk)⟩))
  refine j_if_ne (tgt := 9) dX5_hear_4 rfl (fun _ => (j_iload_n 2 dX5_hear_9 rfl (j_S1 dX5_hear_10 kX5_161 (c_isByte ⟨fun _ _ _ => ?_, fun h => absurd rfl (h d hd)⟩)))) (fun h9 => absurd h9 (by decide))
  refine j_if_eq (tgt := 23) dX5_hear_13 rfl (fun h9 => absurd h9 (by decide)) (fun _ => (j_iload_n 3 dX5_hear_16 rfl (j_S1 dX5_hear_17 kX5_168 (c_isWord ⟨fun j hj e => absurd e (hz j hj), fun _ => ?_⟩))))
  refine j_if_ne (tgt := 26) dX5_hear_20 rfl (fun h9 => absurd (by decide) h9) (fun _ => (j_bipush (v := -2) dX5_hear_23 rfl (j_iret dX5_hear_25 ?_)))
  exact hp

theorem k_group {g : GT} {Z : ZT} {I : IT} {L : LT} {Post : PT} {t : Nat → Nat} {n : Nat} {c : CT} {w : Nat} {ρ : RT} {A : Nat × Nat × (Nat → RT)} {K : (Nat → RT) × (Nat → Bool)} {E : (Nat → Int32) × (Nat → Nat) × (Nat → Nat) × Nat} {sd : Int64} {G : Int32} {k : Nat} (hX : isX Z) (hs : CSt t n c w ρ A K E sd I L) (ho : OKs c w ρ A K E) (h1 : 1 ≤ k) (h9 : k ≤ 9) (hp : ∀ I', CSt t n c w (giF c G k ρ) (acA A ρ) K E sd I' L → eqM I I' → Post (some (.int (giF c G k ρ 10 + giF c G k ρ 11 - (ρ 10 + ρ 11)))) Z I' L) : CM g 7 0 0 mX5_group [.ref 0, .int G, .int (nI k)] Z I L Post := by
  obtain ⟨x0, y0, y1, y2, y3, y4, y5, y6, y7, y8, y9, xT, xC, xN, xA, b1, b2, b3, b4, b5, b6, t1, t2, t3, t4, e1, e2, e3, e4, e5, e6⟩ := id hX
  obtain ⟨sT, ⟨sC, s35, s37, s38⟩, sN, sA, sK, sE, sL⟩ := id hs
  obtain ⟨oC, oW, oN, oA, oK, oE⟩ := id ho
  obtain ⟨q1, q2, q3, q4⟩ := id xT
  obtain ⟨z1, z2, z3, z4, z5, z6, z7, z8, z9, z10, z11, z12, z13⟩ := id xC
  obtain ⟨r1, r2, r3, r4, r5, r6, r7, r8, r9, r10, r11, r12, r13, r14, r15, r16, r17, r18⟩ := id xN
  obtain ⟨a1, a2, a3, a4, a5, a6⟩ := id xA
  have l10 : zL Z 10 = 4 := r10
  have l11 : zL Z 11 = 4 := r12
  have l12 : zL Z 12 = 8 := r14
  have l13 : zL Z 13 = 8 := r16
  have l14 : zL Z 14 = 4 := r18
  refine CM_intro ?_
  refine j_iload_n 2 dX5_group_0 rfl (j_iconst (v := 1) dX5_group_1 rfl (j_icmp_lt (tgt := 11) dX5_group_2 rfl (fun g1 => ?_) (fun g1 => ?_)))
  · exact absurd g1 (nI_nlt (b := 1) h1 (by omega))
  · refine j_iload_n 2 dX5_group_5 rfl (j_bipush (v := 9) dX5_group_6 rfl (j_icmp_le (tgt := 14) dX5_group_8 rfl (fun g2 => ?_) (fun g2 => ?_)))
    · refine j_aload_n 0 dX5_group_14 rfl (j_getR (b := 15) dX5_group_15 fX5_33 rfl (by first | assumption | rfl) (by first | assumption | rfl) (j_aload_n 0 dX5_group_18 rfl (j_getR (b := 8) dX5_group_19 fX5_26 rfl (by first | assumption | rfl) (by first | assumption | rfl) (j_V1 dX5_group_22 kX5_200 (by first | assumption | rfl) (c_remember xA xN sA sN oN.1.2.1 (fun I1 fr hA => ?_))))))
      have sN1 := rec_fr (I' := I1) sN (fun j hj => fr _ (by omega))
      refine j_aload_n 0 dX5_group_25 rfl (j_getR (b := 8) dX5_group_26 fX5_26 rfl (by first | assumption | rfl) (by first | assumption | rfl) (j_getI dX5_group_29 fX5_211 (by first | assumption | rfl) (j_aload_n 0 dX5_group_32 rfl (j_getR (b := 8) dX5_group_33 fX5_26 rfl (by first | assumption | rfl) (by first | assumption | rfl) (j_getI dX5_group_36 fX5_214 (by first | assumption | rfl) (j_iadd dX5_group_39 (j_istore_n (lv' := [(3, _), (0, _), (1, _), (2, _)]) dX5_group_40 rfl ?_)))))))
      rw [show I1 8 9 = ρ 10 from sN1.1.2.2.2.2.2.2.2.1, show I1 8 10 = ρ 11 from sN1.1.2.2.2.2.2.2.2.2.1]
      refine j_aload_n 1 dX5_group_41 rfl (j_aload_n 1 dX5_group_42 rfl (j_getR (b := 8) dX5_group_43 fX5_26 rfl (by first | assumption | rfl) (by first | assumption | rfl) (j_iload_n 2 dX5_group_46 rfl (j_iload_n 3 dX5_group_47 rfl (j_V3 dX5_group_48 kX5_217 (by first | assumption | rfl) (c_hearGroups x0 y1 xN xC (sC.fr (fun a _ _ => fr a (by omega))) oC (by decide) sN1 oN h9 (fun V' hV' => ?_)))))))
      refine j_aload_n 1 dX5_group_51 rfl (j_getR (b := 8) dX5_group_52 fX5_26 rfl (by first | assumption | rfl) (by first | assumption | rfl) (j_getI dX5_group_55 fX5_211 (by first | assumption | rfl) (j_aload_n 1 dX5_group_58 rfl (j_getR (b := 8) dX5_group_59 fX5_26 rfl (by first | assumption | rfl) (by first | assumption | rfl) (j_getI dX5_group_62 fX5_214 (by first | assumption | rfl) ?_)))))
      rw [show wr I1 8 V' 8 9 = giF c G k ρ 10 from hV'.1.2.2.2.2.2.2.2.1, show wr I1 8 V' 8 10 = giF c G k ρ 11 from hV'.1.2.2.2.2.2.2.2.2.1]
      refine j_iadd dX5_group_65 (j_iload_n 0 dX5_group_66 rfl (j_isub dX5_group_67 (j_iret dX5_group_68 ?_)))
      exact hp _ (hs.now hA fr hV') (eqM.now fr)
    · exact absurd (nI_le (b := 9) h9 (by decide)) g2

theorem k_group_b {g : GT} {Z : ZT} {I : IT} {L : LT} {Post : PT} {t : Nat → Nat} {n : Nat} {c : CT} {w : Nat} {ρ : RT} {A : Nat × Nat × (Nat → RT)} {K : (Nat → RT) × (Nat → Bool)} {E : (Nat → Int32) × (Nat → Nat) × (Nat → Nat) × Nat} {sd : Int64} {G x : Int32} (hX : isX Z) (hs : CSt t n c w ρ A K E sd I L) (ho : OKs c w ρ A K E) (hx : ∀ k, 1 ≤ k → k ≤ 9 → x ≠ nI k) (hp : Post (some (.int (-2))) Z I L) : CM g 7 0 0 mX5_group [.ref 0, .int G, .int x] Z I L Post := by
  obtain ⟨x0, y0, y1, y2, y3, y4, y5, y6, y7, y8, y9, xT, xC, xN, xA, b1, b2, b3, b4, b5, b6, t1, t2, t3, t4, e1, e2, e3, e4, e5, e6⟩ := id hX
  obtain ⟨sT, ⟨sC, s35, s37, s38⟩, sN, sA, sK, sE, sL⟩ := id hs
  obtain ⟨oC, oW, oN, oA, oK, oE⟩ := id ho
  obtain ⟨q1, q2, q3, q4⟩ := id xT
  obtain ⟨z1, z2, z3, z4, z5, z6, z7, z8, z9, z10, z11, z12, z13⟩ := id xC
  obtain ⟨r1, r2, r3, r4, r5, r6, r7, r8, r9, r10, r11, r12, r13, r14, r15, r16, r17, r18⟩ := id xN
  obtain ⟨a1, a2, a3, a4, a5, a6⟩ := id xA
  have l10 : zL Z 10 = 4 := r10
  have l11 : zL Z 11 = 4 := r12
  have l12 : zL Z 12 = 8 := r14
  have l13 : zL Z 13 = 8 := r16
  have l14 : zL Z 14 = 4 := r18
  refine CM_intro ?_
  refine j_iload_n 2 dX5_group_0 rfl (j_iconst (v := 1) dX5_group_1 rfl (j_icmp_lt (tgt := 11) dX5_group_2 rfl (fun g1 => ?_) (fun g1 => ?_)))
  · refine j_bipush (v := -2) dX5_group_11 rfl (j_iret dX5_group_13 ?_)
    exact hp
  · refine j_iload_n 2 dX5_group_5 rfl (j_bipush (v := 9) dX5_group_6 rfl (j_icmp_le (tgt := 14) dX5_group_8 rfl (fun g2 => ?_) (fun g2 => ?_)))
    · obtain ⟨k, hk1, hk2, ek⟩ := bt_t (a := 1) (b := 9) (by decide) (i_nlt (k := 1) (by decide) g1) (i_le (k := 9) (by decide) g2)
      exact absurd ek (hx k hk1 hk2)
    · refine j_bipush (v := -2) dX5_group_11 rfl (j_iret dX5_group_13 ?_)
      exact hp

theorem k_reset {g : GT} {Z : ZT} {I : IT} {L : LT} {Post : PT} {t : Nat → Nat} {n : Nat} {c : CT} {w : Nat} {ρ : RT} {A : Nat × Nat × (Nat → RT)} {K : (Nat → RT) × (Nat → Bool)} {E : (Nat → Int32) × (Nat → Nat) × (Nat → Nat) × Nat} {sd : Int64}  (hX : isX Z) (hs : CSt t n c w ρ A K E sd I L) (ho : OKs c w ρ A K E)  (hp : ∀ I', CSt t n c w (rsF ρ) (acA A ρ) K E sd I' L → eqM I I' → Post (some (.int (ρ 3))) Z I' L) : CM g 4 0 0 mX5_reset [.ref 0] Z I L Post := by
  obtain ⟨x0, y0, y1, y2, y3, y4, y5, y6, y7, y8, y9, xT, xC, xN, xA, b1, b2, b3, b4, b5, b6, t1, t2, t3, t4, e1, e2, e3, e4, e5, e6⟩ := id hX
  obtain ⟨sT, ⟨sC, s35, s37, s38⟩, sN, sA, sK, sE, sL⟩ := id hs
  obtain ⟨oC, oW, oN, oA, oK, oE⟩ := id ho
  obtain ⟨q1, q2, q3, q4⟩ := id xT
  obtain ⟨z1, z2, z3, z4, z5, z6, z7, z8, z9, z10, z11, z12, z13⟩ := id xC
  obtain ⟨r1, r2, r3, r4, r5, r6, r7, r8, r9, r10, r11, r12, r13, r14, r15, r16, r17, r18⟩ := id xN
  obtain ⟨a1, a2, a3, a4, a5, a6⟩ := id xA
  have l10 : zL Z 10 = 4 := r10
  have l11 : zL Z 11 = 4 := r12
  have l12 : zL Z 12 = 8 := r14
  have l13 : zL Z 13 = 8 := r16
  have l14 : zL Z 14 = 4 := r18
  refine CM_intro ?_
  refine j_aload_n 0 dX5_reset_0 rfl (j_getR (b := 8) dX5_reset_1 fX5_26 rfl (by first | assumption | rfl) (by first | assumption | rfl) (j_V0 dX5_reset_4 kX5_208 (by first | assumption | rfl) (c_sync r1 sN oN.1.2.1 ?_)))
  refine j_istore_n (lv' := [(1, _), (0, _)]) dX5_reset_7 rfl (j_aload_n 1 dX5_reset_8 rfl (j_getR (b := 15) dX5_reset_9 fX5_33 rfl (by first | assumption | rfl) (by first | assumption | rfl) (j_aload_n 1 dX5_reset_12 rfl (j_getR (b := 8) dX5_reset_13 fX5_26 rfl (by first | assumption | rfl) (by first | assumption | rfl) (j_V1 dX5_reset_16 kX5_200 (by first | assumption | rfl) (c_remember xA xN sA sN oN.1.2.1 (fun I1 fr hA => ?_)))))))
  refine j_aload_n 1 dX5_reset_19 rfl (j_getR (b := 8) dX5_reset_20 fX5_26 rfl (by first | assumption | rfl) (by first | assumption | rfl) (j_V0 dX5_reset_23 kX5_221 (by first | assumption | rfl) (c_over xN (rec_fr sN (fun j hj => fr _ (by omega))) oN.1.2.1 (fun V' hV' => ?_))))
  refine j_iload_n 0 dX5_reset_26 rfl (j_iret dX5_reset_27 ?_)
  exact hp _ (hs.now hA fr hV') (eqM.now fr)

theorem k_undo {g : GT} {Z : ZT} {I : IT} {L : LT} {Post : PT} {t : Nat → Nat} {n : Nat} {c : CT} {w : Nat} {ρ : RT} {A : Nat × Nat × (Nat → RT)} {K : (Nat → RT) × (Nat → Bool)} {E : (Nat → Int32) × (Nat → Nat) × (Nat → Nat) × Nat} {sd : Int64}  (hX : isX Z) (hs : CSt t n c w ρ A K E sd I L) (ho : OKs c w ρ A K E) (h0 : 0 < A.2.1) (hp : ∀ I', CSt t n c w (A.2.2 ((A.1 + 13) % 14)) ((A.1 + 13) % 14, A.2.1 - 1, A.2.2) K E sd I' L → eqM I I' → Post (some (.int (nI (A.2.1 - 1)))) Z I' L) : CM g 4 0 0 mX5_undo [.ref 0] Z I L Post := by
  obtain ⟨x0, y0, y1, y2, y3, y4, y5, y6, y7, y8, y9, xT, xC, xN, xA, b1, b2, b3, b4, b5, b6, t1, t2, t3, t4, e1, e2, e3, e4, e5, e6⟩ := id hX
  obtain ⟨sT, ⟨sC, s35, s37, s38⟩, sN, sA, sK, sE, sL⟩ := id hs
  obtain ⟨oC, oW, oN, oA, oK, oE⟩ := id ho
  obtain ⟨q1, q2, q3, q4⟩ := id xT
  obtain ⟨z1, z2, z3, z4, z5, z6, z7, z8, z9, z10, z11, z12, z13⟩ := id xC
  obtain ⟨r1, r2, r3, r4, r5, r6, r7, r8, r9, r10, r11, r12, r13, r14, r15, r16, r17, r18⟩ := id xN
  obtain ⟨a1, a2, a3, a4, a5, a6⟩ := id xA
  have l10 : zL Z 10 = 4 := r10
  have l11 : zL Z 11 = 4 := r12
  have l12 : zL Z 12 = 8 := r14
  have l13 : zL Z 13 = 8 := r16
  have l14 : zL Z 14 = 4 := r18
  refine CM_intro ?_
  refine j_aload_n 0 dX5_undo_0 rfl (j_getR (b := 15) dX5_undo_1 fX5_33 rfl (by first | assumption | rfl) (by first | assumption | rfl) (j_aload_n 0 dX5_undo_4 rfl (j_getR (b := 8) dX5_undo_5 fX5_26 rfl (by first | assumption | rfl) (by first | assumption | rfl) (j_V1 dX5_undo_8 kX5_224 (by first | assumption | rfl) (c_takeBack xA xN sA (fun j hj => (oA j hj).1.2.1) (fun z => absurd z (by omega)) (fun _ I' fr hA hR => ?_))))))
  refine j_if_eq (tgt := 24) dX5_undo_11 rfl (fun h9 => absurd h9 (by decide)) (fun _ => (j_aload_n 0 dX5_undo_14 rfl (j_getR (b := 15) dX5_undo_15 fX5_33 rfl (by first | assumption | rfl) (by first | assumption | rfl) (j_getI dX5_undo_18 fX5_96 (by first | assumption | rfl) (j_goto (tgt := 26) dX5_undo_21 rfl (j_iret dX5_undo_26 ?_))))))
  rw [show I' 15 2 = nI (A.2.1 - 1) from hA.2.2.2.1]
  refine hp I' ⟨sT.fr (fr 1 (by omega)) (fr 2 (by omega)), cC.fr ⟨sC, s35, s37, s38⟩ (fun a _ _ => fr a (by omega)), hR, hA, sK.fr (fun a _ _ => fr a (by omega)), sE.fr (by rw [fr 0 (by omega)]) (fun a _ _ => fr a (by omega)), sL⟩ (fun a ha => fr a (by omega))

theorem k_undo_l {g : GT} {Z : ZT} {I : IT} {L : LT} {Post : PT} {t : Nat → Nat} {n : Nat} {c : CT} {w : Nat} {ρ : RT} {A : Nat × Nat × (Nat → RT)} {K : (Nat → RT) × (Nat → Bool)} {E : (Nat → Int32) × (Nat → Nat) × (Nat → Nat) × Nat} {sd : Int64}  (hX : isX Z) (hs : CSt t n c w ρ A K E sd I L) (ho : OKs c w ρ A K E) (h0 : A.2.1 = 0) (hp : Post (some (.int (-3))) Z I L) : CM g 4 0 0 mX5_undo [.ref 0] Z I L Post := by
  obtain ⟨x0, y0, y1, y2, y3, y4, y5, y6, y7, y8, y9, xT, xC, xN, xA, b1, b2, b3, b4, b5, b6, t1, t2, t3, t4, e1, e2, e3, e4, e5, e6⟩ := id hX
  obtain ⟨sT, ⟨sC, s35, s37, s38⟩, sN, sA, sK, sE, sL⟩ := id hs
  obtain ⟨oC, oW, oN, oA, oK, oE⟩ := id ho
  obtain ⟨q1, q2, q3, q4⟩ := id xT
  obtain ⟨z1, z2, z3, z4, z5, z6, z7, z8, z9, z10, z11, z12, z13⟩ := id xC
  obtain ⟨r1, r2, r3, r4, r5, r6, r7, r8, r9, r10, r11, r12, r13, r14, r15, r16, r17, r18⟩ := id xN
  obtain ⟨a1, a2, a3, a4, a5, a6⟩ := id xA
  have l10 : zL Z 10 = 4 := r10
  have l11 : zL Z 11 = 4 := r12
  have l12 : zL Z 12 = 8 := r14
  have l13 : zL Z 13 = 8 := r16
  have l14 : zL Z 14 = 4 := r18
  refine CM_intro ?_
  refine j_aload_n 0 dX5_undo_0 rfl (j_getR (b := 15) dX5_undo_1 fX5_33 rfl (by first | assumption | rfl) (by first | assumption | rfl) (j_aload_n 0 dX5_undo_4 rfl (j_getR (b := 8) dX5_undo_5 fX5_26 rfl (by first | assumption | rfl) (by first | assumption | rfl) (j_V1 dX5_undo_8 kX5_224 (by first | assumption | rfl) (c_takeBack xA xN sA (fun j hj => (oA j hj).1.2.1) (fun _ => ?_) (fun z => absurd z (by omega)))))))
  refine j_if_eq (tgt := 24) dX5_undo_11 rfl (fun _ => (j_bipush (v := -3) dX5_undo_24 rfl (j_iret dX5_undo_26 ?_))) (fun h9 => absurd (by decide) h9)
  exact hp

