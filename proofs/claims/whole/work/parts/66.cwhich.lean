def bsN (P : Nat → Bool) : Nat → Nat
  | 0 => 0
  | k + 1 => bsN P k ||| (if P k then 2 ^ k else 0)
theorem bsN_lt (P : Nat → Bool) : ∀ k, bsN P k < 2 ^ k
  | 0 => Nat.zero_lt_one
  | k + 1 => by
    have h := bsN_lt P k
    show bsN P k ||| (if P k then 2 ^ k else 0) < 2 ^ (k + 1)
    refine Nat.or_lt_two_pow (Nat.lt_of_lt_of_le h (Nat.pow_le_pow_right (by decide) (by omega))) ?_
    split
    · exact Nat.pow_lt_pow_right (by decide) (by omega)
    · exact Nat.two_pow_pos _
theorem bsN_bit (P : Nat → Bool) (i : Nat) : ∀ k, (bsN P k).testBit i = (decide (i < k) && P i)
  | 0 => by show (0 : Nat).testBit i = _; rw [Nat.zero_testBit]; simp
  | k + 1 => by
    show (bsN P k ||| (if P k then 2 ^ k else 0)).testBit i = _
    rw [Nat.testBit_or, bsN_bit P i k]
    by_cases e : i = k
    · subst e
      cases h : P i
      · simp
      · simp [Nat.testBit_two_pow_self]
    · have hx : (if P k then 2 ^ k else 0).testBit i = false := by
        split
        · rw [Nat.testBit_two_pow]; exact decide_eq_false (Ne.symm e)
        · exact Nat.zero_testBit i
      rw [hx, Bool.or_false]
      congr 1
      by_cases h : i < k
      · rw [decide_eq_true h, decide_eq_true (by omega)]
      · rw [decide_eq_false h, decide_eq_false (by omega)]
noncomputable def fiB (c : CT) (ρ : RT) (E : (Nat → Int32) × (Nat → Nat) × (Nat → Nat) × Nat) (i p : Nat) : Bool := decide (hsF c 56 ρ (rtN c (E.1 i) 0 4 ^^^ 2 ^ (55 - p)) (10 + E.2.1 i) = ρ (10 + E.2.1 i) + nI (E.2.2.1 i))
noncomputable def alB (c : CT) (ρ : RT) (E : (Nat → Int32) × (Nat → Nat) × (Nat → Nat) × Nat) : Nat → Nat → Bool
  | 0, _ => true
  | j + 1, p => alB c ρ E j p && fiB c ρ E j p
theorem and1L (a : Nat) : lN a &&& 1 = lN (a % 2) := by
  apply Int64.toBitVec_inj.1
  show BitVec.ofNat 64 a &&& BitVec.ofNat 64 1 = BitVec.ofNat 64 (a % 2)
  apply BitVec.eq_of_toNat_eq
  rw [BitVec.toNat_and, BitVec.toNat_ofNat, BitVec.toNat_ofNat, BitVec.toNat_ofNat, show 1 % 2 ^ 64 = 1 from rfl, Nat.and_one_is_mod]
  omega
theorem hs_turn (c : CT) (ρ : RT) (R : Nat) {p : Nat} (hp : p < 56) : hsF c 56 ρ (R ^^^ 2 ^ (55 - p)) = hsF c (55 - p + 1) (hsF c p ρ (R / 2 ^ (56 - p))) (R ^^^ 2 ^ (55 - p)) := by
  have h := hsF_split c (55 - p + 1) (R ^^^ 2 ^ (55 - p)) p ρ
  rw [show p + (55 - p + 1) = 56 by omega] at h
  rw [h]
  have e : hsF c p ρ ((R ^^^ 2 ^ (55 - p)) / 2 ^ (55 - p + 1)) = hsF c p ρ (R / 2 ^ (56 - p)) := by
    refine hsF_cong c _ _ p ρ (fun i hi => ?_)
    rw [bit_eq, bit_eq, Nat.testBit_div_two_pow, Nat.testBit_div_two_pow, Nat.testBit_xor, Nat.testBit_two_pow, show decide (55 - p = i + (55 - p + 1)) = false from decide_eq_false (by omega), Bool.xor_false, show i + (55 - p + 1) = i + (56 - p) by omega]
  rw [e]
theorem hs_one (c : CT) (ρ : RT) (R : Nat) {p : Nat} (hp : p < 56) : hsF c (p + 1) ρ (R / 2 ^ (56 - (p + 1))) = hsF c 1 (hsF c p ρ (R / 2 ^ (56 - p))) (R / 2 ^ (55 - p)) := by
  have h := hsF_split c 1 (R / 2 ^ (55 - p)) p ρ
  rw [show 56 - (p + 1) = 55 - p by omega, h]
  congr 2
  rw [Nat.div_div_eq_div_mul, ← Nat.pow_add, show 55 - p + 1 = 56 - p by omega]
theorem c_placesFitting {g : GT} {Z : ZT} {I : IT} {L : LT} {Post : PT} {ρ : RT} {c : CT} {E : (Nat → Int32) × (Nat → Nat) × (Nat → Nat) × Nat} {i : Nat} {P : Nat → Bool} (hX : isX Z) (sC : CC I c) (oC : okC c) (sN : REC (vw I 8) ρ) (oN : OKz c ρ) (sE : cSe I E) (hi : i < 4) (hE : E.2.1 i ≤ 2) (hp : ∀ I', (∀ a, a < 135 ∨ 149 ≤ a → I' a = I a) → Post (some (.long (lN (bsN (fun p => P p && fiB c ρ E i p) 56)))) Z I' L) : CM g 6 0 0 mX5_placesFitting [.ref 0, .int (nI i), .long (lN (bsN P 56))] Z I L Post := by
  obtain ⟨x0, y0, y1, y2, y3, y4, y5, y6, y7, y8, y9, xT, xC, xN, xA, b1, b2, b3, b4, b5, b6, t1, t2, t3, t4, e1, e2, e3, e4, e5, e6⟩ := id hX
  have q0 := (t4 0 (by decide)).1
  have q1 := (t4 1 (by decide)).1
  have q2 := xN.1
  have k2 := xC.1
  have s0 := t3 0 (by decide)
  have s1 := t3 1 (by decide)
  have hlt := rt_lt (G := E.1 i) (t := 0) oC.2.2.1 oC.2.2.2.1 4 (Nat.le_refl 4)
  have hbs := bsN_lt P 56
  refine CM_intro ?_
  have loop : ∀ (m p : Nat) (I1 : IT), p + m = 56 → (∀ a, a < 135 ∨ 149 ≤ a → I1 a = I a) → REC (vw I1 135) (hsF c p ρ (rtN c (E.1 i) 0 4 / 2 ^ (56 - p))) → JW g mX5_placesFitting (rmO 6 0 0) (QM Post 0 0) 68 [(11, .int (nI p)), (9, .long (lN (bsN (fun p => P p && fiB c ρ E i p) p))), (8, .ref 142), (7, .ref 135), (6, .int (ρ (10 + E.2.1 i) + nI (E.2.2.1 i))), (4, .long (lN (rtN c (E.1 i) 0 4))), (0, .ref 0), (1, .int (nI i)), (2, .long (lN (bsN P 56)))] [] 0 0 Z I1 L := by
    intro m
    induction m with
    | zero =>
      intro p I1 hm e hV
      have : p = 56 := by omega
      subst this
      refine j_iload 0 dX5_placesFitting_68 rfl (j_bipush (v := 56) dX5_placesFitting_70 rfl (j_icmp_ge (tgt := 166) dX5_placesFitting_72 rfl (fun g1 => ?_) (fun g1 => ?_)))
      · refine j_lload 1 dX5_placesFitting_166 rfl (j_lret dX5_placesFitting_168 ?_)
        exact hp I1 e
      · exact absurd (by decide) g1
    | succ m ih =>
      intro p I1 hm e hV
      have hcc : CC I1 c := sC.fr (fun a _ _ => e a (by omega))
      have ho1 := OKz.hs oC (rtN c (E.1 i) 0 4 / 2 ^ (56 - p)) p oN
      have h2p : (1 : Nat) * 2 ^ (55 - p) < 2 ^ 56 := by
        rw [Nat.one_mul]
        exact Nat.pow_lt_pow_right (by decide) (by omega)
      have h9 : bsN (fun p => P p && fiB c ρ E i p) (p + 1) = bsN (fun p => P p && fiB c ρ E i p) p ||| (if P p && fiB c ρ E i p then 2 ^ p else 0) := rfl
      have next : ∀ I2 : IT, (∀ a, a < 135 ∨ 149 ≤ a → I2 a = I a) → REC (vw I2 135) (hsF c p ρ (rtN c (E.1 i) 0 4 / 2 ^ (56 - p))) → JW g mX5_placesFitting (rmO 6 0 0) (QM Post 0 0) 145 [(11, .int (nI p)), (9, .long (lN (bsN (fun p => P p && fiB c ρ E i p) (p + 1)))), (12, .int (nI (55 - p))), (8, .ref 142), (7, .ref 135), (6, .int (ρ (10 + E.2.1 i) + nI (E.2.2.1 i))), (4, .long (lN (rtN c (E.1 i) 0 4))), (0, .ref 0), (1, .int (nI i)), (2, .long (lN (bsN P 56)))] [] 0 0 Z I2 L := by
        intro I2 e2 hV2
        refine j_aload 4 dX5_placesFitting_145 rfl (j_aload_n 7 dX5_placesFitting_147 rfl (j_getR (b := 3) dX5_placesFitting_148 fX5_19 rfl (by first | assumption | rfl) (by first | assumption | rfl) (j_lload 6 dX5_placesFitting_151 rfl (j_iload 2 dX5_placesFitting_153 rfl (j_lshr dX5_placesFitting_155 ?_)))))
        rw [shrL (by omega) (by omega)]
        refine j_iconst (v := 1) dX5_placesFitting_156 rfl (j_V3 dX5_placesFitting_157 kX5_204 (by first | assumption | rfl) (c_hears (n := 1) (t4 0 (by decide)) xC (sC.fr (fun a _ _ => e2 a (by omega))) (by decide) hV2 ho1.1 (by decide) (Nat.lt_of_le_of_lt (Nat.div_le_self _ _) (by omega)) (fun V3 hV3 => ?_)))
        refine j_iinc (y := 1) (lv' := [(11, _), (9, _), (12, _), (8, _), (7, _), (6, _), (4, _), (0, _), (1, _), (2, _)]) 0 dX5_placesFitting_160 rfl rfl rfl (j_goto (tgt := 68) dX5_placesFitting_163 rfl ?_)
        rw [nI_1]
        refine JW.locals [0, 1, 3, 4, 5, 6, 7, 8, 9] rfl (ih (p + 1) _ (by omega) (fun a ha => by rw [wr_n (by omega)]; exact e2 a ha) ?_)
        rw [hs_one c ρ _ (by omega)]
        exact rec_wr hV3
      refine j_iload 0 dX5_placesFitting_68 rfl (j_bipush (v := 56) dX5_placesFitting_70 rfl (j_icmp_ge (tgt := 166) dX5_placesFitting_72 rfl (fun g1 => ?_) (fun g1 => ?_)))
      · exact absurd g1 (nI_ge (b := 56) (by omega) (by decide))
      · refine j_bipush (v := 55) dX5_placesFitting_75 rfl (j_iload 0 dX5_placesFitting_77 rfl (j_isub dX5_placesFitting_79 ?_))
        rw [show (55 : Int32) - nI p = nI (55 - p) from pk_sub (a := 55) (by omega)]
        refine j_istore (lv' := [(12, _), (11, _), (9, _), (8, _), (7, _), (6, _), (4, _), (0, _), (1, _), (2, _)]) dX5_placesFitting_80 rfl (j_lload_n 9 dX5_placesFitting_82 rfl (j_iload 1 dX5_placesFitting_83 rfl (j_lshr dX5_placesFitting_85 (j_lconst (v := 1) dX5_placesFitting_86 rfl (j_land dX5_placesFitting_87 (j_lconst (v := 0) dX5_placesFitting_88 rfl ?_))))))
        rw [shrL (by omega) (by omega), and1L, bit_eq, bsN_bit, decide_eq_true (show p < 56 by omega), Bool.true_and]
        refine j_lcmp dX5_placesFitting_89 (j_if_eq (tgt := 145) dX5_placesFitting_90 rfl (fun g2 => ?_) (fun g2 => ?_))
        · have hP : P p = false := by
            cases h : P p with
            | false => rfl
            | true =>
              rw [h] at g2
              exact absurd g2 (by decide)
          rw [hP, Bool.false_and, if_neg (show ¬ (false = true) by decide), Nat.or_zero] at h9
          have := next I1 e hV
          rw [h9] at this
          exact JW.locals [1, 2, 0, 3, 4, 5, 6, 7, 8, 9] rfl this
        · have hP : P p = true := by
            cases h : P p with
            | true => rfl
            | false =>
              rw [h] at g2
              exact absurd rfl g2
          rw [hP, Bool.true_and] at h9
          refine j_aload 3 dX5_placesFitting_93 rfl (j_aload 4 dX5_placesFitting_95 rfl (j_V1 dX5_placesFitting_97 kX5_266 (by first | assumption | rfl) (c_copy (t4 1 (by decide)) (t4 0 (by decide)) (by decide) hV ho1.1.2.1 (fun V1 hV1 => ?_))))
          refine j_aload 3 dX5_placesFitting_100 rfl (j_aload_n 7 dX5_placesFitting_102 rfl (j_getR (b := 3) dX5_placesFitting_103 fX5_19 rfl (by first | assumption | rfl) (by first | assumption | rfl) (j_lload 6 dX5_placesFitting_106 rfl (j_lconst (v := 1) dX5_placesFitting_108 rfl (j_iload 0 dX5_placesFitting_109 rfl (j_lshl dX5_placesFitting_111 (j_lxor dX5_placesFitting_112 (j_iload 0 dX5_placesFitting_113 rfl (j_iconst (v := 1) dX5_placesFitting_115 rfl (j_iadd dX5_placesFitting_116 ?_))))))))))
          rw [show (1 : Int64) = lN 1 from rfl, wb_shl _ (by omega), fb_xorL, Nat.one_mul, nI_1]
          rw [Nat.one_mul] at h2p
          have hxl : rtN c (E.1 i) 0 4 ^^^ 2 ^ (55 - p) < 2 ^ 56 := Nat.xor_lt_two_pow hlt h2p
          refine j_V3 dX5_placesFitting_117 kX5_204 (by first | assumption | rfl) (c_hears (n := 55 - p + 1) (t4 1 (by decide)) xC (hcc.fr (fun a _ _ => wr_n (by omega))) (by decide) (rec_wr hV1) ho1.1 (by omega) (by omega) (fun V2 hV2 => ?_))
          rw [← hs_turn c ρ _ (by omega)] at hV2
          rw [wr_wr]
          have e3 : ∀ a, a < 135 ∨ 149 ≤ a → wr I1 142 V2 a = I a := fun a ha => by rw [wr_n (by omega)]; exact e a ha
          have hV4 : REC (vw (wr I1 142 V2) 135) (hsF c p ρ (rtN c (E.1 i) 0 4 / 2 ^ (56 - p))) := rec_fr hV (fun j hj => wr_n (by omega))
          have n9 := next _ e3 hV4
          refine j_aload 3 dX5_placesFitting_120 rfl (j_aload_n 7 dX5_placesFitting_122 rfl (j_getR (b := 119) dX5_placesFitting_123 fX5_52 rfl (by first | assumption | rfl) (by first | assumption | rfl) (j_iload_n 8 dX5_placesFitting_126 rfl (j_iaload _ dX5_placesFitting_127 (by first | assumption | rfl) (by first | assumption | rfl) (by omega) ?_))))
          rw [e3 119 (by omega), (sE.2 i hi).2.1]
          refine j_V1 dX5_placesFitting_128 kX5_293 (by first | assumption | rfl) (c_cnt (w := E.2.1 i) q1 (rec_wr hV2) hE ?_)
          refine j_iload 5 dX5_placesFitting_131 rfl (j_icmp_ne (tgt := 145) dX5_placesFitting_133 rfl (fun g3 => ?_) (fun g3 => ?_))
          · rw [show fiB c ρ E i p = false from decide_eq_false g3, if_neg (show ¬ (false = true) by decide), Nat.or_zero] at h9
            rw [h9] at n9
            exact JW.locals [1, 2, 0, 3, 4, 5, 6, 7, 8, 9] rfl n9
          · rw [show fiB c ρ E i p = true from decide_eq_true g3, if_pos rfl] at h9
            rw [h9] at n9
            refine j_lload 2 dX5_placesFitting_136 rfl (j_lconst (v := 1) dX5_placesFitting_138 rfl (j_iload 1 dX5_placesFitting_139 rfl (j_lshl dX5_placesFitting_141 (j_lor dX5_placesFitting_142 ?_))))
            rw [show (1 : Int64) = lN 1 from rfl, wb_shl _ (by omega), fb_orL, Nat.one_mul]
            refine j_lstore (lv' := [(9, _), (12, _), (11, _), (8, _), (7, _), (6, _), (4, _), (0, _), (1, _), (2, _)]) dX5_placesFitting_143 rfl ?_
            exact JW.locals [2, 0, 1, 3, 4, 5, 6, 7, 8, 9] rfl n9
  refine j_aload_n 0 dX5_placesFitting_0 rfl (j_getR (b := 3) dX5_placesFitting_1 fX5_19 rfl (by first | assumption | rfl) (by first | assumption | rfl) (j_aload_n 0 dX5_placesFitting_4 rfl (j_getR (b := 118) dX5_placesFitting_5 fX5_48 rfl (by first | assumption | rfl) (by first | assumption | rfl) (j_iload_n 1 dX5_placesFitting_8 rfl (j_iaload _ dX5_placesFitting_9 (by first | assumption | rfl) (by first | assumption | rfl) (by omega) ?_)))))
  rw [(sE.2 i hi).1]
  refine j_V1 dX5_placesFitting_10 kX5_232 (by first | assumption | rfl) (c_groupRow xC sC ?_)
  refine j_lstore (lv' := [(4, _), (0, _), (1, _), (2, _)]) dX5_placesFitting_13 rfl (j_aload_n 1 dX5_placesFitting_15 rfl (j_getR (b := 8) dX5_placesFitting_16 fX5_26 rfl (by first | assumption | rfl) (by first | assumption | rfl) (j_aload_n 1 dX5_placesFitting_19 rfl (j_getR (b := 119) dX5_placesFitting_20 fX5_52 rfl (by first | assumption | rfl) (by first | assumption | rfl) (j_iload_n 2 dX5_placesFitting_23 rfl (j_iaload _ dX5_placesFitting_24 (by first | assumption | rfl) (by first | assumption | rfl) (by omega) ?_))))))
  rw [(sE.2 i hi).2.1]
  refine j_V1 dX5_placesFitting_25 kX5_293 (by first | assumption | rfl) (c_cnt (w := E.2.1 i) q2 sN hE ?_)
  refine j_aload_n 1 dX5_placesFitting_28 rfl (j_getR (b := 120) dX5_placesFitting_29 fX5_55 rfl (by first | assumption | rfl) (by first | assumption | rfl) (j_iload_n 2 dX5_placesFitting_32 rfl (j_iaload _ dX5_placesFitting_33 (by first | assumption | rfl) (by first | assumption | rfl) (by omega) ?_)))
  rw [(sE.2 i hi).2.2]
  refine j_iadd dX5_placesFitting_34 (j_istore (lv' := [(6, _), (4, _), (0, _), (1, _), (2, _)]) dX5_placesFitting_35 rfl (j_aload_n 2 dX5_placesFitting_37 rfl (j_getR (b := 117) dX5_placesFitting_38 fX5_45 rfl (by first | assumption | rfl) (by first | assumption | rfl) (j_iconst (v := 0) dX5_placesFitting_41 rfl (j_aaload (b := 135) 0 dX5_placesFitting_42 (by first | assumption | rfl) rfl (by first | assumption | rfl) (by omega) (by first | assumption | rfl) (j_astore (lv' := [(7, _), (6, _), (4, _), (0, _), (1, _), (2, _)]) dX5_placesFitting_43 rfl (j_aload_n 3 dX5_placesFitting_45 rfl (j_getR (b := 117) dX5_placesFitting_46 fX5_45 rfl (by first | assumption | rfl) (by first | assumption | rfl) (j_iconst (v := 1) dX5_placesFitting_49 rfl (j_aaload (b := 142) 1 dX5_placesFitting_50 (by first | assumption | rfl) rfl (by first | assumption | rfl) (by omega) (by first | assumption | rfl) (j_astore (lv' := [(8, _), (7, _), (6, _), (4, _), (0, _), (1, _), (2, _)]) dX5_placesFitting_51 rfl (j_aload 1 dX5_placesFitting_53 rfl (j_aload_n 4 dX5_placesFitting_55 rfl (j_getR (b := 8) dX5_placesFitting_56 fX5_26 rfl (by first | assumption | rfl) (by first | assumption | rfl) (j_V1 dX5_placesFitting_59 kX5_266 (by first | assumption | rfl) (c_copy (t4 0 (by decide)) xN (by decide) sN oN.1.2.1 (fun V1 hV1 => ?_)))))))))))))))))
  refine j_lconst (v := 0) dX5_placesFitting_62 rfl (j_lstore (lv' := [(9, _), (8, _), (7, _), (6, _), (4, _), (0, _), (1, _), (2, _)]) dX5_placesFitting_63 rfl (j_iconst (v := 0) dX5_placesFitting_65 rfl (j_istore (lv' := [(11, _), (9, _), (8, _), (7, _), (6, _), (4, _), (0, _), (1, _), (2, _)]) dX5_placesFitting_66 rfl ?_)))
  refine JW.locals [0, 1, 2, 3, 4, 5, 6, 7, 8] rfl (loop 56 0 _ rfl (fun a ha => wr_n (by omega)) (rec_wr hV1))
theorem bs_all : ∀ k, bsN (fun _ => true) k = 2 ^ k - 1
  | 0 => rfl
  | k + 1 => by
    show bsN (fun _ => true) k ||| 2 ^ k = _
    rw [bs_all k]
    apply Nat.eq_of_testBit_eq
    intro i
    rw [Nat.testBit_or, Nat.testBit_two_pow_sub_one, Nat.testBit_two_pow_sub_one, Nat.testBit_two_pow, ← Bool.decide_or]
    congr 1
    exact propext ⟨fun h => by omega, fun h => by omega⟩
theorem k_which {g : GT} {Z : ZT} {I : IT} {L : LT} {Post : PT} {t : Nat → Nat} {n : Nat} {c : CT} {w : Nat} {ρ : RT} {A : Nat × Nat × (Nat → RT)} {K : (Nat → RT) × (Nat → Bool)} {E : (Nat → Int32) × (Nat → Nat) × (Nat → Nat) × Nat} {sd : Int64} (hX : isX Z) (hs : CSt t n c w ρ A K E sd I L) (ho : OKs c w ρ A K E) (hp : ∀ I', CSt t n c w ρ A K E sd I' L → eqM I I' → Post (some (.long (lN (bsN (alB c ρ E E.2.2.2) 56)))) Z I' L) : CM g 7 0 0 mX5_which [.ref 0] Z I L Post := by
  have k0 : zK Z 0 = 5 := hX.1
  have oE := ho.2.2.2.2.2
  refine CM_intro ?_
  have loop : ∀ (m j : Nat) (I1 : IT), j + m = E.2.2.2 → CSt t n c w ρ A K E sd I1 L → eqM I I1 → JW g mX5_which (rmO 7 0 0) (QM Post 0 0) 6 [(3, .int (nI j)), (1, .long (lN (bsN (alB c ρ E j) 56))), (0, .ref 0)] [] 0 0 Z I1 L := by
    intro m
    induction m with
    | zero =>
      intro j I1 hm h1 h2
      have : j = E.2.2.2 := by omega
      refine j_iload_n 0 dX5_which_6 rfl (j_aload_n 2 dX5_which_7 rfl (j_getI dX5_which_8 fX5_58 (by first | assumption | rfl) ?_))
      rw [h1.2.2.2.2.2.1.1]
      refine j_icmp_ge (tgt := 27) dX5_which_11 rfl (fun g1 => ?_) (fun g1 => ?_)
      · refine j_lload_n 1 dX5_which_27 rfl (j_lret dX5_which_28 ?_)
        rw [this]
        exact hp I1 h1 h2
      · exact absurd (nI_le (by omega) (by omega)) g1
    | succ m ih =>
      intro j I1 hm h1 h2
      refine j_iload_n 0 dX5_which_6 rfl (j_aload_n 2 dX5_which_7 rfl (j_getI dX5_which_8 fX5_58 (by first | assumption | rfl) ?_))
      rw [h1.2.2.2.2.2.1.1]
      refine j_icmp_ge (tgt := 27) dX5_which_11 rfl (fun g1 => ?_) (fun g1 => ?_)
      · exact absurd g1 (nI_ge (by omega) (by omega))
      · refine j_aload_n 2 dX5_which_14 rfl (j_iload_n 0 dX5_which_15 rfl (j_lload_n 1 dX5_which_16 rfl (j_V2 dX5_which_17 kX5_252 (by first | assumption | rfl) (c_placesFitting hX h1.2.1.1 ho.1 h1.2.2.1 ho.2.2.1 h1.2.2.2.2.2.1 (show j < 4 by omega) (oE.2 j (by omega)).1 (fun I2 e2 => ?_)))))
        refine j_lstore_n (lv' := [(1, _), (3, _), (0, _)]) dX5_which_20 rfl (j_iinc (y := 1) (lv' := [(3, _), (1, _), (0, _)]) 1 dX5_which_21 rfl rfl rfl (j_goto (tgt := 6) dX5_which_24 rfl ?_))
        rw [nI_1]
        exact JW.locals [0, 1, 2] rfl (ih (j + 1) I2 (by omega) (h1.trial (fun a ha => e2 a (by omega))) (h2.tr (fun a ha => e2 a (by omega))))
  have h0 := loop E.2.2.2 0 I (by omega) hs eqM.rfl'
  rw [show bsN (alB c ρ E 0) 56 = 2 ^ 56 - 1 from bs_all 56] at h0
  refine j_ldc2 (v := 72057594037927935) dX5_which_0 (List.mem_of_getElem? (i := 649) (by decide +kernel)) (j_lstore_n (lv' := [(1, _), (0, _)]) dX5_which_3 rfl (j_iconst (v := 0) dX5_which_4 rfl (j_istore_n (lv' := [(3, _), (1, _), (0, _)]) dX5_which_5 rfl ?_)))
  exact JW.locals [0, 1, 2] rfl h0
