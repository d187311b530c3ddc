theorem c_mFraction {g : GT} {Z : ZT} {I : IT} {L : LT} {Post : PT} {x up : Int32} {b : Nat} (hx : (if 0 ≤ x then x else 0 - x) = nI x.toInt.natAbs) (ha : x.toInt.natAbs < 2 ^ 31) (hb : b < 2 ^ 31) (hb0 : 0 < b) (hp : Post (some (.int (frI x b up))) Z I L) : CM g 0 0 0 mX6_fraction [.int x, .int (nI b), .int up] Z I L Post := by
  refine CM_intro ?_
  have hg0 : 0 < Nat.gcd x.toInt.natAbs b := Nat.gcd_pos_of_pos_right _ hb0
  have hgl : Nat.gcd x.toInt.natAbs b ≤ b := Nat.gcd_le_right _ hb0
  have fin : JW g mX6_fraction (rmO 0 0 0) (QM Post 0 0) 35 [(4, .int 0), (3, .int (nI (Nat.gcd x.toInt.natAbs b))), (0, .int x), (1, .int (nI b)), (2, .int up)] [] 0 0 Z I L := by
    have hne : ¬ nI (Nat.gcd x.toInt.natAbs b) = 0 := nI_ne0 hg0 (by omega)
    unfold frI at hp
    refine j_iload_n 4 dX6_fraction_35 rfl (j_if_eq (tgt := 45) dX6_fraction_36 rfl (fun g1 => ?_) (fun g1 => ?_))
    · rw [if_pos g1] at hp
      refine j_iload_n 3 dX6_fraction_45 rfl (j_iload_n 1 dX6_fraction_46 rfl (j_idiv dX6_fraction_47 hne (j_iret dX6_fraction_48 ?_)))
      exact hp
    · rw [if_neg g1] at hp
      refine j_iload_n 2 dX6_fraction_39 rfl (j_iload_n 1 dX6_fraction_40 rfl (j_idiv dX6_fraction_41 hne (j_goto (tgt := 48) dX6_fraction_42 rfl (j_iret dX6_fraction_48 ?_))))
      exact hp
  have loop : ∀ (m y z : Nat), y ≤ m → y < 2 ^ 31 → z < 2 ^ 31 → Nat.gcd z y = Nat.gcd x.toInt.natAbs b → JW g mX6_fraction (rmO 0 0 0) (QM Post 0 0) 14 [(4, .int (nI y)), (3, .int (nI z)), (0, .int x), (1, .int (nI b)), (2, .int up)] [] 0 0 Z I L := by
    intro m
    induction m with
    | zero =>
      intro y z hy hy2 hz hg
      have : y = 0 := by omega
      subst this
      rw [Nat.gcd_zero_right] at hg
      subst hg
      refine j_iload 0 dX6_fraction_14 rfl (j_if_eq (tgt := 35) dX6_fraction_16 rfl (fun g1 => ?_) (fun g1 => ?_))
      · exact fin
      · exact absurd rfl g1
    | succ m ih =>
      intro y z hy hy2 hz hg
      by_cases h0 : y = 0
      · subst h0
        rw [Nat.gcd_zero_right] at hg
        subst hg
        refine j_iload 0 dX6_fraction_14 rfl (j_if_eq (tgt := 35) dX6_fraction_16 rfl (fun g1 => ?_) (fun g1 => ?_))
        · exact fin
        · exact absurd rfl g1
      · have hne : ¬ nI y = 0 := nI_ne0 (by omega) hy2
        have hml : z % y < y := Nat.mod_lt _ (by omega)
        refine j_iload 0 dX6_fraction_14 rfl (j_if_eq (tgt := 35) dX6_fraction_16 rfl (fun g1 => ?_) (fun g1 => ?_))
        · exact absurd g1 hne
        · refine j_iload_n 1 dX6_fraction_19 rfl (j_iload 0 dX6_fraction_20 rfl (j_irem dX6_fraction_22 hne ?_))
          rw [remI hz (by omega) hy2]
          refine j_istore (lv' := [(5, _), (4, _), (3, _), (0, _), (1, _), (2, _)]) dX6_fraction_23 rfl (j_iload 1 dX6_fraction_25 rfl (j_istore_n (lv' := [(3, _), (5, _), (4, _), (0, _), (1, _), (2, _)]) dX6_fraction_27 rfl (j_iload 1 dX6_fraction_28 rfl (j_istore (lv' := [(4, _), (3, _), (5, _), (0, _), (1, _), (2, _)]) dX6_fraction_30 rfl (j_goto (tgt := 14) dX6_fraction_32 rfl ?_)))))
          refine JW.locals [0, 1, 3, 4, 5] rfl (ih (z % y) y (by omega) (by omega) hy2 ?_)
          rw [gcd_step, hg]
  have h0 := loop b b x.toInt.natAbs (Nat.le_refl _) hb ha rfl
  refine j_iload_n 0 dX6_fraction_0 rfl (j_if_ge (tgt := 9) dX6_fraction_1 rfl (fun g1 => ?_) (fun g1 => ?_))
  · rw [if_pos g1] at hx
    rw [← hx] at h0
    refine j_iload_n 0 dX6_fraction_9 rfl (j_istore_n (lv' := [(3, _), (0, _), (1, _), (2, _)]) dX6_fraction_10 rfl (j_iload_n 2 dX6_fraction_11 rfl (j_istore (lv' := [(4, _), (3, _), (0, _), (1, _), (2, _)]) dX6_fraction_12 rfl ?_)))
    exact JW.locals [0, 1, 2, 3, 4] rfl h0
  · rw [if_neg g1, Int32.zero_sub] at hx
    rw [← hx] at h0
    refine j_iload_n 0 dX6_fraction_4 rfl (j_ineg dX6_fraction_5 (j_goto (tgt := 10) dX6_fraction_6 rfl (j_istore_n (lv' := [(3, _), (0, _), (1, _), (2, _)]) dX6_fraction_10 rfl (j_iload_n 2 dX6_fraction_11 rfl (j_istore (lv' := [(4, _), (3, _), (0, _), (1, _), (2, _)]) dX6_fraction_12 rfl ?_)))))
    exact JW.locals [0, 1, 2, 3, 4] rfl h0
def tuM (u : Nat → Nat) (k M : Nat) : Nat → Nat := fun j => if j = k then u j ^^^ M else u j
theorem xrowM {u : Nat → Nat} (hu : ∀ j, j < 4 → u j < 16384) {k M : Nat} (hk : k < 4) (hM : M < 16384) : row4 u ^^^ (M * 2 ^ (14 * (3 - k))) = row4 (tuM u k M) := by
  have h0 := hu 0 (by decide)
  have h1 := hu 1 (by decide)
  have h2 := hu 2 (by decide)
  have h3 := hu 3 (by decide)
  have : k = 0 ∨ k = 1 ∨ k = 2 ∨ k = 3 := by omega
  unfold row4 tuM
  rcases this with r | r | r | r <;> subst r
  · have e : 16384 * (16384 * (16384 * u 0 + u 1) + u 2) + u 3 = 2 ^ 42 * u 0 + (16384 * (16384 * u 1 + u 2) + u 3) := by omega
    rw [e, show M * 2 ^ (14 * (3 - 0)) = 2 ^ 42 * M from Nat.mul_comm _ _, xs_lo (by omega)]
    simp only [if_true, if_neg (show ¬ 1 = 0 by decide), if_neg (show ¬ 2 = 0 by decide), if_neg (show ¬ 3 = 0 by decide)]
    generalize u 0 ^^^ M = z
    omega
  · have e : 16384 * (16384 * (16384 * u 0 + u 1) + u 2) + u 3 = 2 ^ 28 * (16384 * u 0 + u 1) + (16384 * u 2 + u 3) := by omega
    rw [e, show M * 2 ^ (14 * (3 - 1)) = 2 ^ 28 * M from Nat.mul_comm _ _, xs_lo (by omega), xs_hi h1 hM]
    simp only [if_true, if_neg (show ¬ 0 = 1 by decide), if_neg (show ¬ 2 = 1 by decide), if_neg (show ¬ 3 = 1 by decide)]
    generalize u 1 ^^^ M = z
    omega
  · have e : 16384 * (16384 * (16384 * u 0 + u 1) + u 2) + u 3 = 2 ^ 14 * (16384 * (16384 * u 0 + u 1) + u 2) + u 3 := rfl
    rw [e, show M * 2 ^ (14 * (3 - 2)) = 2 ^ 14 * M from Nat.mul_comm _ _, xs_lo (by omega), xs_hi h2 hM]
    simp only [if_true, if_neg (show ¬ 0 = 2 by decide), if_neg (show ¬ 1 = 2 by decide), if_neg (show ¬ 3 = 2 by decide)]
  · rw [show M * 2 ^ (14 * (3 - 3)) = M from Nat.mul_one M, xs_hi h3 hM]
    simp only [if_true, if_neg (show ¬ 0 = 3 by decide), if_neg (show ¬ 1 = 3 by decide), if_neg (show ¬ 2 = 3 by decide)]
theorem hs_cat (c : CT) (a : Nat) (ρ : RT) (X b : Nat) (hb : b < 16384) : hsF c (a + 14) ρ (16384 * X + b) = hsF c 14 (hsF c a ρ X) b := by
  rw [hsF_split, show (16384 * X + b) / 2 ^ 14 = X by omega, ← hsF_mod, show (16384 * X + b) % 2 ^ 14 = b by omega]
theorem hs_row4 (c : CT) (ρ : RT) {v : Nat → Nat} (hv : ∀ j, j < 4 → v j < 16384) : hsF c 56 ρ (row4 v) = hsF c 14 (hsF c 14 (hsF c 14 (hsF c 14 ρ (v 0)) (v 1)) (v 2)) (v 3) := by
  unfold row4
  rw [show 56 = 42 + 14 from rfl, hs_cat c 42 ρ _ _ (hv 3 (by decide)), show 42 = 28 + 14 from rfl, hs_cat c 28 ρ _ _ (hv 2 (by decide)), show 28 = 14 + 14 from rfl, hs_cat c 14 ρ _ _ (hv 1 (by decide))]
noncomputable def soF (c : CT) (ρ : RT) (G : Int32) (p : Nat) : Nat → RT
  | 0 => ρ
  | k + 1 => hsF c 14 (soF c ρ G p k) (wdN c k (byN G k) ^^^ (if p / 14 = k then 2 ^ (13 - p % 14) else 0))
theorem so_w {c : CT} (oC : okC c) (G : Int32) (p : Nat) {k : Nat} (hk : k < 4) : wdN c k (byN G k) ^^^ (if p / 14 = k then 2 ^ (13 - p % 14) else 0) < 16384 := by
  refine xor_lt14 (wdN_lt oC.2.2.1 (oC.2.2.2.1 k hk) (byN_lt G k)) ?_
  split
  · exact show 2 ^ (13 - p % 14) < 2 ^ 14 from Nat.pow_lt_pow_right (by decide) (by omega)
  · decide
theorem OKz.so {c : CT} (oC : okC c) {ρ : RT} (h : OKz c ρ) (G : Int32) (p : Nat) : ∀ k, OKz c (soF c ρ G p k)
  | 0 => h
  | k + 1 => OKz.hs oC _ 14 (OKz.so oC h G p k)
theorem so_eq {c : CT} (oC : okC c) (ρ : RT) (G : Int32) {p : Nat} (hp : p < 56) : soF c ρ G p 4 = hsF c 56 ρ (rtN c G 0 4 ^^^ 2 ^ (55 - p)) := by
  have hk : p / 14 < 4 := by omega
  have hM : 2 ^ (13 - p % 14) < 16384 := show 2 ^ (13 - p % 14) < 2 ^ 14 from Nat.pow_lt_pow_right (by decide) (by omega)
  have e : 2 ^ (55 - p) = 2 ^ (13 - p % 14) * 2 ^ (14 * (3 - p / 14)) := by
    rw [← Nat.pow_add]
    congr 1
    omega
  have hu : ∀ j, j < 4 → gwN c G 0 j < 16384 := fun j hj => gwN_lt oC.2.2.1 (oC.2.2.2.1 j hj)
  rw [rt_row4, e, xrowM hu hk hM]
  have ev : ∀ j, j < 4 → tuM (gwN c G 0) (p / 14) (2 ^ (13 - p % 14)) j = wdN c j (byN G j) ^^^ (if p / 14 = j then 2 ^ (13 - p % 14) else 0) := by
    intro j hj
    unfold tuM
    rw [gw0]
    by_cases h : j = p / 14
    · rw [if_pos h, if_pos h.symm]
    · rw [if_neg h, if_neg (Ne.symm h), Nat.xor_zero]
  rw [hs_row4 c ρ (fun j hj => by rw [ev j hj]; exact so_w oC G p hj), ev 0 (by decide), ev 1 (by decide), ev 2 (by decide), ev 3 (by decide)]
  rfl
theorem sub_iff (x y z : Int32) : x - y = z ↔ x = y + z := by
  constructor
  · intro h
    rw [← h]
    grind
  · intro h
    rw [h]
    grind
theorem c_isSoBy {g : GT} {Z : ZT} {I : IT} {L : LT} {Post : PT} {c : CT} {ρ : RT} {E : (Nat → Int32) × (Nat → Nat) × (Nat → Nat) × Nat} {p i : Nat} (hM : isM Z) (sC : MC I c) (oC : okC c) (sN : I 203 = ρ) (oN : OKz c ρ) (sE : mSe I E) (sZ : Z47 (I 204)) (hp56 : p < 56) (hi : i < 4) (hE : E.2.1 i ≤ 2) (hp : ∀ σ, Z47 σ → Post (some (.int (if fiB c ρ E i p = true then 1 else 0))) Z (upR I 204 σ) L) : CM g 6 0 0 mX6_isSoBy [.ref 198, .int (nI p), .int (nI i)] Z I L Post := by
  obtain ⟨m0, f0, f3, f6, f7, f10, f11, f12, f15, f16, f17, f18, f19, f22, f24, k199, l199, k200, l200, k201, l201, k202, l202, k203, l203, k204, l204, k205, l205, k206, l206, k207, l207, k208, l208, k209, l209, k210, l210, k211, l211, k212, l212⟩ := id hM
  have hMo : isMo Z := ⟨m0, f3, f6, f7, k200, l200, k201, l201, k202, l202⟩
  refine CM_intro ?_
  have loop : ∀ (m k : Nat), k + m = 4 → JW g mX6_isSoBy (rmO 6 0 0) (QM Post 0 0) 13 [(3, .int (nI k)), (0, .ref 198), (1, .int (nI p)), (2, .int (nI i))] [] 0 0 Z (upR I 204 (soF c ρ (E.1 i) p k)) L := by
    intro m
    induction m with
    | zero =>
      intro k hk
      have : k = 4 := by omega
      subst this
      have hq := hp _ (oN.so oC (E.1 i) p 4).2
      refine j_iload_n 0 dX6_isSoBy_13 rfl (j_iconst (v := 4) dX6_isSoBy_14 rfl (j_icmp_ge (tgt := 75) dX6_isSoBy_15 rfl (fun g1 => ?_) (fun g1 => ?_)))
      · refine j_bipush (v := 10) dX6_isSoBy_75 rfl (j_aload_n 1 dX6_isSoBy_77 rfl (j_getR (b := 209) dX6_isSoBy_78 fX6_41 rfl (by first | assumption | rfl) (by first | assumption | rfl) (j_iload_n 3 dX6_isSoBy_81 rfl (j_iaload i dX6_isSoBy_82 (by first | assumption | rfl) (by first | assumption | rfl) (by omega) ?_))))
        rw [upR_n (show 209 ≠ 204 by decide), (sE.2 i hi).2.1]
        refine j_iadd dX6_isSoBy_83 ?_
        rw [show (10 : Int32) + nI (E.2.1 i) = nI (10 + E.2.1 i) from nI_add 10 _]
        refine j_istore_n (lv' := [(3, _), (0, _), (1, _), (2, _)]) dX6_isSoBy_84 rfl (j_aload_n 1 dX6_isSoBy_85 rfl (j_getR (b := 204) dX6_isSoBy_86 fX6_25 rfl (by first | assumption | rfl) (by first | assumption | rfl) (j_iload_n 0 dX6_isSoBy_89 rfl (j_iaload (10 + E.2.1 i) dX6_isSoBy_90 (by first | assumption | rfl) (by first | assumption | rfl) (by omega) (j_aload_n 1 dX6_isSoBy_91 rfl (j_getR (b := 203) dX6_isSoBy_92 fX6_22 rfl (by first | assumption | rfl) (by first | assumption | rfl) (j_iload_n 0 dX6_isSoBy_95 rfl (j_iaload (10 + E.2.1 i) dX6_isSoBy_96 (by first | assumption | rfl) (by first | assumption | rfl) (by omega) (j_isub dX6_isSoBy_97 (j_aload_n 1 dX6_isSoBy_98 rfl (j_getR (b := 210) dX6_isSoBy_99 fX6_44 rfl (by first | assumption | rfl) (by first | assumption | rfl) (j_iload_n 3 dX6_isSoBy_102 rfl (j_iaload i dX6_isSoBy_103 (by first | assumption | rfl) (by first | assumption | rfl) (by omega) ?_)))))))))))))
        rw [upR_s, upR_n (show 203 ≠ 204 by decide), upR_n (show 210 ≠ 204 by decide), (sE.2 i hi).2.2, sN]
        refine j_icmp_ne (tgt := 111) dX6_isSoBy_104 rfl (fun g2 => ?_) (fun g2 => ?_)
        · rw [if_neg (by
            unfold fiB
            rw [← so_eq oC ρ (E.1 i) hp56]
            intro z
            exact g2 ((sub_iff _ _ _).mpr (of_decide_eq_true z)))] at hq
          refine j_iconst (v := 0) dX6_isSoBy_111 rfl (j_zret dX6_isSoBy_112 (by decide) ?_)
          exact hq
        · rw [if_pos (by
            unfold fiB
            rw [← so_eq oC ρ (E.1 i) hp56]
            exact decide_eq_true ((sub_iff _ _ _).mp g2))] at hq
          refine j_iconst (v := 1) dX6_isSoBy_107 rfl (j_goto (tgt := 112) dX6_isSoBy_108 rfl (j_zret dX6_isSoBy_112 (by decide) ?_))
          exact hq
      · exact absurd (by decide) g1
    | succ m ih =>
      intro k hk
      have hi2 := ih (k + 1) (by omega)
      have hk4 : k < 4 := by omega
      have hsw := so_w oC (E.1 i) p hk4
      have t39 : ∀ u : Nat, u = (if p / 14 = k then 2 ^ (13 - p % 14) else 0) → JW g mX6_isSoBy (rmO 6 0 0) (QM Post 0 0) 41 [(4, .int (nI u)), (3, .int (nI k)), (0, .ref 198), (1, .int (nI p)), (2, .int (nI i))] [] 0 0 Z (upR I 204 (soF c ρ (E.1 i) p k)) L := by
        intro u hu
        subst hu
        refine j_aload_n 2 dX6_isSoBy_41 rfl (j_aload_n 2 dX6_isSoBy_42 rfl (j_getR (b := 204) dX6_isSoBy_43 fX6_25 rfl (by first | assumption | rfl) (by first | assumption | rfl) (j_bipush (v := 14) dX6_isSoBy_46 rfl (j_aload_n 2 dX6_isSoBy_48 rfl (j_iload_n 1 dX6_isSoBy_49 rfl (j_aload_n 2 dX6_isSoBy_50 rfl (j_getR (b := 208) dX6_isSoBy_51 fX6_38 rfl (by first | assumption | rfl) (by first | assumption | rfl) (j_iload_n 4 dX6_isSoBy_54 rfl (j_iaload i dX6_isSoBy_55 (by first | assumption | rfl) (by first | assumption | rfl) (by omega) ?_)))))))))
        rw [upR_n (show 208 ≠ 204 by decide), (sE.2 i hi).1]
        refine j_iload_n 1 dX6_isSoBy_56 rfl (j_S2 dX6_isSoBy_57 kX6_165 (c_byteOf ?_))
        refine j_V2 dX6_isSoBy_60 kX6_168 (by first | assumption | rfl) (c_mWord hMo (sC.up (by decide) _) hk4 (byN_lt _ _) ?_)
        refine j_iload 0 dX6_isSoBy_63 rfl (j_ixor dX6_isSoBy_65 ?_)
        rw [fb_xorI]
        refine j_V3 dX6_isSoBy_66 kX6_171 (by first | assumption | rfl) (c_mHearBits (n := 14) hMo (sC.up (by decide) _) (by decide) k204 l204 (by rw [upR_s]; exact (oN.so oC (E.1 i) p k).1) (by decide) (by omega) ?_)
        rw [upR_R, upR_s]
        refine j_iinc (y := 1) (lv' := [(3, _), (4, _), (0, _), (1, _), (2, _)]) 1 dX6_isSoBy_69 rfl rfl rfl (j_goto (tgt := 13) dX6_isSoBy_72 rfl ?_)
        rw [nI_1]
        exact JW.locals [0, 2, 3, 4] rfl hi2
      refine j_iload_n 0 dX6_isSoBy_13 rfl (j_iconst (v := 4) dX6_isSoBy_14 rfl (j_icmp_ge (tgt := 75) dX6_isSoBy_15 rfl (fun g1 => ?_) (fun g1 => ?_)))
      · exact absurd g1 (nI_ge (b := 4) (by omega) (by decide))
      · refine j_iload_n 2 dX6_isSoBy_18 rfl (j_bipush (v := 14) dX6_isSoBy_19 rfl (j_idiv dX6_isSoBy_21 (by decide) ?_))
        rw [show (14 : Int32) = nI 14 from rfl, divI (by omega) (by decide) (by decide)]
        refine j_iload_n 0 dX6_isSoBy_22 rfl (j_icmp_ne (tgt := 38) dX6_isSoBy_23 rfl (fun g2 => ?_) (fun g2 => ?_))
        · refine j_iconst (v := 0) dX6_isSoBy_38 rfl (j_istore (lv' := [(4, _), (3, _), (0, _), (1, _), (2, _)]) dX6_isSoBy_39 rfl ?_)
          exact t39 0 (by rw [if_neg (fun z => g2 (by rw [z]))])
        · have hpk : p / 14 = k := nI_inj (by omega) (by omega) g2
          have h2k : 1 * 2 ^ (13 - p % 14) < 2 ^ 32 := by
            rw [Nat.one_mul]
            exact Nat.pow_lt_pow_right (by decide) (by omega)
          refine j_iconst (v := 1) dX6_isSoBy_26 rfl (j_bipush (v := 13) dX6_isSoBy_27 rfl (j_iload_n 2 dX6_isSoBy_29 rfl (j_bipush (v := 14) dX6_isSoBy_30 rfl (j_irem dX6_isSoBy_32 (by decide) (j_isub dX6_isSoBy_33 ?_)))))
          rw [show (14 : Int32) = nI 14 from rfl, remI (by omega) (by decide) (by decide), show (13 : Int32) - nI (p % 14) = nI (13 - p % 14) from pk_sub (a := 13) (by omega)]
          refine j_ishl dX6_isSoBy_34 (j_goto (tgt := 39) dX6_isSoBy_35 rfl ?_)
          rw [show (1 : Int32) <<< (nI (13 - p % 14) &&& 31) = nI (1 * 2 ^ (13 - p % 14)) from shlI (s := 1) h2k (by omega), Nat.one_mul]
          refine j_istore (lv' := [(4, _), (3, _), (0, _), (1, _), (2, _)]) dX6_isSoBy_39 rfl ?_
          exact t39 _ (by rw [if_pos hpk])
  refine j_aload_n 0 dX6_isSoBy_0 rfl (j_getR (b := 203) dX6_isSoBy_1 fX6_22 rfl (by first | assumption | rfl) (by first | assumption | rfl) (j_aload_n 0 dX6_isSoBy_4 rfl (j_getR (b := 204) dX6_isSoBy_5 fX6_25 rfl (by first | assumption | rfl) (by first | assumption | rfl) (j_S2 dX6_isSoBy_8 kX6_212 (c_toTrial k203 l203 k204 l204 sN oN.2 sZ ?_)))))
  refine j_iconst (v := 0) dX6_isSoBy_11 rfl (j_istore_n (lv' := [(3, _), (0, _), (1, _), (2, _)]) dX6_isSoBy_12 rfl ?_)
  exact JW.locals [0, 1, 2, 3] rfl (loop 4 0 rfl)
theorem q_which {g : GT} {Z : ZT} {I : IT} {L : LT} {Post : PT} {t : Nat → Nat} {n : Nat} {c : CT} {w : Nat} {ρ : RT} {A : Nat × Nat × (Nat → RT)} {K : (Nat → RT) × (Nat → Bool)} {E : (Nat → Int32) × (Nat → Nat) × (Nat → Nat) × Nat} {sd : Int64}  (hM : isM Z) (hs : MSt t n c w ρ A K E sd I L) (ho : OKs c w ρ A K E)  (hp : ∀ I', MSt t n c w ρ A K E sd I' L → eqC I I' → Post (some (.long (lN (bsN (alB c ρ E E.2.2.2) 56)))) Z I' L) : CM g 7 0 0 mX6_which [.ref 198] Z I L Post := by
  obtain ⟨m0, f0, f3, f6, f7, f10, f11, f12, f15, f16, f17, f18, f19, f22, f24, k199, l199, k200, l200, k201, l201, k202, l202, k203, l203, k204, l204, k205, l205, k206, l206, k207, l207, k208, l208, k209, l209, k210, l210, k211, l211, k212, l212⟩ := id hM
  have hMo : isMo Z := ⟨m0, f3, f6, f7, k200, l200, k201, l201, k202, l202⟩
  obtain ⟨sT, ⟨sC, s4, s8, s9⟩, sN, sA, sK, sE, sL, sZ⟩ := id hs
  obtain ⟨oC, oW, oN, oA, oK, oE⟩ := id ho
  refine CM_intro ?_
  have hse : ∀ σ, mSe (upR I 204 σ) E := fun σ => sE.fr (by rw [upR_n (by decide)]) (upR_n (by decide)) (upR_n (by decide)) (upR_n (by decide))
  have loop : ∀ (m p : Nat) (σ : RT), p + m = 56 → Z47 σ → JW g mX6_which (rmO 7 0 0) (QM Post 0 0) 4 [(3, .int (nI p)), (1, .long (lN (bsN (alB c ρ E E.2.2.2) p))), (0, .ref 198)] [] 0 0 Z (upR I 204 σ) L := by
    intro m
    induction m with
    | zero =>
      intro p σ hm hz
      have : p = 56 := by omega
      subst this
      refine j_iload_n 0 dX6_which_4 rfl (j_bipush (v := 56) dX6_which_5 rfl (j_icmp_ge (tgt := 74) dX6_which_7 rfl (fun g1 => ?_) (fun g1 => ?_)))
      · refine j_lload_n 1 dX6_which_74 rfl (j_lret dX6_which_75 ?_)
        exact hp _ (hs.tri hz) (eqC.up I (by decide) _)
      · exact absurd (by decide) g1
    | succ m ih =>
      intro p σ hm hz
      have h9 : bsN (alB c ρ E E.2.2.2) (p + 1) = bsN (alB c ρ E E.2.2.2) p ||| (if alB c ρ E E.2.2.2 p then 2 ^ p else 0) := rfl
      have inner : ∀ (q j : Nat) (σ : RT) (v : Int32), j + q = E.2.2.2 → Z47 σ → v = (if alB c ρ E j p = true then 1 else 0) → JW g mX6_which (rmO 7 0 0) (QM Post 0 0) 16 [(5, .int (nI j)), (4, .int v), (3, .int (nI p)), (1, .long (lN (bsN (alB c ρ E E.2.2.2) p))), (0, .ref 198)] [] 0 0 Z (upR I 204 σ) L := by
        intro q
        induction q with
        | zero =>
          intro j σ v hj hz hv
          have hj : j = E.2.2.2 := by omega
          have hi := ih (p + 1) σ (by omega) hz
          rw [h9] at hi
          refine j_iload 0 dX6_which_16 rfl (j_aload_n 4 dX6_which_18 rfl (j_getI dX6_which_19 fX6_174 (by first | assumption | rfl) ?_))
          rw [(hse σ).1, hj]
          refine j_icmp_ge (tgt := 53) dX6_which_22 rfl (fun g1 => ?_) (fun g1 => ?_)
          · refine j_lload_n 3 dX6_which_53 rfl (j_iload 1 dX6_which_54 rfl (j_if_eq (tgt := 65) dX6_which_56 rfl (fun g2 => ?_) (fun g2 => ?_)))
            · have hb : alB c ρ E E.2.2.2 p = false := by
                cases h : alB c ρ E E.2.2.2 p with
                | false => rfl
                | true =>
                  rw [hj, h, if_pos rfl] at hv
                  rw [hv] at g2
                  exact absurd g2 (by decide)
              rw [hb, if_neg (show ¬ (false = true) by decide)] at hi
              refine j_lconst (v := 0) dX6_which_65 rfl (j_lor dX6_which_66 ?_)
              rw [show (0 : Int64) = lN 0 from rfl, fb_orL]
              refine j_lstore_n (lv' := [(1, _), (5, _), (4, _), (3, _), (0, _)]) dX6_which_67 rfl (j_iinc (y := 1) (lv' := [(3, _), (1, _), (5, _), (4, _), (0, _)]) 3 dX6_which_68 rfl rfl rfl (j_goto (tgt := 4) dX6_which_71 rfl ?_))
              rw [nI_1]
              exact JW.locals [0, 1, 4] rfl hi
            · have hb : alB c ρ E E.2.2.2 p = true := by
                cases h : alB c ρ E E.2.2.2 p with
                | true => rfl
                | false =>
                  rw [hj, h, if_neg (by decide)] at hv
                  exact absurd hv g2
              rw [hb, if_pos rfl] at hi
              refine j_lconst (v := 1) dX6_which_59 rfl (j_iload_n 2 dX6_which_60 rfl (j_lshl dX6_which_61 (j_goto (tgt := 66) dX6_which_62 rfl (j_lor dX6_which_66 ?_))))
              rw [show (1 : Int64) = lN 1 from rfl, wb_shl _ (by omega), fb_orL, Nat.one_mul]
              refine j_lstore_n (lv' := [(1, _), (5, _), (4, _), (3, _), (0, _)]) dX6_which_67 rfl (j_iinc (y := 1) (lv' := [(3, _), (1, _), (5, _), (4, _), (0, _)]) 3 dX6_which_68 rfl rfl rfl (j_goto (tgt := 4) dX6_which_71 rfl ?_))
              rw [nI_1]
              exact JW.locals [0, 1, 4] rfl hi
          · exact absurd (nI_le (Nat.le_refl _) (by omega)) g1
        | succ q ih2 =>
          intro j σ v hj hz hv
          have hst : alB c ρ E (j + 1) p = (alB c ρ E j p && fiB c ρ E j p) := rfl
          refine j_iload 0 dX6_which_16 rfl (j_aload_n 4 dX6_which_18 rfl (j_getI dX6_which_19 fX6_174 (by first | assumption | rfl) ?_))
          rw [(hse σ).1]
          refine j_icmp_ge (tgt := 53) dX6_which_22 rfl (fun g1 => ?_) (fun g1 => ?_)
          · exact absurd g1 (nI_ge (by omega) (by omega))
          · refine j_iload 1 dX6_which_25 rfl (j_if_eq (tgt := 44) dX6_which_27 rfl (fun g2 => ?_) (fun g2 => ?_))
            · have hb : alB c ρ E j p = false := by
                cases h : alB c ρ E j p with
                | false => rfl
                | true =>
                  rw [h, if_pos rfl] at hv
                  rw [hv] at g2
                  exact absurd g2 (by decide)
              refine j_iconst (v := 0) dX6_which_44 rfl (j_istore (lv' := [(4, _), (5, _), (3, _), (1, _), (0, _)]) dX6_which_45 rfl (j_iinc (y := 1) (lv' := [(5, _), (4, _), (3, _), (1, _), (0, _)]) 1 dX6_which_47 rfl rfl rfl (j_goto (tgt := 16) dX6_which_50 rfl ?_)))
              rw [nI_1]
              exact ih2 (j + 1) σ 0 (by omega) hz (by rw [hst, hb, Bool.false_and, if_neg (by decide)])
            · have hb : alB c ρ E j p = true := by
                cases h : alB c ρ E j p with
                | true => rfl
                | false =>
                  rw [h, if_neg (by decide)] at hv
                  exact absurd hv g2
              refine j_aload_n 4 dX6_which_30 rfl (j_iload_n 2 dX6_which_31 rfl (j_iload 0 dX6_which_32 rfl (j_V2 dX6_which_34 kX6_228 (by first | assumption | rfl) (c_isSoBy hM (sC.up (by decide) _) oC ((upR_n (by decide)).trans sN) oN (hse σ) (by rw [upR_s]; exact hz) (show p < 56 by omega) (show j < 4 by omega) (oE.2 j (by omega)).1 (fun τ hτ => ?_)))))
              rw [upR_R]
              cases hf : fiB c ρ E j p with
              | true =>
                rw [if_pos rfl]
                refine j_if_eq (tgt := 44) dX6_which_37 rfl (fun h9 => absurd h9 (by decide)) (fun _ => (j_iconst (v := 1) dX6_which_40 rfl (j_goto (tgt := 45) dX6_which_41 rfl ?_)))
                refine j_istore (lv' := [(4, _), (5, _), (3, _), (1, _), (0, _)]) dX6_which_45 rfl (j_iinc (y := 1) (lv' := [(5, _), (4, _), (3, _), (1, _), (0, _)]) 1 dX6_which_47 rfl rfl rfl (j_goto (tgt := 16) dX6_which_50 rfl ?_))
                rw [nI_1]
                exact ih2 (j + 1) τ 1 (by omega) hτ (by rw [hst, hb, hf]; rfl)
              | false =>
                rw [if_neg (by decide)]
                refine j_if_eq (tgt := 44) dX6_which_37 rfl (fun _ => (j_iconst (v := 0) dX6_which_44 rfl (j_istore (lv' := [(4, _), (5, _), (3, _), (1, _), (0, _)]) dX6_which_45 rfl (j_iinc (y := 1) (lv' := [(5, _), (4, _), (3, _), (1, _), (0, _)]) 1 dX6_which_47 rfl rfl rfl (j_goto (tgt := 16) dX6_which_50 rfl ?_))))) (fun h9 => absurd (by decide) h9)
                rw [nI_1]
                exact ih2 (j + 1) τ 0 (by omega) hτ (by rw [hst, hb, hf]; rfl)
      refine j_iload_n 0 dX6_which_4 rfl (j_bipush (v := 56) dX6_which_5 rfl (j_icmp_ge (tgt := 74) dX6_which_7 rfl (fun g1 => ?_) (fun g1 => ?_)))
      · exact absurd g1 (nI_ge (b := 56) (by omega) (by decide))
      · refine j_iconst (v := 1) dX6_which_10 rfl (j_istore (lv' := [(4, _), (3, _), (1, _), (0, _)]) dX6_which_11 rfl (j_iconst (v := 0) dX6_which_13 rfl (j_istore (lv' := [(5, _), (4, _), (3, _), (1, _), (0, _)]) dX6_which_14 rfl ?_)))
        exact JW.locals [0, 1, 2, 3, 4] rfl (inner E.2.2.2 0 σ 1 (by omega) hz rfl)
  have h0 := loop 56 0 (I 204) rfl sZ
  rw [fa_self] at h0
  refine j_lconst (v := 0) dX6_which_0 rfl (j_lstore_n (lv' := [(1, _), (0, _)]) dX6_which_1 rfl (j_iconst (v := 0) dX6_which_2 rfl (j_istore_n (lv' := [(3, _), (1, _), (0, _)]) dX6_which_3 rfl ?_)))
  exact JW.locals [0, 1, 2] rfl h0

