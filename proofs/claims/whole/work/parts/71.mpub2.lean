theorem c_mTell {g : GT} {Z : ZT} {I : IT} {L : LT} {Post : PT} {a w : Nat} {ρ : RT} (hK : zK Z a = 7) (hL : zL Z a = 47) (hI : I a = ρ) (h3 : 3 ≤ w) (h12 : w ≤ 12) (hp : Post (some (.int (tlF ρ w))) Z I L) : CM g 0 0 0 mX6_tell [.ref 198, .ref a, .int (nI w)] Z I L Post := by
  refine CM_intro ?_
  have hw : w = 3 ∨ w = 4 ∨ w = 5 ∨ w = 6 ∨ w = 7 ∨ w = 8 ∨ w = 9 ∨ w = 10 ∨ w = 11 ∨ w = 12 := by omega
  have t13 : ∀ v : Int32, (v = 1 ∧ ρ 3 = 1 ∨ v = 0 ∧ ρ 3 ≠ 1) → JW g mX6_tell (rmO 0 0 0) (QM Post 0 0) 13 [(3, .int v), (0, .ref 198), (1, .ref a), (2, .int (nI w))] [] 0 0 Z I L := by
    intro v hv
    refine j_iload_n 3 dX6_tell_13 rfl ?_
    rcases hw with e | e | e | e | e | e | e | e | e | e <;> subst e
    · refine j_tsIn (tgt := 52) dX6_tell_14 (by decide) (by decide) rfl rfl ?_
      refine j_aload_n 2 dX6_tell_52 rfl (j_iconst (v := 0) dX6_tell_53 rfl (j_iaload 0 dX6_tell_54 (by first | assumption | rfl) (by first | assumption | rfl) (by omega) (j_iret dX6_tell_55 ?_)))
      rw [hI]
      exact hp
    · refine j_tsIn (tgt := 56) dX6_tell_14 (by decide) (by decide) rfl rfl ?_
      refine j_aload_n 2 dX6_tell_56 rfl (j_iconst (v := 1) dX6_tell_57 rfl (j_iaload 1 dX6_tell_58 (by first | assumption | rfl) (by first | assumption | rfl) (by omega) (j_iret dX6_tell_59 ?_)))
      rw [hI]
      exact hp
    · refine j_tsIn (tgt := 60) dX6_tell_14 (by decide) (by decide) rfl rfl ?_
      refine j_aload_n 2 dX6_tell_60 rfl (j_iconst (v := 3) dX6_tell_61 rfl (j_iaload 3 dX6_tell_62 (by first | assumption | rfl) (by first | assumption | rfl) (by omega) (j_iret dX6_tell_63 ?_)))
      rw [hI]
      exact hp
    · refine j_tsIn (tgt := 64) dX6_tell_14 (by decide) (by decide) rfl rfl ?_
      have hp : Post (some (.int (if ρ 3 = 1 then ρ 4 else -9))) Z I L := hp
      refine j_iload_n 0 dX6_tell_64 rfl (j_if_eq (tgt := 74) dX6_tell_65 rfl (fun g1 => ?_) (fun g1 => ?_))
      · rw [if_neg (by rcases hv with h | h; exact absurd g1 (by rw [h.1]; decide); exact h.2)] at hp
        refine j_bipush (v := -9) dX6_tell_74 rfl (j_iret dX6_tell_76 ?_)
        exact hp
      · rw [if_pos (by rcases hv with h | h; exact h.2; exact absurd h.1 g1)] at hp
        refine j_aload_n 2 dX6_tell_68 rfl (j_iconst (v := 4) dX6_tell_69 rfl (j_iaload 4 dX6_tell_70 (by first | assumption | rfl) (by first | assumption | rfl) (by omega) (j_goto (tgt := 76) dX6_tell_71 rfl (j_iret dX6_tell_76 ?_))))
        rw [hI]
        exact hp
    · refine j_tsIn (tgt := 77) dX6_tell_14 (by decide) (by decide) rfl rfl ?_
      have hp : Post (some (.int (if ρ 3 = 1 then ρ 5 else -9))) Z I L := hp
      refine j_iload_n 0 dX6_tell_77 rfl (j_if_eq (tgt := 87) dX6_tell_78 rfl (fun g1 => ?_) (fun g1 => ?_))
      · rw [if_neg (by rcases hv with h | h; exact absurd g1 (by rw [h.1]; decide); exact h.2)] at hp
        refine j_bipush (v := -9) dX6_tell_87 rfl (j_iret dX6_tell_89 ?_)
        exact hp
      · rw [if_pos (by rcases hv with h | h; exact h.2; exact absurd h.1 g1)] at hp
        refine j_aload_n 2 dX6_tell_81 rfl (j_iconst (v := 5) dX6_tell_82 rfl (j_iaload 5 dX6_tell_83 (by first | assumption | rfl) (by first | assumption | rfl) (by omega) (j_goto (tgt := 89) dX6_tell_84 rfl (j_iret dX6_tell_89 ?_))))
        rw [hI]
        exact hp
    · refine j_tsIn (tgt := 90) dX6_tell_14 (by decide) (by decide) rfl rfl ?_
      have hp : Post (some (.int (if ρ 3 = 1 then ρ 6 else -9))) Z I L := hp
      refine j_iload_n 0 dX6_tell_90 rfl (j_if_eq (tgt := 101) dX6_tell_91 rfl (fun g1 => ?_) (fun g1 => ?_))
      · rw [if_neg (by rcases hv with h | h; exact absurd g1 (by rw [h.1]; decide); exact h.2)] at hp
        refine j_bipush (v := -9) dX6_tell_101 rfl (j_iret dX6_tell_103 ?_)
        exact hp
      · rw [if_pos (by rcases hv with h | h; exact h.2; exact absurd h.1 g1)] at hp
        refine j_aload_n 2 dX6_tell_94 rfl (j_bipush (v := 6) dX6_tell_95 rfl (j_iaload 6 dX6_tell_97 (by first | assumption | rfl) (by first | assumption | rfl) (by omega) (j_goto (tgt := 103) dX6_tell_98 rfl (j_iret dX6_tell_103 ?_))))
        rw [hI]
        exact hp
    · refine j_tsOut (tgt := 104) dX6_tell_14 (by decide) rfl ?_
      refine j_aload_n 2 dX6_tell_104 rfl (j_bipush (v := 10) dX6_tell_105 rfl (j_iload_n 3 dX6_tell_107 rfl (j_iadd dX6_tell_108 (j_bipush (v := 9) dX6_tell_109 rfl (j_isub dX6_tell_111 (j_iaload 10 dX6_tell_112 (by decide) (by first | assumption | rfl) (by omega) (j_iret dX6_tell_113 ?_)))))))
      rw [hI]
      exact hp
    · refine j_tsOut (tgt := 104) dX6_tell_14 (by decide) rfl ?_
      refine j_aload_n 2 dX6_tell_104 rfl (j_bipush (v := 10) dX6_tell_105 rfl (j_iload_n 3 dX6_tell_107 rfl (j_iadd dX6_tell_108 (j_bipush (v := 9) dX6_tell_109 rfl (j_isub dX6_tell_111 (j_iaload 11 dX6_tell_112 (by decide) (by first | assumption | rfl) (by omega) (j_iret dX6_tell_113 ?_)))))))
      rw [hI]
      exact hp
    · refine j_tsOut (tgt := 104) dX6_tell_14 (by decide) rfl ?_
      refine j_aload_n 2 dX6_tell_104 rfl (j_bipush (v := 10) dX6_tell_105 rfl (j_iload_n 3 dX6_tell_107 rfl (j_iadd dX6_tell_108 (j_bipush (v := 9) dX6_tell_109 rfl (j_isub dX6_tell_111 (j_iaload 12 dX6_tell_112 (by decide) (by first | assumption | rfl) (by omega) (j_iret dX6_tell_113 ?_)))))))
      rw [hI]
      exact hp
    · refine j_tsOut (tgt := 104) dX6_tell_14 (by decide) rfl ?_
      refine j_aload_n 2 dX6_tell_104 rfl (j_bipush (v := 10) dX6_tell_105 rfl (j_iload_n 3 dX6_tell_107 rfl (j_iadd dX6_tell_108 (j_bipush (v := 9) dX6_tell_109 rfl (j_isub dX6_tell_111 (j_iaload 13 dX6_tell_112 (by decide) (by first | assumption | rfl) (by omega) (j_iret dX6_tell_113 ?_)))))))
      rw [hI]
      exact hp
  refine j_aload_n 1 dX6_tell_0 rfl (j_iconst (v := 3) dX6_tell_1 rfl (j_iaload 3 dX6_tell_2 (by first | assumption | rfl) (by first | assumption | rfl) (by omega) (j_iconst (v := 1) dX6_tell_3 rfl (j_icmp_ne (tgt := 11) dX6_tell_4 rfl (fun g1 => ?_) (fun g1 => ?_)))))
  · rw [hI] at g1
    refine j_iconst (v := 0) dX6_tell_11 rfl (j_istore_n (lv' := [(3, _), (0, _), (1, _), (2, _)]) dX6_tell_12 rfl ?_)
    exact t13 0 (Or.inr ⟨rfl, g1⟩)
  · rw [hI] at g1
    refine j_iconst (v := 1) dX6_tell_7 rfl (j_goto (tgt := 12) dX6_tell_8 rfl (j_istore_n (lv' := [(3, _), (0, _), (1, _), (2, _)]) dX6_tell_12 rfl ?_))
    exact t13 1 (Or.inl ⟨rfl, g1⟩)
theorem c_thereAre {g : GT} {Z : ZT} {I : IT} {L : LT} {Post : PT} {fr : Nat} {ρ : RT} (m0 : zK Z 198 = 6) (f10 : zS Z 198 10 = true) (hK : zK Z 203 = 7) (hL : zL Z 203 = 47) (hI : I 203 = ρ) (hf : fr ≤ 40) (hp : Post (some (.int (nI (pbN (fun k => ρ (fr + k)) 4)))) Z I L) : CM g 0 0 0 mX6_thereAre [.ref 198, .int (nI fr)] Z I L Post := by
  refine CM_intro ?_
  have loop : ∀ (m k : Nat), k + m = 4 → JW g mX6_thereAre (rmO 0 0 0) (QM Post 0 0) 4 [(3, .int (nI k)), (2, .int (nI (pbN (fun k => ρ (fr + k)) k))), (0, .ref 198), (1, .int (nI fr))] [] 0 0 Z I L := by
    intro m
    induction m with
    | zero =>
      intro k hk
      have : k = 4 := by omega
      subst this
      refine j_iload_n 0 dX6_thereAre_4 rfl (j_iconst (v := 4) dX6_thereAre_5 rfl (j_icmp_ge (tgt := 38) dX6_thereAre_6 rfl (fun g1 => ?_) (fun g1 => ?_)))
      · refine j_iload_n 1 dX6_thereAre_38 rfl (j_iret dX6_thereAre_39 ?_)
        exact hp
      · exact absurd (by decide) g1
    | succ m ih =>
      intro k hk
      have hi : JW g mX6_thereAre (rmO 0 0 0) (QM Post 0 0) 4 [(3, .int (nI (k + 1))), (2, .int (nI (pbN (fun k => ρ (fr + k)) k ||| (if ρ (fr + k) = -9 then 0 else 2 ^ k)))), (0, .ref 198), (1, .int (nI fr))] [] 0 0 Z I L := ih (k + 1) (by omega)
      have h2k : 1 * 2 ^ k < 2 ^ 32 := by
        rw [Nat.one_mul]
        exact Nat.pow_lt_pow_right (by decide) (by omega)
      refine j_iload_n 0 dX6_thereAre_4 rfl (j_iconst (v := 4) dX6_thereAre_5 rfl (j_icmp_ge (tgt := 38) dX6_thereAre_6 rfl (fun g1 => ?_) (fun g1 => ?_)))
      · exact absurd g1 (nI_ge (b := 4) (by omega) (by decide))
      · refine j_iload_n 1 dX6_thereAre_9 rfl (j_aload_n 2 dX6_thereAre_10 rfl (j_getR (b := 203) dX6_thereAre_11 fX6_22 rfl (by first | assumption | rfl) (by first | assumption | rfl) (j_iload_n 3 dX6_thereAre_14 rfl (j_iload_n 0 dX6_thereAre_15 rfl (j_iadd dX6_thereAre_16 (j_iaload (fr + k) dX6_thereAre_17 (nI_add fr k) (by first | assumption | rfl) (by omega) (j_bipush (v := -9) dX6_thereAre_18 rfl (j_icmp_eq (tgt := 29) dX6_thereAre_20 rfl (fun g2 => ?_) (fun g2 => ?_)))))))))
        · rw [hI] at g2
          rw [if_pos g2, Nat.or_zero] at hi
          refine j_iconst (v := 0) dX6_thereAre_29 rfl (j_ior dX6_thereAre_30 ?_)
          rw [show (0 : Int32) = nI 0 from rfl, fa_or, Nat.or_zero]
          refine j_istore_n (lv' := [(2, _), (3, _), (0, _), (1, _)]) dX6_thereAre_31 rfl (j_iinc (y := 1) (lv' := [(3, _), (2, _), (0, _), (1, _)]) 1 dX6_thereAre_32 rfl rfl rfl (j_goto (tgt := 4) dX6_thereAre_35 rfl ?_))
          rw [nI_1]
          exact JW.locals [0, 1, 2, 3] rfl hi
        · rw [hI] at g2
          rw [if_neg g2] at hi
          refine j_iconst (v := 1) dX6_thereAre_23 rfl (j_iload_n 0 dX6_thereAre_24 rfl (j_ishl dX6_thereAre_25 (j_goto (tgt := 30) dX6_thereAre_26 rfl (j_ior dX6_thereAre_30 ?_))))
          rw [show (1 : Int32) <<< (nI k &&& 31) = nI (1 * 2 ^ k) from shlI (s := 1) h2k (by omega), fa_or, Nat.one_mul]
          refine j_istore_n (lv' := [(2, _), (3, _), (0, _), (1, _)]) dX6_thereAre_31 rfl (j_iinc (y := 1) (lv' := [(3, _), (2, _), (0, _), (1, _)]) 1 dX6_thereAre_32 rfl rfl rfl (j_goto (tgt := 4) dX6_thereAre_35 rfl ?_))
          rw [nI_1]
          exact JW.locals [0, 1, 2, 3] rfl hi
  refine j_iconst (v := 0) dX6_thereAre_0 rfl (j_istore_n (lv' := [(2, _), (0, _), (1, _)]) dX6_thereAre_1 rfl (j_iconst (v := 0) dX6_thereAre_2 rfl (j_istore_n (lv' := [(3, _), (2, _), (0, _), (1, _)]) dX6_thereAre_3 rfl ?_)))
  exact JW.locals [0, 1, 2, 3] rfl (loop 4 0 rfl)
theorem q_told {g : GT} {Z : ZT} {I : IT} {L : LT} {Post : PT} {t : Nat → Nat} {n : Nat} {c : CT} {w : Nat} {ρ : RT} {A : Nat × Nat × (Nat → RT)} {K : (Nat → RT) × (Nat → Bool)} {E : (Nat → Int32) × (Nat → Nat) × (Nat → Nat) × Nat} {sd : Int64} {j : Nat} (hM : isM Z) (hs : MSt t n c w ρ A K E sd I L) (ho : OKs c w ρ A K E) (hj : j ≤ 6) (hp : Post (some (.int (toI ρ j))) Z I L) : CM g 1 0 0 mX6_told [.ref 198, .int (nI j)] Z I L Post := by
  obtain ⟨m0, f0, f3, f6, f7, f10, f11, f12, f15, f16, f17, f18, f19, f22, f24, k199, l199, k200, l200, k201, l201, k202, l202, k203, l203, k204, l204, k205, l205, k206, l206, k207, l207, k208, l208, k209, l209, k210, l210, k211, l211, k212, l212⟩ := id hM
  have hMo : isMo Z := ⟨m0, f3, f6, f7, k200, l200, k201, l201, k202, l202⟩
  obtain ⟨sT, ⟨sC, s4, s8, s9⟩, sN, sA, sK, sE, sL, sZ⟩ := id hs
  obtain ⟨oC, oW, oN, oA, oK, oE⟩ := id ho
  refine CM_intro ?_
  have hw : j = 0 ∨ j = 1 ∨ j = 2 ∨ j = 3 ∨ j = 4 ∨ j = 5 ∨ j = 6 := by omega
  refine j_iload_n 1 dX6_told_0 rfl ?_
  rcases hw with e | e | e | e | e | e | e <;> subst e
  · refine j_tsIn (tgt := 44) dX6_told_1 (by decide) (by decide) rfl rfl ?_
    refine j_aload_n 0 dX6_told_44 rfl (j_getR (b := 203) dX6_told_45 fX6_22 rfl (by first | assumption | rfl) (by first | assumption | rfl) (j_bipush (v := 14) dX6_told_48 rfl (j_iaload 14 dX6_told_50 (by first | assumption | rfl) (by first | assumption | rfl) (by omega) (j_iret dX6_told_51 ?_))))
    rw [sN]
    exact hp
  · refine j_tsIn (tgt := 52) dX6_told_1 (by decide) (by decide) rfl rfl ?_
    refine j_aload_n 0 dX6_told_52 rfl (j_getR (b := 203) dX6_told_53 fX6_22 rfl (by first | assumption | rfl) (by first | assumption | rfl) (j_bipush (v := 15) dX6_told_56 rfl (j_iaload 15 dX6_told_58 (by first | assumption | rfl) (by first | assumption | rfl) (by omega) (j_iret dX6_told_59 ?_))))
    rw [sN]
    exact hp
  · refine j_tsIn (tgt := 60) dX6_told_1 (by decide) (by decide) rfl rfl ?_
    refine j_aload_n 0 dX6_told_60 rfl (j_getR (b := 203) dX6_told_61 fX6_22 rfl (by first | assumption | rfl) (by first | assumption | rfl) (j_bipush (v := 16) dX6_told_64 rfl (j_iaload 16 dX6_told_66 (by first | assumption | rfl) (by first | assumption | rfl) (by omega) (j_iret dX6_told_67 ?_))))
    rw [sN]
    exact hp
  · refine j_tsIn (tgt := 68) dX6_told_1 (by decide) (by decide) rfl rfl ?_
    refine j_aload_n 0 dX6_told_68 rfl (j_getR (b := 203) dX6_told_69 fX6_22 rfl (by first | assumption | rfl) (by first | assumption | rfl) (j_bipush (v := 17) dX6_told_72 rfl (j_iaload 17 dX6_told_74 (by first | assumption | rfl) (by first | assumption | rfl) (by omega) (j_iret dX6_told_75 ?_))))
    rw [sN]
    exact hp
  · refine j_tsIn (tgt := 76) dX6_told_1 (by decide) (by decide) rfl rfl ?_
    refine j_aload_n 0 dX6_told_76 rfl (j_getR (b := 203) dX6_told_77 fX6_22 rfl (by first | assumption | rfl) (by first | assumption | rfl) (j_bipush (v := 30) dX6_told_80 rfl (j_iaload 30 dX6_told_82 (by first | assumption | rfl) (by first | assumption | rfl) (by omega) (j_iret dX6_told_83 ?_))))
    rw [sN]
    exact hp
  · refine j_tsIn (tgt := 84) dX6_told_1 (by decide) (by decide) rfl rfl ?_
    refine j_aload_n 0 dX6_told_84 rfl (j_bipush (v := 22) dX6_told_85 rfl (j_V1 dX6_told_87 kX6_187 (by first | assumption | rfl) (c_thereAre (fr := 22) m0 f10 k203 l203 sN (by decide) ?_)))
    refine j_iret dX6_told_90 ?_
    exact hp
  · refine j_tsIn (tgt := 91) dX6_told_1 (by decide) (by decide) rfl rfl ?_
    refine j_aload_n 0 dX6_told_91 rfl (j_bipush (v := 18) dX6_told_92 rfl (j_V1 dX6_told_94 kX6_187 (by first | assumption | rfl) (c_thereAre (fr := 18) m0 f10 k203 l203 sN (by decide) ?_)))
    refine j_iret dX6_told_97 ?_
    exact hp


theorem q_told_b {g : GT} {Z : ZT} {I : IT} {L : LT} {Post : PT} {t : Nat → Nat} {n : Nat} {c : CT} {w : Nat} {ρ : RT} {A : Nat × Nat × (Nat → RT)} {K : (Nat → RT) × (Nat → Bool)} {E : (Nat → Int32) × (Nat → Nat) × (Nat → Nat) × Nat} {sd : Int64} {x : Int32} (hM : isM Z) (hs : MSt t n c w ρ A K E sd I L) (ho : OKs c w ρ A K E) (hx : x.toInt < 0 ∨ 6 < x.toInt) (hp : Post (some (.int (-2))) Z I L) : CM g 1 0 0 mX6_told [.ref 198, .int x] Z I L Post := by
  obtain ⟨m0, f0, f3, f6, f7, f10, f11, f12, f15, f16, f17, f18, f19, f22, f24, k199, l199, k200, l200, k201, l201, k202, l202, k203, l203, k204, l204, k205, l205, k206, l206, k207, l207, k208, l208, k209, l209, k210, l210, k211, l211, k212, l212⟩ := id hM
  have hMo : isMo Z := ⟨m0, f3, f6, f7, k200, l200, k201, l201, k202, l202⟩
  obtain ⟨sT, ⟨sC, s4, s8, s9⟩, sN, sA, sK, sE, sL, sZ⟩ := id hs
  obtain ⟨oC, oW, oN, oA, oK, oE⟩ := id ho
  refine CM_intro ?_
  refine j_iload_n 1 dX6_told_0 rfl ?_
  refine j_tsOut (tgt := 98) dX6_told_1 hx rfl ?_
  refine j_bipush (v := -2) dX6_told_98 rfl (j_iret dX6_told_100 ?_)
  exact hp

theorem q_about {g : GT} {Z : ZT} {I : IT} {L : LT} {Post : PT} {t : Nat → Nat} {n : Nat} {c : CT} {w : Nat} {ρ : RT} {A : Nat × Nat × (Nat → RT)} {K : (Nat → RT) × (Nat → Bool)} {E : (Nat → Int32) × (Nat → Nat) × (Nat → Nat) × Nat} {sd : Int64} {j : Nat} (hM : isM Z) (hs : MSt t n c w ρ A K E sd I L) (ho : OKs c w ρ A K E) (hj : j ≤ 17) (hp : Post (some (.int (abI n c w ρ A E j))) Z I L) : CM g 2 0 0 mX6_about [.ref 198, .int (nI j)] Z I L Post := by
  obtain ⟨m0, f0, f3, f6, f7, f10, f11, f12, f15, f16, f17, f18, f19, f22, f24, k199, l199, k200, l200, k201, l201, k202, l202, k203, l203, k204, l204, k205, l205, k206, l206, k207, l207, k208, l208, k209, l209, k210, l210, k211, l211, k212, l212⟩ := id hM
  have hMo : isMo Z := ⟨m0, f3, f6, f7, k200, l200, k201, l201, k202, l202⟩
  obtain ⟨sT, ⟨sC, s4, s8, s9⟩, sN, sA, sK, sE, sL, sZ⟩ := id hs
  obtain ⟨oC, oW, oN, oA, oK, oE⟩ := id ho
  refine CM_intro ?_
  refine j_iload_n 1 dX6_about_0 rfl ?_
  have hw : j = 0 ∨ j = 1 ∨ j = 2 ∨ j = 13 ∨ j = 14 ∨ j = 15 ∨ j = 16 ∨ j = 17 ∨ (j = 3 ∨ j = 4 ∨ j = 5 ∨ j = 6 ∨ j = 7 ∨ j = 8 ∨ j = 9 ∨ j = 10 ∨ j = 11 ∨ j = 12) := by omega
  rcases hw with e | e | e | e | e | e | e | e | e
  · subst e
    refine j_tsIn (tgt := 88) dX6_about_1 (by decide) (by decide) rfl rfl ?_
    refine j_aload_n 0 dX6_about_88 rfl (j_getI dX6_about_89 fX6_53 (by first | assumption | rfl) (j_iret dX6_about_92 ?_))
    rw [sC.1]
    exact hp
  · subst e
    refine j_tsIn (tgt := 93) dX6_about_1 (by decide) (by decide) rfl rfl ?_
    refine j_aload_n 0 dX6_about_93 rfl (j_getI dX6_about_94 fX6_82 (by first | assumption | rfl) (j_iret dX6_about_97 ?_))
    rw [s4]
    exact hp
  · subst e
    refine j_tsIn (tgt := 98) dX6_about_1 (by decide) (by decide) rfl rfl ?_
    refine j_aload_n 0 dX6_about_98 rfl (j_getI dX6_about_99 fX6_57 (by first | assumption | rfl) (j_iret dX6_about_102 ?_))
    rw [sC.2.2.2.2.1]
    exact hp
  · subst e
    refine j_tsIn (tgt := 103) dX6_about_1 (by decide) (by decide) rfl rfl ?_
    refine j_aload_n 0 dX6_about_103 rfl (j_getI dX6_about_104 fX6_118 (by first | assumption | rfl) (j_iret dX6_about_107 ?_))
    rw [sA.2.2.2.1]
    exact hp
  · subst e
    refine j_tsIn (tgt := 108) dX6_about_1 (by decide) (by decide) rfl rfl ?_
    refine j_aload_n 0 dX6_about_108 rfl (j_getI dX6_about_109 fX6_174 (by first | assumption | rfl) (j_iret dX6_about_112 ?_))
    rw [sE.1]
    exact hp
  · subst e
    refine j_tsIn (tgt := 113) dX6_about_1 (by decide) (by decide) rfl rfl ?_
    refine j_aload_n 0 dX6_about_113 rfl (j_getI dX6_about_114 fX6_94 (by first | assumption | rfl) (j_iret dX6_about_117 ?_))
    rw [sT.2.1]
    exact hp
  · subst e
    refine j_tsIn (tgt := 118) dX6_about_1 (by decide) (by decide) rfl rfl ?_
    refine j_aload_n 0 dX6_about_118 rfl (j_getI dX6_about_119 fX6_76 (by first | assumption | rfl) (j_iret dX6_about_122 ?_))
    rw [s8]
    exact hp
  · subst e
    refine j_tsIn (tgt := 123) dX6_about_1 (by decide) (by decide) rfl rfl ?_
    refine j_aload_n 0 dX6_about_123 rfl (j_getI dX6_about_124 fX6_79 (by first | assumption | rfl) (j_iret dX6_about_127 ?_))
    rw [s9]
    exact hp
  · have a3 : 3 ≤ j := by omega
    have a12 : j ≤ 12 := by omega
    have hab : abI n c w ρ A E j = tlF ρ j := by
      unfold abI
      rw [if_neg (by omega), if_neg (by omega), if_neg (by omega), if_neg (by omega), if_neg (by omega), if_neg (by omega), if_neg (by omega), if_neg (by omega)]
    rw [hab] at hp
    have h128 : JW g mX6_about (rmO 2 0 0) (QM Post 0 0) 128 [(0, .ref 198), (1, .int (nI j))] [] 0 0 Z I L := by
      refine j_iload_n 1 dX6_about_128 rfl (j_i2l dX6_about_129 (j_ldc2 (v := 3) dX6_about_130 (List.mem_of_getElem? (i := 853) (by decide +kernel)) (j_ldc2 (v := 12) dX6_about_133 (List.mem_of_getElem? (i := 854) (by decide +kernel)) (j_S3 dX6_about_136 kX6_68 (c_inB 3 12 (by decide) rfl rfl ⟨fun _ _ _ _ => ?_, fun h => absurd rfl (h j (by omega) (by omega))⟩)))))
      refine j_if_eq (tgt := 154) dX6_about_139 rfl (fun h9 => absurd h9 (by decide)) (fun _ => (j_aload_n 0 dX6_about_142 rfl (j_aload_n 0 dX6_about_143 rfl (j_getR (b := 203) dX6_about_144 fX6_22 rfl (by first | assumption | rfl) (by first | assumption | rfl) (j_iload_n 1 dX6_about_147 rfl (j_V2 dX6_about_148 kX6_179 (by first | assumption | rfl) (c_mTell k203 l203 sN a3 a12 ?_)))))))
      refine j_goto (tgt := 156) dX6_about_151 rfl (j_iret dX6_about_156 ?_)
      exact hp
    clear hj hab a3 a12 hp
    rcases e with e | e | e | e | e | e | e | e | e | e <;> subst e
    all_goals exact j_tsIn (tgt := 128) dX6_about_1 (by decide) (by decide) rfl rfl h128

theorem q_about_b {g : GT} {Z : ZT} {I : IT} {L : LT} {Post : PT} {t : Nat → Nat} {n : Nat} {c : CT} {w : Nat} {ρ : RT} {A : Nat × Nat × (Nat → RT)} {K : (Nat → RT) × (Nat → Bool)} {E : (Nat → Int32) × (Nat → Nat) × (Nat → Nat) × Nat} {sd : Int64} {x : Int32} (hM : isM Z) (hs : MSt t n c w ρ A K E sd I L) (ho : OKs c w ρ A K E) (hx : x.toInt < 0 ∨ 17 < x.toInt) (hp : Post (some (.int (-2))) Z I L) : CM g 2 0 0 mX6_about [.ref 198, .int x] Z I L Post := by
  obtain ⟨m0, f0, f3, f6, f7, f10, f11, f12, f15, f16, f17, f18, f19, f22, f24, k199, l199, k200, l200, k201, l201, k202, l202, k203, l203, k204, l204, k205, l205, k206, l206, k207, l207, k208, l208, k209, l209, k210, l210, k211, l211, k212, l212⟩ := id hM
  have hMo : isMo Z := ⟨m0, f3, f6, f7, k200, l200, k201, l201, k202, l202⟩
  obtain ⟨sT, ⟨sC, s4, s8, s9⟩, sN, sA, sK, sE, sL, sZ⟩ := id hs
  obtain ⟨oC, oW, oN, oA, oK, oE⟩ := id ho
  refine CM_intro ?_
  refine j_iload_n 1 dX6_about_0 rfl ?_
  refine j_tsOut (tgt := 128) dX6_about_1 hx rfl ?_
  refine j_iload_n 1 dX6_about_128 rfl (j_i2l dX6_about_129 (j_ldc2 (v := 3) dX6_about_130 (List.mem_of_getElem? (i := 853) (by decide +kernel)) (j_ldc2 (v := 12) dX6_about_133 (List.mem_of_getElem? (i := 854) (by decide +kernel)) (j_S3 dX6_about_136 kX6_68 (c_inB 3 12 (by decide) rfl rfl ⟨fun j hj0 hj e => ?_, fun _ => ?_⟩)))))
  · exfalso
    rw [e, nI_toInt (by omega)] at hx
    omega
  · refine j_if_eq (tgt := 154) dX6_about_139 rfl (fun _ => (j_bipush (v := -2) dX6_about_154 rfl (j_iret dX6_about_156 ?_))) (fun h9 => absurd (by decide) h9)
    exact hp

theorem c_aheadOf {g : GT} {Z : ZT} {I : IT} {L : LT} {Post : PT} {k m : Nat} {ρ : RT} (m0 : zK Z 198 = 6) (f10 : zS Z 198 10 = true) (hK : zK Z 203 = 7) (hL : zL Z 203 = 47) (hI : I 203 = ρ) (hm : ρ 30 = nI m) (h8 : m ≤ 8) (hk : k < m) (hp : Post (some (.int (nI (abN ρ k m)))) Z I L) : CM g 0 0 0 mX6_aheadOf [.ref 198, .int (nI k)] Z I L Post := by
  subst hI
  refine CM_intro ?_
  have loop : ∀ (r j : Nat), j + r = m → JW g mX6_aheadOf (rmO 0 0 0) (QM Post 0 0) 4 [(3, .int (nI j)), (2, .int (nI (abN (I 203) k j))), (0, .ref 198), (1, .int (nI k))] [] 0 0 Z I L := by
    intro r
    induction r with
    | zero =>
      intro j hj
      have : j = m := by omega
      subst this
      refine j_iload_n 0 dX6_aheadOf_4 rfl (j_aload_n 2 dX6_aheadOf_5 rfl (j_getR (b := 203) dX6_aheadOf_6 fX6_22 rfl (by first | assumption | rfl) (by first | assumption | rfl) (j_bipush (v := 30) dX6_aheadOf_9 rfl (j_iaload 30 dX6_aheadOf_11 (by first | assumption | rfl) (by first | assumption | rfl) (by omega) (j_icmp_ge (tgt := 104) dX6_aheadOf_12 rfl (fun g1 => ?_) (fun g1 => ?_))))))
      · refine j_iload_n 1 dX6_aheadOf_104 rfl (j_iret dX6_aheadOf_105 ?_)
        exact hp
      · rw [hm] at g1
        exact absurd (nI_le (Nat.le_refl _) (by omega)) g1
    | succ r ih =>
      intro j hj
      have hi : JW g mX6_aheadOf (rmO 0 0 0) (QM Post 0 0) 4 [(3, .int (nI (j + 1))), (2, .int (nI (abN (I 203) k j + (if cbB (I 203) j k = true then 1 else 0)))), (0, .ref 198), (1, .int (nI k))] [] 0 0 Z I L := ih (j + 1) (by omega)
      have t1 : cbB (I 203) j k = true → JW g mX6_aheadOf (rmO 0 0 0) (QM Post 0 0) 78 [(3, .int (nI j)), (2, .int (nI (abN (I 203) k j))), (0, .ref 198), (1, .int (nI k))] [] 0 0 Z I L := by
        intro hb
        rw [if_pos hb] at hi
        refine j_iconst (v := 1) dX6_aheadOf_78 rfl (j_goto (tgt := 83) dX6_aheadOf_79 rfl (j_istore (lv' := [(4, _), (3, _), (2, _), (0, _), (1, _)]) dX6_aheadOf_83 rfl (j_iload_n 2 dX6_aheadOf_85 rfl (j_iload 0 dX6_aheadOf_86 rfl (j_if_eq (tgt := 95) dX6_aheadOf_88 rfl (fun h9 => absurd h9 (by decide)) (fun _ => (j_iconst (v := 1) dX6_aheadOf_91 rfl (j_goto (tgt := 96) dX6_aheadOf_92 rfl (j_iadd dX6_aheadOf_96 ?_)))))))))
        rw [nI_1]
        refine j_istore_n (lv' := [(2, _), (4, _), (3, _), (0, _), (1, _)]) dX6_aheadOf_97 rfl (j_iinc (y := 1) (lv' := [(3, _), (2, _), (4, _), (0, _), (1, _)]) 2 dX6_aheadOf_98 rfl rfl rfl (j_goto (tgt := 4) dX6_aheadOf_101 rfl ?_))
        rw [nI_1]
        exact JW.locals [0, 1, 3, 4] rfl hi
      have t0 : cbB (I 203) j k = false → JW g mX6_aheadOf (rmO 0 0 0) (QM Post 0 0) 82 [(3, .int (nI j)), (2, .int (nI (abN (I 203) k j))), (0, .ref 198), (1, .int (nI k))] [] 0 0 Z I L := by
        intro hb
        rw [if_neg (by rw [hb]; decide), Nat.add_zero] at hi
        refine j_iconst (v := 0) dX6_aheadOf_82 rfl (j_istore (lv' := [(4, _), (3, _), (2, _), (0, _), (1, _)]) dX6_aheadOf_83 rfl (j_iload_n 2 dX6_aheadOf_85 rfl (j_iload 0 dX6_aheadOf_86 rfl (j_if_eq (tgt := 95) dX6_aheadOf_88 rfl (fun _ => (j_iconst (v := 0) dX6_aheadOf_95 rfl (j_iadd dX6_aheadOf_96 ?_))) (fun h9 => absurd (by decide) h9)))))
        rw [Int32.add_zero]
        refine j_istore_n (lv' := [(2, _), (4, _), (3, _), (0, _), (1, _)]) dX6_aheadOf_97 rfl (j_iinc (y := 1) (lv' := [(3, _), (2, _), (4, _), (0, _), (1, _)]) 2 dX6_aheadOf_98 rfl rfl rfl (j_goto (tgt := 4) dX6_aheadOf_101 rfl ?_))
        rw [nI_1]
        exact JW.locals [0, 1, 3, 4] rfl hi
      refine j_iload_n 0 dX6_aheadOf_4 rfl (j_aload_n 2 dX6_aheadOf_5 rfl (j_getR (b := 203) dX6_aheadOf_6 fX6_22 rfl (by first | assumption | rfl) (by first | assumption | rfl) (j_bipush (v := 30) dX6_aheadOf_9 rfl (j_iaload 30 dX6_aheadOf_11 (by first | assumption | rfl) (by first | assumption | rfl) (by omega) (j_icmp_ge (tgt := 104) dX6_aheadOf_12 rfl (fun g1 => ?_) (fun g1 => ?_))))))
      · rw [hm] at g1
        exact absurd g1 (nI_ge (by omega) (by omega))
      · refine j_aload_n 2 dX6_aheadOf_15 rfl (j_getR (b := 203) dX6_aheadOf_16 fX6_22 rfl (by first | assumption | rfl) (by first | assumption | rfl) (j_bipush (v := 39) dX6_aheadOf_19 rfl (j_iload_n 0 dX6_aheadOf_21 rfl (j_iadd dX6_aheadOf_22 (j_iaload (39 + j) dX6_aheadOf_23 (nI_add 39 j) (by first | assumption | rfl) (by omega) (j_aload_n 2 dX6_aheadOf_24 rfl (j_getR (b := 203) dX6_aheadOf_25 fX6_22 rfl (by first | assumption | rfl) (by first | assumption | rfl) (j_bipush (v := 39) dX6_aheadOf_28 rfl (j_iload_n 3 dX6_aheadOf_30 rfl (j_iadd dX6_aheadOf_31 (j_iaload (39 + k) dX6_aheadOf_32 (nI_add 39 k) (by first | assumption | rfl) (by omega) (j_icmp_gt (tgt := 78) dX6_aheadOf_33 rfl (fun g2 => ?_) (fun g2 => ?_)))))))))))))
        · refine t1 ?_
          unfold cbB
          rw [decide_eq_true (show I 203 (39 + k) < I 203 (39 + j) from g2), Bool.true_or]
        · refine j_aload_n 2 dX6_aheadOf_36 rfl (j_getR (b := 203) dX6_aheadOf_37 fX6_22 rfl (by first | assumption | rfl) (by first | assumption | rfl) (j_bipush (v := 39) dX6_aheadOf_40 rfl (j_iload_n 0 dX6_aheadOf_42 rfl (j_iadd dX6_aheadOf_43 (j_iaload (39 + j) dX6_aheadOf_44 (nI_add 39 j) (by first | assumption | rfl) (by omega) (j_aload_n 2 dX6_aheadOf_45 rfl (j_getR (b := 203) dX6_aheadOf_46 fX6_22 rfl (by first | assumption | rfl) (by first | assumption | rfl) (j_bipush (v := 39) dX6_aheadOf_49 rfl (j_iload_n 3 dX6_aheadOf_51 rfl (j_iadd dX6_aheadOf_52 (j_iaload (39 + k) dX6_aheadOf_53 (nI_add 39 k) (by first | assumption | rfl) (by omega) (j_icmp_ne (tgt := 82) dX6_aheadOf_54 rfl (fun g3 => ?_) (fun g3 => ?_)))))))))))))
          · refine t0 ?_
            unfold cbB
            rw [decide_eq_false (show ¬ I 203 (39 + k) < I 203 (39 + j) from g2), decide_eq_false g3, Bool.false_and, Bool.false_or]
          · refine j_aload_n 2 dX6_aheadOf_57 rfl (j_getR (b := 203) dX6_aheadOf_58 fX6_22 rfl (by first | assumption | rfl) (by first | assumption | rfl) (j_bipush (v := 31) dX6_aheadOf_61 rfl (j_iload_n 0 dX6_aheadOf_63 rfl (j_iadd dX6_aheadOf_64 (j_iaload (31 + j) dX6_aheadOf_65 (nI_add 31 j) (by first | assumption | rfl) (by omega) (j_aload_n 2 dX6_aheadOf_66 rfl (j_getR (b := 203) dX6_aheadOf_67 fX6_22 rfl (by first | assumption | rfl) (by first | assumption | rfl) (j_bipush (v := 31) dX6_aheadOf_70 rfl (j_iload_n 3 dX6_aheadOf_72 rfl (j_iadd dX6_aheadOf_73 (j_iaload (31 + k) dX6_aheadOf_74 (nI_add 31 k) (by first | assumption | rfl) (by omega) (j_icmp_ge (tgt := 82) dX6_aheadOf_75 rfl (fun g4 => ?_) (fun g4 => ?_)))))))))))))
            · refine t0 ?_
              unfold cbB
              rw [decide_eq_false (show ¬ I 203 (39 + k) < I 203 (39 + j) from g2), decide_eq_false (show ¬ I 203 (31 + j) < I 203 (31 + k) from Int32.not_lt.mpr g4), Bool.and_false, Bool.false_or]
            · refine t1 ?_
              unfold cbB
              rw [decide_eq_true g3, decide_eq_true (show I 203 (31 + j) < I 203 (31 + k) from Int32.not_le.mp g4), Bool.and_true, Bool.or_true]
  refine j_iconst (v := 0) dX6_aheadOf_0 rfl (j_istore_n (lv' := [(2, _), (0, _), (1, _)]) dX6_aheadOf_1 rfl (j_iconst (v := 0) dX6_aheadOf_2 rfl (j_istore_n (lv' := [(3, _), (2, _), (0, _), (1, _)]) dX6_aheadOf_3 rfl ?_)))
  exact JW.locals [0, 1, 2, 3] rfl (loop m 0 (by omega))
def liF (ρ : RT) (m : Nat) (x b : Int32) : Nat → Int32
  | 0 => -9
  | k + 1 => if nI (abN ρ k m) = x then (if b = 0 then ρ (31 + k) else ρ (39 + k)) else liF ρ m x b k
theorem q_list {g : GT} {Z : ZT} {I : IT} {L : LT} {Post : PT} {t : Nat → Nat} {n : Nat} {c : CT} {w : Nat} {ρ : RT} {A : Nat × Nat × (Nat → RT)} {K : (Nat → RT) × (Nat → Bool)} {E : (Nat → Int32) × (Nat → Nat) × (Nat → Nat) × Nat} {sd : Int64} {m : Nat} {x b : Int32} (hM : isM Z) (hs : MSt t n c w ρ A K E sd I L) (ho : OKs c w ρ A K E) (hm : ρ 30 = nI m) (hm8 : m ≤ 8) (hp : Post (some (.int (liF ρ m x b m))) Z I L) : CM g 1 0 0 mX6_list [.ref 198, .int x, .int b] Z I L Post := by
  obtain ⟨m0, f0, f3, f6, f7, f10, f11, f12, f15, f16, f17, f18, f19, f22, f24, k199, l199, k200, l200, k201, l201, k202, l202, k203, l203, k204, l204, k205, l205, k206, l206, k207, l207, k208, l208, k209, l209, k210, l210, k211, l211, k212, l212⟩ := id hM
  have hMo : isMo Z := ⟨m0, f3, f6, f7, k200, l200, k201, l201, k202, l202⟩
  obtain ⟨sT, ⟨sC, s4, s8, s9⟩, sN, sA, sK, sE, sL, sZ⟩ := id hs
  obtain ⟨oC, oW, oN, oA, oK, oE⟩ := id ho
  refine CM_intro ?_
  have loop : ∀ (r j : Nat), j + r = m → JW g mX6_list (rmO 1 0 0) (QM Post 0 0) 6 [(4, .int (nI j)), (3, .int (liF ρ m x b j)), (0, .ref 198), (1, .int x), (2, .int b)] [] 0 0 Z I L := by
    intro r
    induction r with
    | zero =>
      intro j hj
      have : j = m := by omega
      subst this
      refine j_iload 0 dX6_list_6 rfl (j_aload_n 2 dX6_list_8 rfl (j_getR (b := 203) dX6_list_9 fX6_22 rfl (by first | assumption | rfl) (by first | assumption | rfl) (j_bipush (v := 30) dX6_list_12 rfl (j_iaload 30 dX6_list_14 (by first | assumption | rfl) (by first | assumption | rfl) (by omega) (j_icmp_ge (tgt := 58) dX6_list_15 rfl (fun g1 => ?_) (fun g1 => ?_))))))
      · refine j_iload_n 1 dX6_list_58 rfl (j_iret dX6_list_59 ?_)
        exact hp
      · rw [sN, hm] at g1
        exact absurd (nI_le (Nat.le_refl _) (by omega)) g1
    | succ r ih =>
      intro j hj
      have hi : JW g mX6_list (rmO 1 0 0) (QM Post 0 0) 6 [(4, .int (nI (j + 1))), (3, .int (if nI (abN ρ j m) = x then (if b = 0 then ρ (31 + j) else ρ (39 + j)) else liF ρ m x b j)), (0, .ref 198), (1, .int x), (2, .int b)] [] 0 0 Z I L := ih (j + 1) (by omega)
      refine j_iload 0 dX6_list_6 rfl (j_aload_n 2 dX6_list_8 rfl (j_getR (b := 203) dX6_list_9 fX6_22 rfl (by first | assumption | rfl) (by first | assumption | rfl) (j_bipush (v := 30) dX6_list_12 rfl (j_iaload 30 dX6_list_14 (by first | assumption | rfl) (by first | assumption | rfl) (by omega) (j_icmp_ge (tgt := 58) dX6_list_15 rfl (fun g1 => ?_) (fun g1 => ?_))))))
      · rw [sN, hm] at g1
        exact absurd g1 (nI_ge (by omega) (by omega))
      · refine j_aload_n 2 dX6_list_18 rfl (j_iload 0 dX6_list_19 rfl (j_V1 dX6_list_21 kX6_190 (by first | assumption | rfl) (c_aheadOf m0 f10 k203 l203 sN hm hm8 (show j < m by omega) ?_)))
        refine j_iload_n 3 dX6_list_24 rfl (j_icmp_ne (tgt := 50) dX6_list_25 rfl (fun g2 => ?_) (fun g2 => ?_))
        · rw [if_neg g2] at hi
          refine j_iload_n 1 dX6_list_50 rfl (j_istore_n (lv' := [(3, _), (4, _), (0, _), (1, _), (2, _)]) dX6_list_51 rfl (j_iinc (y := 1) (lv' := [(4, _), (3, _), (0, _), (1, _), (2, _)]) 1 dX6_list_52 rfl rfl rfl (j_goto (tgt := 6) dX6_list_55 rfl ?_)))
          rw [nI_1]
          exact JW.locals [0, 1, 2, 3, 4] rfl hi
        · rw [if_pos g2] at hi
          refine j_aload_n 2 dX6_list_28 rfl (j_getR (b := 203) dX6_list_29 fX6_22 rfl (by first | assumption | rfl) (by first | assumption | rfl) (j_iload_n 4 dX6_list_32 rfl (j_if_eq (tgt := 41) dX6_list_33 rfl (fun g3 => ?_) (fun g3 => ?_))))
          · rw [if_pos g3] at hi
            refine j_bipush (v := 31) dX6_list_41 rfl (j_iload 0 dX6_list_43 rfl (j_iadd dX6_list_45 (j_iaload (31 + j) dX6_list_46 (nI_add 31 j) (by first | assumption | rfl) (by omega) (j_goto (tgt := 51) dX6_list_47 rfl ?_))))
            rw [sN]
            refine j_istore_n (lv' := [(3, _), (4, _), (0, _), (1, _), (2, _)]) dX6_list_51 rfl (j_iinc (y := 1) (lv' := [(4, _), (3, _), (0, _), (1, _), (2, _)]) 1 dX6_list_52 rfl rfl rfl (j_goto (tgt := 6) dX6_list_55 rfl ?_))
            rw [nI_1]
            exact JW.locals [0, 1, 2, 3, 4] rfl hi
          · rw [if_neg g3] at hi
            refine j_bipush (v := 39) dX6_list_36 rfl (j_goto (tgt := 43) dX6_list_38 rfl (j_iload 0 dX6_list_43 rfl (j_iadd dX6_list_45 (j_iaload (39 + j) dX6_list_46 (nI_add 39 j) (by first | assumption | rfl) (by omega) (j_goto (tgt := 51) dX6_list_47 rfl ?_)))))
            rw [sN]
            refine j_istore_n (lv' := [(3, _), (4, _), (0, _), (1, _), (2, _)]) dX6_list_51 rfl (j_iinc (y := 1) (lv' := [(4, _), (3, _), (0, _), (1, _), (2, _)]) 1 dX6_list_52 rfl rfl rfl (j_goto (tgt := 6) dX6_list_55 rfl ?_))
            rw [nI_1]
            exact JW.locals [0, 1, 2, 3, 4] rfl hi
  refine j_bipush (v := -9) dX6_list_0 rfl (j_istore_n (lv' := [(3, _), (0, _), (1, _), (2, _)]) dX6_list_2 rfl (j_iconst (v := 0) dX6_list_3 rfl (j_istore (lv' := [(4, _), (3, _), (0, _), (1, _), (2, _)]) dX6_list_4 rfl ?_)))
  exact JW.locals [0, 1, 2, 3, 4] rfl (loop m 0 (by omega))

theorem q_write {g : GT} {Z : ZT} {I : IT} {L : LT} {Post : PT} {t : Nat → Nat} {n : Nat} {c : CT} {w : Nat} {ρ : RT} {A : Nat × Nat × (Nat → RT)} {K : (Nat → RT) × (Nat → Bool)} {E : (Nat → Int32) × (Nat → Nat) × (Nat → Nat) × Nat} {sd : Int64} {l : Nat} (hM : isM Z) (hs : MSt t n c w ρ A K E sd I L) (ho : OKs c w ρ A K E) (hl : l < 256) (hn : n < 40) (hp : ∀ I', MSt (tU t n l) (n + 1) c w ρ A K E sd I' L → eqC I I' → Post (some (.int (nI (n + 1)))) Z I' L) : CM g 1 0 0 mX6_write [.ref 198, .int (nI l)] Z I L Post := by
  obtain ⟨m0, f0, f3, f6, f7, f10, f11, f12, f15, f16, f17, f18, f19, f22, f24, k199, l199, k200, l200, k201, l201, k202, l202, k203, l203, k204, l204, k205, l205, k206, l206, k207, l207, k208, l208, k209, l209, k210, l210, k211, l211, k212, l212⟩ := id hM
  have hMo : isMo Z := ⟨m0, f3, f6, f7, k200, l200, k201, l201, k202, l202⟩
  obtain ⟨sT, ⟨sC, s4, s8, s9⟩, sN, sA, sK, sE, sL, sZ⟩ := id hs
  obtain ⟨oC, oW, oN, oA, oK, oE⟩ := id ho
  refine CM_intro ?_
  have st := sT.2.1
  refine j_iload_n 1 dX6_write_0 rfl (j_i2l dX6_write_1 (j_lconst (v := 0) dX6_write_2 rfl (j_ldc2 (v := 255) dX6_write_3 (List.mem_of_getElem? (i := 820) (by decide +kernel)) (j_S3 dX6_write_6 kX6_68 (c_inB 0 255 (by decide) rfl rfl ⟨fun _ _ _ _ => ?_, fun h => absurd rfl (h l (by omega) (by omega))⟩)))))
  refine j_if_ne (tgt := 15) dX6_write_9 rfl (fun _ => (j_aload_n 0 dX6_write_15 rfl (j_getI dX6_write_16 fX6_94 (by first | assumption | rfl) (j_bipush (v := 40) dX6_write_19 rfl (j_icmp_ne (tgt := 27) dX6_write_21 rfl (fun g1 => ?_) (fun g1 => ?_)))))) (fun h9 => absurd h9 (by decide))
  · refine j_aload_n 0 dX6_write_27 rfl (j_getR (b := 199) dX6_write_28 fX6_7 rfl (by first | assumption | rfl) (by first | assumption | rfl) (j_aload_n 0 dX6_write_31 rfl (j_getI dX6_write_32 fX6_94 (by first | assumption | rfl) (j_iload_n 1 dX6_write_35 rfl (j_iastore n dX6_write_36 st (by first | assumption | rfl) (by omega) (j_aload_n 0 dX6_write_37 rfl (j_dup dX6_write_38 rfl (j_getI dX6_write_39 fX6_94 (by first | assumption | rfl) (j_iconst (v := 1) dX6_write_42 rfl (j_iadd dX6_write_43 ?_))))))))))
    rw [upI_n (show 198 ≠ 199 by decide), st, nI_1]
    refine j_putI dX6_write_44 fX6_94 (by first | assumption | rfl) (j_aload_n 0 dX6_write_47 rfl (j_getI dX6_write_48 fX6_94 (by first | assumption | rfl) (j_iret dX6_write_51 ?_)))
    rw [upI_s, upd_s]
    refine hp _ ⟨sT.add hn (by omega) (by rw [upI_s, upd_s]) (by rw [upI_n (by decide), upI_s]), hs.2.1.fr (fun j hj => by rw [upI_s, upd_n (by omega), upI_n (by decide)]) (fun a _ _ => by rw [upI_n (by omega), upI_n (by omega)]), ?_, sA.fr (by rw [upI_s, upd_n (by omega), upI_n (by decide)]) (by rw [upI_s, upd_n (by omega), upI_n (by decide)]) (by rw [upI_n (by decide), upI_n (by decide)]), sK.fr (by rw [upI_n (by decide), upI_n (by decide)]) (by rw [upI_n (by decide), upI_n (by decide)]), sE.fr (by rw [upI_s, upd_n (by omega), upI_n (by decide)]) (by rw [upI_n (by decide), upI_n (by decide)]) (by rw [upI_n (by decide), upI_n (by decide)]) (by rw [upI_n (by decide), upI_n (by decide)]), sL, by rw [upI_n (by decide), upI_n (by decide)]; exact sZ⟩ (fun a ha => by rw [upI_n (by omega), upI_n (by omega)])
    rw [upI_n (by decide), upI_n (by decide)]
    exact sN
  · rw [st] at g1
    exact absurd (nI_inj (b := 40) (by omega) (by decide) g1) (by omega)

theorem q_write_f {g : GT} {Z : ZT} {I : IT} {L : LT} {Post : PT} {t : Nat → Nat} {n : Nat} {c : CT} {w : Nat} {ρ : RT} {A : Nat × Nat × (Nat → RT)} {K : (Nat → RT) × (Nat → Bool)} {E : (Nat → Int32) × (Nat → Nat) × (Nat → Nat) × Nat} {sd : Int64} {l : Nat} (hM : isM Z) (hs : MSt t n c w ρ A K E sd I L) (ho : OKs c w ρ A K E) (hl : l < 256) (hn : n = 40) (hp : Post (some (.int (-4))) Z I L) : CM g 1 0 0 mX6_write [.ref 198, .int (nI l)] Z I L Post := by
  obtain ⟨m0, f0, f3, f6, f7, f10, f11, f12, f15, f16, f17, f18, f19, f22, f24, k199, l199, k200, l200, k201, l201, k202, l202, k203, l203, k204, l204, k205, l205, k206, l206, k207, l207, k208, l208, k209, l209, k210, l210, k211, l211, k212, l212⟩ := id hM
  have hMo : isMo Z := ⟨m0, f3, f6, f7, k200, l200, k201, l201, k202, l202⟩
  obtain ⟨sT, ⟨sC, s4, s8, s9⟩, sN, sA, sK, sE, sL, sZ⟩ := id hs
  obtain ⟨oC, oW, oN, oA, oK, oE⟩ := id ho
  refine CM_intro ?_
  have st := sT.2.1
  refine j_iload_n 1 dX6_write_0 rfl (j_i2l dX6_write_1 (j_lconst (v := 0) dX6_write_2 rfl (j_ldc2 (v := 255) dX6_write_3 (List.mem_of_getElem? (i := 820) (by decide +kernel)) (j_S3 dX6_write_6 kX6_68 (c_inB 0 255 (by decide) rfl rfl ⟨fun _ _ _ _ => ?_, fun h => absurd rfl (h l (by omega) (by omega))⟩)))))
  refine j_if_ne (tgt := 15) dX6_write_9 rfl (fun _ => (j_aload_n 0 dX6_write_15 rfl (j_getI dX6_write_16 fX6_94 (by first | assumption | rfl) (j_bipush (v := 40) dX6_write_19 rfl (j_icmp_ne (tgt := 27) dX6_write_21 rfl (fun g1 => ?_) (fun g1 => ?_)))))) (fun h9 => absurd h9 (by decide))
  · rw [st, hn] at g1
    exact absurd rfl g1
  · refine j_bipush (v := -4) dX6_write_24 rfl (j_iret dX6_write_26 ?_)
    exact hp

theorem q_write_b {g : GT} {Z : ZT} {I : IT} {L : LT} {Post : PT} {t : Nat → Nat} {n : Nat} {c : CT} {w : Nat} {ρ : RT} {A : Nat × Nat × (Nat → RT)} {K : (Nat → RT) × (Nat → Bool)} {E : (Nat → Int32) × (Nat → Nat) × (Nat → Nat) × Nat} {sd : Int64} {x : Int32} (hM : isM Z) (hs : MSt t n c w ρ A K E sd I L) (ho : OKs c w ρ A K E) (hx : ∀ j, j < 256 → x ≠ nI j) (hp : Post (some (.int (-2))) Z I L) : CM g 1 0 0 mX6_write [.ref 198, .int x] Z I L Post := by
  obtain ⟨m0, f0, f3, f6, f7, f10, f11, f12, f15, f16, f17, f18, f19, f22, f24, k199, l199, k200, l200, k201, l201, k202, l202, k203, l203, k204, l204, k205, l205, k206, l206, k207, l207, k208, l208, k209, l209, k210, l210, k211, l211, k212, l212⟩ := id hM
  have hMo : isMo Z := ⟨m0, f3, f6, f7, k200, l200, k201, l201, k202, l202⟩
  obtain ⟨sT, ⟨sC, s4, s8, s9⟩, sN, sA, sK, sE, sL, sZ⟩ := id hs
  obtain ⟨oC, oW, oN, oA, oK, oE⟩ := id ho
  refine CM_intro ?_
  refine j_iload_n 1 dX6_write_0 rfl (j_i2l dX6_write_1 (j_lconst (v := 0) dX6_write_2 rfl (j_ldc2 (v := 255) dX6_write_3 (List.mem_of_getElem? (i := 820) (by decide +kernel)) (j_S3 dX6_write_6 kX6_68 (c_inB 0 255 (by decide) rfl rfl ⟨fun j hj0 hj e => absurd e (hx j (by omega)), fun _ => ?_⟩)))))
  refine j_if_ne (tgt := 15) dX6_write_9 rfl (fun h9 => absurd (by decide) h9) (fun _ => (j_bipush (v := -2) dX6_write_12 rfl (j_iret dX6_write_14 ?_)))
  exact hp

theorem MSt.f1 {t : Nat → Nat} {n : Nat} {c : CT} {w : Nat} {ρ : RT} {A : Nat × Nat × (Nat → RT)} {K : (Nat → RT) × (Nat → Bool)} {E : (Nat → Int32) × (Nat → Nat) × (Nat → Nat) × Nat} {sd : Int64} {I : IT} {L : LT} (h : MSt t n c w ρ A K E sd I L) : MSt t 0 c w ρ A K E sd (upI I 198 1 0) L := by
  obtain ⟨h1, h2, h3, h4, h5, h6, h7, h8⟩ := h
  refine ⟨⟨Nat.zero_le _, by rw [upI_s, upd_s]; rfl, by rw [upI_n (by decide)]; exact h1.2.2.1, h1.2.2.2⟩, h2.fr (fun j hj => by rw [upI_s, upd_n (by omega)]) (fun a _ _ => upI_n (by omega)), (upI_n (by decide)).trans h3, h4.fr (by rw [upI_s, upd_n (by omega)]) (by rw [upI_s, upd_n (by omega)]) (upI_n (by decide)), h5.fr (upI_n (by decide)) (upI_n (by decide)), h6.fr (by rw [upI_s, upd_n (by omega)]) (upI_n (by decide)) (upI_n (by decide)) (upI_n (by decide)), h7, by rw [upI_n (by decide)]; exact h8⟩
theorem MSt.f20 {t : Nat → Nat} {n : Nat} {c : CT} {w : Nat} {ρ : RT} {A : Nat × Nat × (Nat → RT)} {K : (Nat → RT) × (Nat → Bool)} {E : (Nat → Int32) × (Nat → Nat) × (Nat → Nat) × Nat} {sd : Int64} {I : IT} {L : LT} (h : MSt t n c w ρ A K E sd I L) : MSt t n c w ρ A K (E.1, E.2.1, E.2.2.1, 0) sd (upI I 198 20 0) L := by
  obtain ⟨h1, h2, h3, h4, h5, h6, h7, h8⟩ := h
  refine ⟨h1.up (by rw [upI_s, upd_n (by omega)]) (upI_n (by decide)), h2.fr (fun j hj => by rw [upI_s, upd_n (by omega)]) (fun a _ _ => upI_n (by omega)), (upI_n (by decide)).trans h3, h4.fr (by rw [upI_s, upd_n (by omega)]) (by rw [upI_s, upd_n (by omega)]) (upI_n (by decide)), h5.fr (upI_n (by decide)) (upI_n (by decide)), ⟨by rw [upI_s, upd_s]; rfl, fun i hi => by rw [upI_n (by decide), upI_n (by decide), upI_n (by decide)]; exact h6.2 i hi⟩, h7, by rw [upI_n (by decide)]; exact h8⟩
theorem q_wipe {g : GT} {Z : ZT} {I : IT} {L : LT} {Post : PT} {t : Nat → Nat} {n : Nat} {c : CT} {w : Nat} {ρ : RT} {A : Nat × Nat × (Nat → RT)} {K : (Nat → RT) × (Nat → Bool)} {E : (Nat → Int32) × (Nat → Nat) × (Nat → Nat) × Nat} {sd : Int64}  (hM : isM Z) (hs : MSt t n c w ρ A K E sd I L) (ho : OKs c w ρ A K E)  (hp : ∀ I', MSt t 0 c w ρ A K E sd I' L → eqC I I' → Post (some (.int (nI n))) Z I' L) : CM g 0 0 0 mX6_wipe [.ref 198] Z I L Post := by
  obtain ⟨m0, f0, f3, f6, f7, f10, f11, f12, f15, f16, f17, f18, f19, f22, f24, k199, l199, k200, l200, k201, l201, k202, l202, k203, l203, k204, l204, k205, l205, k206, l206, k207, l207, k208, l208, k209, l209, k210, l210, k211, l211, k212, l212⟩ := id hM
  have hMo : isMo Z := ⟨m0, f3, f6, f7, k200, l200, k201, l201, k202, l202⟩
  obtain ⟨sT, ⟨sC, s4, s8, s9⟩, sN, sA, sK, sE, sL, sZ⟩ := id hs
  obtain ⟨oC, oW, oN, oA, oK, oE⟩ := id ho
  refine CM_intro ?_
  refine j_aload_n 0 dX6_wipe_0 rfl (j_getI dX6_wipe_1 fX6_94 (by first | assumption | rfl) (j_istore_n (lv' := [(1, _), (0, _)]) dX6_wipe_4 rfl (j_aload_n 1 dX6_wipe_5 rfl (j_iconst (v := 0) dX6_wipe_6 rfl (j_putI dX6_wipe_7 fX6_94 (by first | assumption | rfl) (j_iload_n 0 dX6_wipe_10 rfl (j_iret dX6_wipe_11 ?_)))))))
  rw [sT.2.1]
  exact hp _ hs.f1 (fun a ha => upI_n (by omega))

theorem q_unsee {g : GT} {Z : ZT} {I : IT} {L : LT} {Post : PT} {t : Nat → Nat} {n : Nat} {c : CT} {w : Nat} {ρ : RT} {A : Nat × Nat × (Nat → RT)} {K : (Nat → RT) × (Nat → Bool)} {E : (Nat → Int32) × (Nat → Nat) × (Nat → Nat) × Nat} {sd : Int64}  (hM : isM Z) (hs : MSt t n c w ρ A K E sd I L) (ho : OKs c w ρ A K E)  (hp : ∀ I', MSt t n c w ρ A K (E.1, E.2.1, E.2.2.1, 0) sd I' L → eqC I I' → Post (some (.int (nI E.2.2.2))) Z I' L) : CM g 0 0 0 mX6_unsee [.ref 198] Z I L Post := by
  obtain ⟨m0, f0, f3, f6, f7, f10, f11, f12, f15, f16, f17, f18, f19, f22, f24, k199, l199, k200, l200, k201, l201, k202, l202, k203, l203, k204, l204, k205, l205, k206, l206, k207, l207, k208, l208, k209, l209, k210, l210, k211, l211, k212, l212⟩ := id hM
  have hMo : isMo Z := ⟨m0, f3, f6, f7, k200, l200, k201, l201, k202, l202⟩
  obtain ⟨sT, ⟨sC, s4, s8, s9⟩, sN, sA, sK, sE, sL, sZ⟩ := id hs
  obtain ⟨oC, oW, oN, oA, oK, oE⟩ := id ho
  refine CM_intro ?_
  refine j_aload_n 0 dX6_unsee_0 rfl (j_getI dX6_unsee_1 fX6_174 (by first | assumption | rfl) (j_istore_n (lv' := [(1, _), (0, _)]) dX6_unsee_4 rfl (j_aload_n 1 dX6_unsee_5 rfl (j_iconst (v := 0) dX6_unsee_6 rfl (j_putI dX6_unsee_7 fX6_174 (by first | assumption | rfl) (j_iload_n 0 dX6_unsee_10 rfl (j_iret dX6_unsee_11 ?_)))))))
  rw [sE.1]
  exact hp _ hs.f20 (fun a ha => upI_n (by omega))

theorem q_seed {g : GT} {Z : ZT} {I : IT} {L : LT} {Post : PT} {t : Nat → Nat} {n : Nat} {c : CT} {w : Nat} {ρ : RT} {A : Nat × Nat × (Nat → RT)} {K : (Nat → RT) × (Nat → Bool)} {E : (Nat → Int32) × (Nat → Nat) × (Nat → Nat) × Nat} {sd : Int64} {v : Int64} (hM : isM Z) (hs : MSt t n c w ρ A K E sd I L) (ho : OKs c w ρ A K E)  (hp : ∀ L', MSt t n c w ρ A K E v I L' → (∀ a, a ≠ 198 → L' a = L a) → Post (some (.long sd)) Z I L') : CM g 0 0 0 mX6_seed [.ref 198, .long v] Z I L Post := by
  obtain ⟨m0, f0, f3, f6, f7, f10, f11, f12, f15, f16, f17, f18, f19, f22, f24, k199, l199, k200, l200, k201, l201, k202, l202, k203, l203, k204, l204, k205, l205, k206, l206, k207, l207, k208, l208, k209, l209, k210, l210, k211, l211, k212, l212⟩ := id hM
  have hMo : isMo Z := ⟨m0, f3, f6, f7, k200, l200, k201, l201, k202, l202⟩
  obtain ⟨sT, ⟨sC, s4, s8, s9⟩, sN, sA, sK, sE, sL, sZ⟩ := id hs
  obtain ⟨oC, oW, oN, oA, oK, oE⟩ := id ho
  refine CM_intro ?_
  refine j_aload_n 0 dX6_seed_0 rfl (j_getJ dX6_seed_1 fX6_243 (by first | assumption | rfl) (j_lstore_n (lv' := [(3, _), (0, _), (1, _)]) dX6_seed_4 rfl (j_aload_n 1 dX6_seed_5 rfl (j_lload_n 2 dX6_seed_6 rfl (j_putJ dX6_seed_7 fX6_243 (by first | assumption | rfl) (j_lload_n 0 dX6_seed_10 rfl (j_lret dX6_seed_11 ?_)))))))
  rw [sL]
  exact hp _ ⟨sT, hs.2.1, sN, sA, sK, sE, upL_s _ _ _, sZ⟩ (fun a ha => upL_n ha)

theorem q_see {g : GT} {Z : ZT} {I : IT} {L : LT} {Post : PT} {t : Nat → Nat} {n : Nat} {c : CT} {w : Nat} {ρ : RT} {A : Nat × Nat × (Nat → RT)} {K : (Nat → RT) × (Nat → Bool)} {E : (Nat → Int32) × (Nat → Nat) × (Nat → Nat) × Nat} {sd : Int64} {G : Int32} {k v : Nat} (hM : isM Z) (hs : MSt t n c w ρ A K E sd I L) (ho : OKs c w ρ A K E) (hk : k ≤ 2) (hv : v ≤ 9) (hn : E.2.2.2 < 4) (hp : ∀ I', MSt t n c w ρ A K (seE E G k v) sd I' L → eqC I I' → Post (some (.int (nI (E.2.2.2 + 1)))) Z I' L) : CM g 1 0 0 mX6_see [.ref 198, .int G, .int (nI k), .int (nI v)] Z I L Post := by
  obtain ⟨m0, f0, f3, f6, f7, f10, f11, f12, f15, f16, f17, f18, f19, f22, f24, k199, l199, k200, l200, k201, l201, k202, l202, k203, l203, k204, l204, k205, l205, k206, l206, k207, l207, k208, l208, k209, l209, k210, l210, k211, l211, k212, l212⟩ := id hM
  have hMo : isMo Z := ⟨m0, f3, f6, f7, k200, l200, k201, l201, k202, l202⟩
  obtain ⟨sT, ⟨sC, s4, s8, s9⟩, sN, sA, sK, sE, sL, sZ⟩ := id hs
  obtain ⟨oC, oW, oN, oA, oK, oE⟩ := id ho
  refine CM_intro ?_
  have st := sE.1
  refine j_iload_n 2 dX6_see_0 rfl (j_i2l dX6_see_1 (j_lconst (v := 0) dX6_see_2 rfl (j_ldc2 (v := 2) dX6_see_3 (List.mem_of_getElem? (i := 1031) (by decide +kernel)) (j_S3 dX6_see_6 kX6_68 (c_inB 0 2 (by decide) rfl rfl ⟨fun _ _ _ _ => ?_, fun h => absurd rfl (h k (by omega) (by omega))⟩)))))
  refine j_if_eq (tgt := 24) dX6_see_9 rfl (fun h9 => absurd h9 (by decide)) (fun _ => (j_iload_n 3 dX6_see_12 rfl (j_i2l dX6_see_13 (j_lconst (v := 0) dX6_see_14 rfl (j_ldc2 (v := 9) dX6_see_15 (List.mem_of_getElem? (i := 840) (by decide +kernel)) (j_S3 dX6_see_18 kX6_68 (c_inB 0 9 (by decide) rfl rfl ⟨fun _ _ _ _ => ?_, fun h => absurd rfl (h v (by omega) (by omega))⟩)))))))
  refine j_if_ne (tgt := 27) dX6_see_21 rfl (fun _ => (j_aload_n 0 dX6_see_27 rfl (j_getI dX6_see_28 fX6_174 (by first | assumption | rfl) (j_iconst (v := 4) dX6_see_31 rfl (j_icmp_ne (tgt := 38) dX6_see_32 rfl (fun g1 => ?_) (fun g1 => ?_)))))) (fun h9 => absurd h9 (by decide))
  · refine j_aload_n 0 dX6_see_38 rfl (j_getR (b := 208) dX6_see_39 fX6_38 rfl (by first | assumption | rfl) (by first | assumption | rfl) (j_aload_n 0 dX6_see_42 rfl (j_getI dX6_see_43 fX6_174 (by first | assumption | rfl) (j_iload_n 1 dX6_see_46 rfl (j_iastore E.2.2.2 dX6_see_47 st (by first | assumption | rfl) (by omega) (j_aload_n 0 dX6_see_48 rfl (j_getR (b := 209) dX6_see_49 fX6_41 rfl (by first | assumption | rfl) (by first | assumption | rfl) (j_aload_n 0 dX6_see_52 rfl (j_getI dX6_see_53 fX6_174 (by first | assumption | rfl) (j_iload_n 2 dX6_see_56 rfl ?_))))))))))
    refine j_iastore E.2.2.2 dX6_see_57 (by rw [upI_n (by decide)]; exact st) (by first | assumption | rfl) (by omega) (j_aload_n 0 dX6_see_58 rfl (j_getR (b := 210) dX6_see_59 fX6_44 rfl (by first | assumption | rfl) (by first | assumption | rfl) (j_aload_n 0 dX6_see_62 rfl (j_getI dX6_see_63 fX6_174 (by first | assumption | rfl) (j_iload_n 3 dX6_see_66 rfl ?_)))))
    refine j_iastore E.2.2.2 dX6_see_67 (by rw [upI_n (by decide), upI_n (by decide)]; exact st) (by first | assumption | rfl) (by omega) (j_aload_n 0 dX6_see_68 rfl (j_dup dX6_see_69 rfl (j_getI dX6_see_70 fX6_174 (by first | assumption | rfl) (j_iconst (v := 1) dX6_see_73 rfl (j_iadd dX6_see_74 ?_)))))
    rw [upI_n (show 198 ≠ 210 by decide), upI_n (show 198 ≠ 209 by decide), upI_n (show 198 ≠ 208 by decide), st, nI_1]
    refine j_putI dX6_see_75 fX6_174 (by first | assumption | rfl) (j_aload_n 0 dX6_see_78 rfl (j_getI dX6_see_79 fX6_174 (by first | assumption | rfl) (j_iret dX6_see_82 ?_)))
    rw [upI_s, upd_s]
    refine hp _ ⟨sT.up (by rw [upI_s, upd_n (by omega), upI_n (by decide), upI_n (by decide), upI_n (by decide)]) (by rw [upI_n (by decide), upI_n (by decide), upI_n (by decide), upI_n (by decide)]), hs.2.1.fr (fun j hj => by rw [upI_s, upd_n (by omega), upI_n (by decide), upI_n (by decide), upI_n (by decide)]) (fun a _ _ => by rw [upI_n (by omega), upI_n (by omega), upI_n (by omega), upI_n (by omega)]), ?_, sA.fr (by rw [upI_s, upd_n (by omega), upI_n (by decide), upI_n (by decide), upI_n (by decide)]) (by rw [upI_s, upd_n (by omega), upI_n (by decide), upI_n (by decide), upI_n (by decide)]) (by rw [upI_n (by decide), upI_n (by decide), upI_n (by decide), upI_n (by decide)]), sK.fr (by rw [upI_n (by decide), upI_n (by decide), upI_n (by decide), upI_n (by decide)]) (by rw [upI_n (by decide), upI_n (by decide), upI_n (by decide), upI_n (by decide)]), ⟨by rw [upI_s, upd_s]; rfl, fun i hi => ?_⟩, sL, by rw [upI_n (by decide), upI_n (by decide), upI_n (by decide), upI_n (by decide)]; exact sZ⟩ (fun a ha => by rw [upI_n (by omega), upI_n (by omega), upI_n (by omega), upI_n (by omega)])
    · rw [upI_n (by decide), upI_n (by decide), upI_n (by decide), upI_n (by decide)]
      exact sN
    · have hE := sE.2 i hi
      refine ⟨?_, ?_, ?_⟩
      · rw [upI_n (by decide), upI_n (by decide), upI_n (by decide), upI_s]
        show upd (I 208) E.2.2.2 G i = upd E.1 E.2.2.2 G i
        rw [upd_app, upd_app, hE.1]
      · rw [upI_n (by decide), upI_n (by decide), upI_s, upI_n (by decide)]
        show upd (I 209) E.2.2.2 (nI k) i = nI (if i = E.2.2.2 then k else E.2.1 i)
        rw [upd_app, hE.2.1]
        split <;> rfl
      · rw [upI_n (by decide), upI_s, upI_n (by decide), upI_n (by decide)]
        show upd (I 210) E.2.2.2 (nI v) i = nI (if i = E.2.2.2 then v else E.2.2.1 i)
        rw [upd_app, hE.2.2]
        split <;> rfl
  · rw [st] at g1
    exact absurd (nI_inj (b := 4) (by omega) (by decide) g1) (by omega)

theorem q_see_f {g : GT} {Z : ZT} {I : IT} {L : LT} {Post : PT} {t : Nat → Nat} {n : Nat} {c : CT} {w : Nat} {ρ : RT} {A : Nat × Nat × (Nat → RT)} {K : (Nat → RT) × (Nat → Bool)} {E : (Nat → Int32) × (Nat → Nat) × (Nat → Nat) × Nat} {sd : Int64} {G : Int32} {k v : Nat} (hM : isM Z) (hs : MSt t n c w ρ A K E sd I L) (ho : OKs c w ρ A K E) (hk : k ≤ 2) (hv : v ≤ 9) (hn : E.2.2.2 = 4) (hp : Post (some (.int (-4))) Z I L) : CM g 1 0 0 mX6_see [.ref 198, .int G, .int (nI k), .int (nI v)] Z I L Post := by
  obtain ⟨m0, f0, f3, f6, f7, f10, f11, f12, f15, f16, f17, f18, f19, f22, f24, k199, l199, k200, l200, k201, l201, k202, l202, k203, l203, k204, l204, k205, l205, k206, l206, k207, l207, k208, l208, k209, l209, k210, l210, k211, l211, k212, l212⟩ := id hM
  have hMo : isMo Z := ⟨m0, f3, f6, f7, k200, l200, k201, l201, k202, l202⟩
  obtain ⟨sT, ⟨sC, s4, s8, s9⟩, sN, sA, sK, sE, sL, sZ⟩ := id hs
  obtain ⟨oC, oW, oN, oA, oK, oE⟩ := id ho
  refine CM_intro ?_
  have st := sE.1
  refine j_iload_n 2 dX6_see_0 rfl (j_i2l dX6_see_1 (j_lconst (v := 0) dX6_see_2 rfl (j_ldc2 (v := 2) dX6_see_3 (List.mem_of_getElem? (i := 1031) (by decide +kernel)) (j_S3 dX6_see_6 kX6_68 (c_inB 0 2 (by decide) rfl rfl ⟨fun _ _ _ _ => ?_, fun h => absurd rfl (h k (by omega) (by omega))⟩)))))
  refine j_if_eq (tgt := 24) dX6_see_9 rfl (fun h9 => absurd h9 (by decide)) (fun _ => (j_iload_n 3 dX6_see_12 rfl (j_i2l dX6_see_13 (j_lconst (v := 0) dX6_see_14 rfl (j_ldc2 (v := 9) dX6_see_15 (List.mem_of_getElem? (i := 840) (by decide +kernel)) (j_S3 dX6_see_18 kX6_68 (c_inB 0 9 (by decide) rfl rfl ⟨fun _ _ _ _ => ?_, fun h => absurd rfl (h v (by omega) (by omega))⟩)))))))
  refine j_if_ne (tgt := 27) dX6_see_21 rfl (fun _ => (j_aload_n 0 dX6_see_27 rfl (j_getI dX6_see_28 fX6_174 (by first | assumption | rfl) (j_iconst (v := 4) dX6_see_31 rfl (j_icmp_ne (tgt := 38) dX6_see_32 rfl (fun g1 => ?_) (fun g1 => ?_)))))) (fun h9 => absurd h9 (by decide))
  · rw [st, hn] at g1
    exact absurd rfl g1
  · refine j_bipush (v := -4) dX6_see_35 rfl (j_iret dX6_see_37 ?_)
    exact hp

theorem q_see_b {g : GT} {Z : ZT} {I : IT} {L : LT} {Post : PT} {t : Nat → Nat} {n : Nat} {c : CT} {w : Nat} {ρ : RT} {A : Nat × Nat × (Nat → RT)} {K : (Nat → RT) × (Nat → Bool)} {E : (Nat → Int32) × (Nat → Nat) × (Nat → Nat) × Nat} {sd : Int64} {G x y : Int32} (hM : isM Z) (hs : MSt t n c w ρ A K E sd I L) (ho : OKs c w ρ A K E) (hx : ∀ k v, k ≤ 2 → v ≤ 9 → x = nI k → y = nI v → False) (hp : Post (some (.int (-2))) Z I L) : CM g 1 0 0 mX6_see [.ref 198, .int G, .int x, .int y] Z I L Post := by
  obtain ⟨m0, f0, f3, f6, f7, f10, f11, f12, f15, f16, f17, f18, f19, f22, f24, k199, l199, k200, l200, k201, l201, k202, l202, k203, l203, k204, l204, k205, l205, k206, l206, k207, l207, k208, l208, k209, l209, k210, l210, k211, l211, k212, l212⟩ := id hM
  have hMo : isMo Z := ⟨m0, f3, f6, f7, k200, l200, k201, l201, k202, l202⟩
  obtain ⟨sT, ⟨sC, s4, s8, s9⟩, sN, sA, sK, sE, sL, sZ⟩ := id hs
  obtain ⟨oC, oW, oN, oA, oK, oE⟩ := id ho
  refine CM_intro ?_
  refine j_iload_n 2 dX6_see_0 rfl (j_i2l dX6_see_1 (j_lconst (v := 0) dX6_see_2 rfl (j_ldc2 (v := 2) dX6_see_3 (List.mem_of_getElem? (i := 1031) (by decide +kernel)) (j_S3 dX6_see_6 kX6_68 (c_inB 0 2 (by decide) rfl rfl ⟨fun k _ hk ek => ?_, fun _ => ?_⟩)))))
  · refine j_if_eq (tgt := 24) dX6_see_9 rfl (fun h9 => absurd h9 (by decide)) (fun _ => (j_iload_n 3 dX6_see_12 rfl (j_i2l dX6_see_13 (j_lconst (v := 0) dX6_see_14 rfl (j_ldc2 (v := 9) dX6_see_15 (List.mem_of_getElem? (i := 840) (by decide +kernel)) (j_S3 dX6_see_18 kX6_68 (c_inB 0 9 (by decide) rfl rfl ⟨fun v _ hv ev => (hx k v hk hv ek ev).elim, fun _ => ?_⟩)))))))
    refine j_if_ne (tgt := 27) dX6_see_21 rfl (fun h9 => absurd (by decide) h9) (fun _ => (j_bipush (v := -2) dX6_see_24 rfl (j_iret dX6_see_26 ?_)))
    exact hp
  · refine j_if_eq (tgt := 24) dX6_see_9 rfl (fun _ => (j_bipush (v := -2) dX6_see_24 rfl (j_iret dX6_see_26 ?_))) (fun h9 => absurd (by decide) h9)
    exact hp

