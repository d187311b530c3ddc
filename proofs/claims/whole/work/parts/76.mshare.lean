theorem not15 : ∀ s, s < 16 → (15 : Int32) &&& (nI s ^^^ (-1)) = nI (15 - s) := by decide +kernel
theorem on3 : ∀ s, s < 16 → ∀ k, k < 4 → s.testBit k = false → onF s 14 ≤ 3 ∧ nI (facN (onF s 14)) * nI (facN (3 - onF s 14)) = ordF (onF s 14 % 4) := by decide +kernel
theorem and15 (n : Nat) : nI n &&& 15 = nI (n % 16) := fa_mask n 4
theorem q_share {g : GT} {Z : ZT} {I : IT} {L : LT} {Post : PT} {t : Nat → Nat} {n : Nat} {c : CT} {w : Nat} {ρ : RT} {A : Nat × Nat × (Nat → RT)} {K : (Nat → RT) × (Nat → Bool)} {E : (Nat → Int32) × (Nat → Nat) × (Nat → Nat) × Nat} {sd : Int64} {G up : Int32} {k : Nat} (hM : isM Z) (hs : MSt t n c w ρ A K E sd I L) (ho : OKs c w ρ A K E) (hk : k < 4) (hp : ∀ I', MSt t n c w ρ A K E sd I' L → eqC I I' → Post (some (.int (hcI c G k ρ up))) Z I' L) : CM g 7 0 0 mX6_share [.ref 198, .int G, .int (nI k), .int up] Z I L Post := by
  obtain ⟨m0, f0, f3, f6, f7, f10, f11, f12, f15, f16, f17, f18, f19, f22, f24, k199, l199, k200, l200, k201, l201, k202, l202, k203, l203, k204, l204, k205, l205, k206, l206, k207, l207, k208, l208, k209, l209, k210, l210, k211, l211, k212, l212⟩ := id hM
  have hMo : isMo Z := ⟨m0, f3, f6, f7, k200, l200, k201, l201, k202, l202⟩
  obtain ⟨sT, ⟨sC, s4, s8, s9⟩, sN, sA, sK, sE, sL, sZ⟩ := id hs
  obtain ⟨oC, oW, oN, oA, oK, oE⟩ := id ho
  refine CM_intro ?_
  have loop2 : ∀ (I1 : IT), (∀ a, a ≠ 204 → a ≠ 211 → I1 a = I a) → Z47 (I1 204) → (∀ q, q < 16 → I1 211 q = gbI c G ρ q) → ∀ (m s : Nat), s + m = 16 → JW g mX6_share (rmO 7 0 0) (QM Post 0 0) 87 [(5, .int (nI s)), (4, .int (shI c G k ρ s)), (0, .ref 198), (1, .int G), (2, .int (nI k)), (3, .int up)] [] 0 0 Z I1 L := by
    intro I1 e hz hw m
    induction m with
    | zero =>
      intro s hm
      have : s = 16 := by omega
      subst this
      obtain ⟨P, Q, hP, hQ, eq⟩ := sh_bd c G k ρ 16
      have hab := abs_I (P := P) (Q := Q) (by omega) (by omega)
      rw [← eq] at hab
      refine j_iload 0 dX6_share_87 rfl (j_bipush (v := 16) dX6_share_89 rfl (j_icmp_ge (tgt := 154) dX6_share_91 rfl (fun g1 => ?_) (fun g1 => ?_)))
      · refine j_iload 1 dX6_share_154 rfl (j_bipush (v := 24) dX6_share_156 rfl (j_iload_n 5 dX6_share_158 rfl (j_S3 dX6_share_159 kX6_234 (c_mFraction (b := 24) hab.2 hab.1 (by decide) (by decide) ?_))))
        refine j_iret dX6_share_162 ?_
        exact hp I1 (hs.scr (fun j _ => by rw [e 198 (by decide) (by decide)]) (fun a _ h2 h3 => e a h3 (by omega)) hz) (fun a ha => e a (by omega) (by omega))
      · exact absurd (by decide) g1
    | succ m ih =>
      intro s hm
      have hi : JW g mX6_share (rmO 7 0 0) (QM Post 0 0) 87 [(5, .int (nI (s + 1))), (4, .int (shI c G k ρ s + (if s.testBit k then 0 else ordF (onF s 14 % 4) * (gbI c G ρ (s ||| 2 ^ k) - gbI c G ρ s)))), (0, .ref 198), (1, .int G), (2, .int (nI k)), (3, .int up)] [] 0 0 Z I1 L := ih (s + 1) (by omega)
      have h2k : 1 * 2 ^ k < 2 ^ 32 := by
        rw [Nat.one_mul]
        exact Nat.pow_lt_pow_right (by decide) (by omega)
      have h16 : s ||| 2 ^ k < 2 ^ 4 := Nat.or_lt_two_pow (by omega) (Nat.pow_lt_pow_right (by decide) hk)
      refine j_iload 0 dX6_share_87 rfl (j_bipush (v := 16) dX6_share_89 rfl (j_icmp_ge (tgt := 154) dX6_share_91 rfl (fun g1 => ?_) (fun g1 => ?_)))
      · exact absurd g1 (nI_ge (b := 16) (by omega) (by decide))
      · refine j_iload 0 dX6_share_94 rfl (j_iload_n 4 dX6_share_96 rfl (j_S2 dX6_share_97 kX6_72 (c_has (s := s) (j := k) (by omega) (by omega) (fun hb => ?_) (fun hb => ?_))))
        · rw [hb, if_pos rfl, Int32.add_zero] at hi
          refine j_if_ne (tgt := 148) dX6_share_100 rfl (fun _ => (j_iinc (y := 1) (lv' := [(5, _), (4, _), (0, _), (1, _), (2, _), (3, _)]) 0 dX6_share_148 rfl rfl rfl (j_goto (tgt := 87) dX6_share_151 rfl ?_))) (fun h9 => absurd h9 (by decide))
          rw [nI_1]
          exact JW.locals [0, 1, 2, 3, 4, 5] rfl hi
        · have h3 := on3 s (by omega) k hk hb
          rw [hb, if_neg (by decide)] at hi
          refine j_if_ne (tgt := 148) dX6_share_100 rfl (fun h9 => absurd (by decide) h9) (fun _ => (j_iload 0 dX6_share_103 rfl (j_S1 dX6_share_105 kX6_195 (c_ones (by omega) ?_))))
          refine j_istore (lv' := [(6, _), (5, _), (4, _), (0, _), (1, _), (2, _), (3, _)]) dX6_share_108 rfl (j_iload 2 dX6_share_110 rfl (j_iload 0 dX6_share_112 rfl (j_S1 dX6_share_114 kX6_231 (c_factorial (by omega) ?_))))
          refine j_iconst (v := 3) dX6_share_117 rfl (j_iload 0 dX6_share_118 rfl (j_isub dX6_share_120 ?_))
          rw [show (3 : Int32) - nI (onF s 14) = nI (3 - onF s 14) from pk_sub (a := 3) h3.1]
          refine j_S1 dX6_share_121 kX6_231 (c_factorial (by omega) ?_)
          refine j_imul dX6_share_124 (j_aload_n 3 dX6_share_125 rfl (j_getR (b := 211) dX6_share_126 fX6_47 rfl (by first | assumption | rfl) (by first | assumption | rfl) (j_iload 1 dX6_share_129 rfl (j_iconst (v := 1) dX6_share_131 rfl (j_iload_n 5 dX6_share_132 rfl (j_ishl dX6_share_133 (j_ior dX6_share_134 ?_)))))))
          rw [h3.2, show (1 : Int32) <<< (nI k &&& 31) = nI (1 * 2 ^ k) from shlI (s := 1) h2k (by omega), fa_or, Nat.one_mul]
          refine j_iaload (s ||| 2 ^ k) dX6_share_135 (by first | assumption | rfl) (by first | assumption | rfl) (by omega) (j_aload_n 3 dX6_share_136 rfl (j_getR (b := 211) dX6_share_137 fX6_47 rfl (by first | assumption | rfl) (by first | assumption | rfl) (j_iload 1 dX6_share_140 rfl (j_iaload s dX6_share_142 (by first | assumption | rfl) (by first | assumption | rfl) (by omega) ?_))))
          rw [hw _ h16, hw s (by omega)]
          refine j_isub dX6_share_143 (j_imul dX6_share_144 (j_iadd dX6_share_145 (j_istore (lv' := [(4, _), (6, _), (5, _), (0, _), (1, _), (2, _), (3, _)]) dX6_share_146 rfl (j_iinc (y := 1) (lv' := [(5, _), (4, _), (6, _), (0, _), (1, _), (2, _), (3, _)]) 2 dX6_share_148 rfl rfl rfl (j_goto (tgt := 87) dX6_share_151 rfl ?_)))))
          rw [nI_1]
          exact JW.locals [0, 1, 3, 4, 5, 6] rfl hi
  have loop : ∀ (m s : Nat) (I1 : IT), s + m = 16 → (∀ a, a ≠ 204 → a ≠ 211 → I1 a = I a) → Z47 (I1 204) → (∀ q, q < s → I1 211 q = gbI c G ρ q) → JW g mX6_share (rmO 7 0 0) (QM Post 0 0) 12 [(4, .int (nI s)), (0, .ref 198), (1, .int G), (2, .int (nI k)), (3, .int up)] [] 0 0 Z I1 L := by
    intro m
    induction m with
    | zero =>
      intro s I1 hm e hz hw
      have : s = 16 := by omega
      subst this
      refine j_iload 0 dX6_share_12 rfl (j_bipush (v := 16) dX6_share_14 rfl (j_icmp_ge (tgt := 81) dX6_share_16 rfl (fun g1 => ?_) (fun g1 => ?_)))
      · refine j_iconst (v := 0) dX6_share_81 rfl (j_istore (lv' := [(4, _), (0, _), (1, _), (2, _), (3, _)]) dX6_share_82 rfl (j_iconst (v := 0) dX6_share_84 rfl (j_istore (lv' := [(5, _), (4, _), (0, _), (1, _), (2, _), (3, _)]) dX6_share_85 rfl ?_)))
        exact JW.locals [0, 1, 2, 3, 4, 5] rfl (loop2 I1 e hz hw 16 0 rfl)
      · exact absurd (by decide) g1
    | succ m ih =>
      intro s I1 hm e hz hw
      have mc1 : MC I1 c := sC.fr (by rw [e 198 (by decide) (by decide)]) (by rw [e 198 (by decide) (by decide)]) (fun a _ _ => e a (by omega) (by omega))
      have inner : ∀ (q j : Nat), j + q = 3 → JW g mX6_share (rmO 7 0 0) (QM Post 0 0) 33 [(5, .int (nI j)), (4, .int (nI s)), (0, .ref 198), (1, .int G), (2, .int (nI k)), (3, .int up)] [] 0 0 Z (upR I1 204 (giT c G (15 - s) j ρ)) L := by
        intro q
        induction q with
        | zero =>
          intro j hj
          have : j = 3 := by omega
          subst this
          refine j_iload 0 dX6_share_33 rfl (j_iconst (v := 3) dX6_share_35 rfl (j_icmp_ge (tgt := 61) dX6_share_36 rfl (fun g1 => ?_) (fun g1 => ?_)))
          · refine j_aload_n 2 dX6_share_61 rfl (j_getR (b := 211) dX6_share_62 fX6_47 rfl (by first | assumption | rfl) (by first | assumption | rfl) (j_iload 1 dX6_share_65 rfl (j_aload_n 2 dX6_share_67 rfl (j_getR (b := 204) dX6_share_68 fX6_25 rfl (by first | assumption | rfl) (by first | assumption | rfl) (j_bipush (v := 10) dX6_share_71 rfl (j_iaload 10 dX6_share_73 (by first | assumption | rfl) (by first | assumption | rfl) (by omega) (j_iastore s dX6_share_74 (by first | assumption | rfl) (by first | assumption | rfl) (by omega) (j_iinc (y := 1) (lv' := [(4, _), (5, _), (0, _), (1, _), (2, _), (3, _)]) 1 dX6_share_75 rfl rfl rfl (j_goto (tgt := 12) dX6_share_78 rfl ?_)))))))))
            rw [nI_1, upR_s]
            refine JW.locals [0, 2, 3, 4, 5] rfl (ih (s + 1) _ (by omega) (fun a h1 h2 => by rw [upI_n h2, upR_n h1]; exact e a h1 h2) (by rw [upI_n (by decide), upR_s]; exact (OKz.gt oC G _ oN 3).2) (fun q hq => ?_))
            rw [upI_s, upd_app, upR_n (by decide)]
            by_cases h : q = s
            · rw [if_pos h, h]
              rfl
            · rw [if_neg h]
              exact hw q (by omega)
          · exact absurd (by decide) g1
        | succ q ih2 =>
          intro j hj
          refine j_iload 0 dX6_share_33 rfl (j_iconst (v := 3) dX6_share_35 rfl (j_icmp_ge (tgt := 61) dX6_share_36 rfl (fun g1 => ?_) (fun g1 => ?_)))
          · exact absurd g1 (nI_ge (b := 3) (by omega) (by decide))
          · refine j_aload_n 2 dX6_share_39 rfl (j_aload_n 2 dX6_share_40 rfl (j_getR (b := 204) dX6_share_41 fX6_25 rfl (by first | assumption | rfl) (by first | assumption | rfl) (j_iload_n 3 dX6_share_44 rfl (j_bipush (v := 15) dX6_share_45 rfl (j_iload 1 dX6_share_47 rfl (j_iconst (v := -1) dX6_share_49 rfl (j_ixor dX6_share_50 (j_iand dX6_share_51 ?_))))))))
            rw [not15 s (by omega)]
            refine j_V3 dX6_share_52 kX6_206 (by first | assumption | rfl) (c_hearGroup (t := 15 - s) hMo (mc1.up (by decide) _) (by decide) k204 l204 (by rw [upR_s]; exact (OKz.gt oC G _ oN j).1) (by omega) ?_)
            rw [upR_R, upR_s]
            refine j_iinc (y := 1) (lv' := [(5, _), (4, _), (0, _), (1, _), (2, _), (3, _)]) 0 dX6_share_55 rfl rfl rfl (j_goto (tgt := 33) dX6_share_58 rfl ?_)
            rw [nI_1]
            exact ih2 (j + 1) (by omega)
      refine j_iload 0 dX6_share_12 rfl (j_bipush (v := 16) dX6_share_14 rfl (j_icmp_ge (tgt := 81) dX6_share_16 rfl (fun g1 => ?_) (fun g1 => ?_)))
      · exact absurd g1 (nI_ge (b := 16) (by omega) (by decide))
      · refine j_aload_n 1 dX6_share_19 rfl (j_getR (b := 203) dX6_share_20 fX6_22 rfl (by first | assumption | rfl) (by first | assumption | rfl) (j_aload_n 1 dX6_share_23 rfl (j_getR (b := 204) dX6_share_24 fX6_25 rfl (by first | assumption | rfl) (by first | assumption | rfl) (j_S2 dX6_share_27 kX6_212 (c_toTrial k203 l203 k204 l204 ((e 203 (by decide) (by decide)).trans sN) oN.2 hz ?_)))))
        refine j_iconst (v := 0) dX6_share_30 rfl (j_istore (lv' := [(5, _), (4, _), (0, _), (1, _), (2, _), (3, _)]) dX6_share_31 rfl ?_)
        exact JW.locals [0, 1, 2, 3, 4, 5] rfl (inner 3 0 rfl)
  refine j_iload_n 2 dX6_share_0 rfl (j_S1 dX6_share_1 kX6_183 (c_mIsOffset ⟨fun _ _ _ _ => ?_, fun h => absurd rfl (h k (Nat.zero_le _) (by omega))⟩))
  refine j_if_ne (tgt := 9) dX6_share_4 rfl (fun _ => (j_iconst (v := 0) dX6_share_9 rfl (j_istore (lv' := [(4, _), (0, _), (1, _), (2, _), (3, _)]) dX6_share_10 rfl ?_))) (fun h9 => absurd h9 (by decide))
  exact JW.locals [0, 1, 2, 3, 4] rfl (loop 16 0 I rfl (fun _ _ _ => rfl) sZ (fun q hq => absurd hq (Nat.not_lt_zero _)))

theorem q_share_u {g : GT} {Z : ZT} {I : IT} {L : LT} {Post : PT} {t : Nat → Nat} {n : Nat} {c : CT} {w : Nat} {ρ : RT} {A : Nat × Nat × (Nat → RT)} {K : (Nat → RT) × (Nat → Bool)} {E : (Nat → Int32) × (Nat → Nat) × (Nat → Nat) × Nat} {sd : Int64} {G x up : Int32} (hM : isM Z) (hs : MSt t n c w ρ A K E sd I L) (ho : OKs c w ρ A K E) (hx : ∀ j, j < 4 → x ≠ nI j) (hp : Post (some (.int (-1))) Z I L) : CM g 7 0 0 mX6_share [.ref 198, .int G, .int x, .int up] Z I L Post := by
  obtain ⟨m0, f0, f3, f6, f7, f10, f11, f12, f15, f16, f17, f18, f19, f22, f24, k199, l199, k200, l200, k201, l201, k202, l202, k203, l203, k204, l204, k205, l205, k206, l206, k207, l207, k208, l208, k209, l209, k210, l210, k211, l211, k212, l212⟩ := id hM
  have hMo : isMo Z := ⟨m0, f3, f6, f7, k200, l200, k201, l201, k202, l202⟩
  obtain ⟨sT, ⟨sC, s4, s8, s9⟩, sN, sA, sK, sE, sL, sZ⟩ := id hs
  obtain ⟨oC, oW, oN, oA, oK, oE⟩ := id ho
  refine CM_intro ?_
  refine j_iload_n 2 dX6_share_0 rfl (j_S1 dX6_share_1 kX6_183 (c_mIsOffset ⟨fun j _ hj e => absurd e (hx j (by omega)), fun _ => ?_⟩))
  refine j_if_ne (tgt := 9) dX6_share_4 rfl (fun h9 => absurd (by decide) h9) (fun _ => (j_iconst (v := -1) dX6_share_7 rfl (j_iret dX6_share_8 ?_)))
  exact hp

theorem OKz.hc {c : CT} (oC : okC c) (G : Int32) (s : Nat) {ρ : RT} (h : OKz c ρ) : ∀ k, OKz c (hcF c G s k ρ)
  | 0 => h
  | k + 1 => OKz.hg oC G _ (OKz.hc oC G s h k) 4
theorem q_chance {g : GT} {Z : ZT} {I : IT} {L : LT} {Post : PT} {t : Nat → Nat} {n : Nat} {c : CT} {w : Nat} {ρ : RT} {A : Nat × Nat × (Nat → RT)} {K : (Nat → RT) × (Nat → Bool)} {E : (Nat → Int32) × (Nat → Nat) × (Nat → Nat) × Nat} {sd : Int64} {G up : Int32} {k x : Nat} (hM : isM Z) (hs : MSt t n c w ρ A K E sd I L) (ho : OKs c w ρ A K E) (h1 : 1 ≤ k) (h2 : k ≤ 2) (hx : x ≤ 10) (hp : ∀ I', MSt t n c w ρ A K E sd I' L → eqC I I' → Post (some (.int (chI c G k x ρ up))) Z I' L) : CM g 7 0 0 mX6_chance [.ref 198, .int G, .int (nI k), .int (nI x), .int up] Z I L Post := by
  obtain ⟨m0, f0, f3, f6, f7, f10, f11, f12, f15, f16, f17, f18, f19, f22, f24, k199, l199, k200, l200, k201, l201, k202, l202, k203, l203, k204, l204, k205, l205, k206, l206, k207, l207, k208, l208, k209, l209, k210, l210, k211, l211, k212, l212⟩ := id hM
  have hMo : isMo Z := ⟨m0, f3, f6, f7, k200, l200, k201, l201, k202, l202⟩
  obtain ⟨sT, ⟨sC, s4, s8, s9⟩, sN, sA, sK, sE, sL, sZ⟩ := id hs
  obtain ⟨oC, oW, oN, oA, oK, oE⟩ := id ho
  refine CM_intro ?_
  have hk2 : k = 1 ∨ k = 2 := by omega
  refine j_iload_n 2 dX6_chance_0 rfl (j_i2l dX6_chance_1 (j_lconst (v := 1) dX6_chance_2 rfl (j_ldc2 (v := 2) dX6_chance_3 (List.mem_of_getElem? (i := 1031) (by decide +kernel)) (j_S3 dX6_chance_6 kX6_68 (c_inB 1 2 (by decide) rfl rfl ⟨fun _ _ _ _ => ?_, fun h => absurd rfl (h k (by omega) (by omega))⟩)))))
  refine j_if_eq (tgt := 24) dX6_chance_9 rfl (fun h9 => absurd h9 (by decide)) (fun _ => (j_iload_n 3 dX6_chance_12 rfl (j_i2l dX6_chance_13 (j_lconst (v := 0) dX6_chance_14 rfl (j_ldc2 (v := 10) dX6_chance_15 (List.mem_of_getElem? (i := 1058) (by decide +kernel)) (j_S3 dX6_chance_18 kX6_68 (c_inB 0 10 (by decide) rfl rfl ⟨fun _ _ _ _ => ?_, fun h => absurd rfl (h x (by omega) (by omega))⟩)))))))
  refine j_if_ne (tgt := 27) dX6_chance_21 rfl (fun _ => (j_iconst (v := 0) dX6_chance_27 rfl (j_istore (lv' := [(5, _), (0, _), (1, _), (2, _), (3, _), (4, _)]) dX6_chance_28 rfl (j_iconst (v := 0) dX6_chance_30 rfl (j_istore (lv' := [(6, _), (5, _), (0, _), (1, _), (2, _), (3, _), (4, _)]) dX6_chance_31 rfl ?_))))) (fun h9 => absurd h9 (by decide))
  rcases hk2 with ek | ek <;> subst ek
  · have loop : ∀ (m s : Nat) (σ : RT), s + m = 16 → Z47 σ → JW g mX6_chance (rmO 7 0 0) (QM Post 0 0) 33 [(6, .int (nI s)), (5, .int (nI (smN (ctN c G x 1 ρ) s))), (0, .ref 198), (1, .int G), (2, .int (nI 1)), (3, .int (nI x)), (4, .int up)] [] 0 0 Z (upR I 204 σ) L := by
      intro m
      induction m with
      | zero =>
        intro s σ hm hz
        have : s = 16 := by omega
        subst this
        have hcw := ct_ws (c := c) (G := G) (x := x) (k := 1) (by decide) ρ
        rw [show smN (ctN c G x 1 ρ) 16 = wsN c G x 4 0 ρ from hcw]
        have hws := ws_le (c := c) (G := G) hx 4 0 ρ
        have hab := abs_N (W := wsN c G x 4 0 ρ) (Nat.lt_of_le_of_lt hws (by decide))
        refine j_iload 0 dX6_chance_33 rfl (j_iconst (v := 1) dX6_chance_35 rfl (j_iconst (v := 4) dX6_chance_36 rfl (j_iload_n 4 dX6_chance_37 rfl (j_imul dX6_chance_38 (j_ishl dX6_chance_39 (j_icmp_ge (tgt := 139) dX6_chance_40 rfl (fun g1 => ?_) (fun g1 => ?_)))))))
        · refine j_iload 1 dX6_chance_139 rfl (j_bipush (v := 10) dX6_chance_141 rfl (j_iconst (v := 4) dX6_chance_143 rfl (j_iload_n 4 dX6_chance_144 rfl (j_imul dX6_chance_145 ?_))))
          rw [show (4 : Int32) * nI 1 = nI 4 from rfl, show (10 : Int32) = nI 10 from rfl]
          refine j_S2 dX6_chance_146 kX6_240 (c_power (by decide) ?_)
          refine j_iload 6 dX6_chance_149 rfl (j_S3 dX6_chance_151 kX6_234 (c_mFraction (b := 10 ^ 4) hab.2 hab.1 (by decide) (by decide) ?_))
          refine j_iret dX6_chance_154 ?_
          exact hp _ (hs.tri hz) (eqC.up I (by decide) _)
        · exact absurd (by decide) g1
      | succ m ih =>
        intro s σ hm hz
        have hon : onF s 14 ≤ 4 := by rw [← pc_4 s (by omega)]; exact pcN_le 4 s
        have inner : ∀ (q j : Nat), j + q = 1 → JW g mX6_chance (rmO 7 0 0) (QM Post 0 0) 57 [(7, .int (nI j)), (6, .int (nI s)), (5, .int (nI (smN (ctN c G x 1 ρ) s))), (0, .ref 198), (1, .int G), (2, .int (nI 1)), (3, .int (nI x)), (4, .int up)] [] 0 0 Z (upR I 204 (hcF c G s j ρ)) L := by
          intro q
          induction q with
          | zero =>
            intro j hj
            have : j = 1 := by omega
            subst this
            have hi : JW g mX6_chance (rmO 7 0 0) (QM Post 0 0) 33 [(6, .int (nI (s + 1))), (5, .int (nI (smN (ctN c G x 1 ρ) s + (if hcF c G s 1 ρ 3 = 1 then x ^ onF s 14 * (10 - x) ^ (4 * 1 - onF s 14) else 0)))), (0, .ref 198), (1, .int G), (2, .int (nI 1)), (3, .int (nI x)), (4, .int up)] [] 0 0 Z (upR I 204 (hcF c G s 1 ρ)) L := ih (s + 1) _ (by omega) (OKz.hc oC G s oN 1).2
            refine j_iload 0 dX6_chance_57 rfl (j_iload_n 5 dX6_chance_59 rfl (j_icmp_ge (tgt := 88) dX6_chance_60 rfl (fun g1 => ?_) (fun g1 => ?_)))
            · refine j_iload 2 dX6_chance_88 rfl (j_aload_n 3 dX6_chance_90 rfl (j_getR (b := 204) dX6_chance_91 fX6_25 rfl (by first | assumption | rfl) (by first | assumption | rfl) (j_iconst (v := 3) dX6_chance_94 rfl (j_iaload 3 dX6_chance_95 (by first | assumption | rfl) (by first | assumption | rfl) (by omega) (j_iconst (v := 1) dX6_chance_96 rfl (j_icmp_ne (tgt := 129) dX6_chance_97 rfl (fun g2 => ?_) (fun g2 => ?_)))))))
              · rw [upR_s] at g2
                rw [if_neg g2, Nat.add_zero] at hi
                refine j_iconst (v := 0) dX6_chance_129 rfl (j_iadd dX6_chance_130 ?_)
                rw [Int32.add_zero]
                refine j_istore (lv' := [(5, _), (7, _), (6, _), (0, _), (1, _), (2, _), (3, _), (4, _)]) dX6_chance_131 rfl (j_iinc (y := 1) (lv' := [(6, _), (5, _), (7, _), (0, _), (1, _), (2, _), (3, _), (4, _)]) 2 dX6_chance_133 rfl rfl rfl (j_goto (tgt := 33) dX6_chance_136 rfl ?_))
                rw [nI_1]
                exact JW.locals [0, 1, 3, 4, 5, 6, 7] rfl hi
              · rw [upR_s] at g2
                rw [if_pos g2] at hi
                refine j_iload_n 6 dX6_chance_100 rfl (j_iload 1 dX6_chance_101 rfl (j_S1 dX6_chance_103 kX6_195 (c_ones (by omega) ?_)))
                refine j_S2 dX6_chance_106 kX6_240 (c_power (by omega) ?_)
                refine j_bipush (v := 10) dX6_chance_109 rfl (j_iload_n 6 dX6_chance_111 rfl (j_isub dX6_chance_112 (j_iconst (v := 4) dX6_chance_113 rfl (j_iload_n 5 dX6_chance_114 rfl (j_imul dX6_chance_115 ?_)))))
                rw [show (10 : Int32) - nI x = nI (10 - x) from pk_sub (a := 10) (by omega), show (4 : Int32) * nI 1 = nI (4 * 1) from rfl]
                refine j_iload 1 dX6_chance_116 rfl (j_S1 dX6_chance_118 kX6_195 (c_ones (by omega) ?_))
                refine j_isub dX6_chance_121 ?_
                rw [pk_sub (by omega)]
                refine j_S2 dX6_chance_122 kX6_240 (c_power (by omega) ?_)
                refine j_imul dX6_chance_125 (j_goto (tgt := 130) dX6_chance_126 rfl (j_iadd dX6_chance_130 ?_))
                rw [pk_mul, nI_add]
                refine j_istore (lv' := [(5, _), (7, _), (6, _), (0, _), (1, _), (2, _), (3, _), (4, _)]) dX6_chance_131 rfl (j_iinc (y := 1) (lv' := [(6, _), (5, _), (7, _), (0, _), (1, _), (2, _), (3, _), (4, _)]) 2 dX6_chance_133 rfl rfl rfl (j_goto (tgt := 33) dX6_chance_136 rfl ?_))
                rw [nI_1]
                exact JW.locals [0, 1, 3, 4, 5, 6, 7] rfl hi
            · exact absurd (nI_le (Nat.le_refl _) (by decide)) g1
          | succ q ih2 =>
            intro j hj
            refine j_iload 0 dX6_chance_57 rfl (j_iload_n 5 dX6_chance_59 rfl (j_icmp_ge (tgt := 88) dX6_chance_60 rfl (fun g1 => ?_) (fun g1 => ?_)))
            · exact absurd g1 (nI_ge (by omega) (by decide))
            · refine j_aload_n 3 dX6_chance_63 rfl (j_aload_n 3 dX6_chance_64 rfl (j_getR (b := 204) dX6_chance_65 fX6_25 rfl (by first | assumption | rfl) (by first | assumption | rfl) (j_iload_n 4 dX6_chance_68 rfl (j_iload 1 dX6_chance_69 rfl (j_iconst (v := 4) dX6_chance_71 rfl (j_iload 0 dX6_chance_72 rfl (j_imul dX6_chance_74 (j_ishr dX6_chance_75 (j_bipush (v := 15) dX6_chance_76 rfl (j_iand dX6_chance_78 ?_))))))))))
              rw [show (4 : Int32) * nI j = nI (4 * j) from pk_mul 4 j, shrI (by omega) (by omega), and15]
              refine j_V3 dX6_chance_79 kX6_206 (by first | assumption | rfl) (c_hearGroup hMo (sC.up (by decide) _) (by decide) k204 l204 (by rw [upR_s]; exact (OKz.hc oC G s oN j).1) (Nat.lt_of_lt_of_le (Nat.mod_lt _ (by decide)) (by decide)) ?_)
              rw [upR_R, upR_s]
              refine j_iinc (y := 1) (lv' := [(7, _), (6, _), (5, _), (0, _), (1, _), (2, _), (3, _), (4, _)]) 0 dX6_chance_82 rfl rfl rfl (j_goto (tgt := 57) dX6_chance_85 rfl ?_)
              rw [nI_1]
              exact ih2 (j + 1) (by omega)
        refine j_iload 0 dX6_chance_33 rfl (j_iconst (v := 1) dX6_chance_35 rfl (j_iconst (v := 4) dX6_chance_36 rfl (j_iload_n 4 dX6_chance_37 rfl (j_imul dX6_chance_38 (j_ishl dX6_chance_39 (j_icmp_ge (tgt := 139) dX6_chance_40 rfl (fun g1 => ?_) (fun g1 => ?_)))))))
        · exact absurd g1 (nI_ge (b := 16) (by omega) (by decide))
        · refine j_aload_n 2 dX6_chance_43 rfl (j_getR (b := 203) dX6_chance_44 fX6_22 rfl (by first | assumption | rfl) (by first | assumption | rfl) (j_aload_n 2 dX6_chance_47 rfl (j_getR (b := 204) dX6_chance_48 fX6_25 rfl (by first | assumption | rfl) (by first | assumption | rfl) (j_S2 dX6_chance_51 kX6_212 (c_toTrial k203 l203 k204 l204 ((upR_n (by decide)).trans sN) oN.2 (by rw [upR_s]; exact hz) ?_)))))
          rw [upR_R]
          refine j_iconst (v := 0) dX6_chance_54 rfl (j_istore (lv' := [(7, _), (6, _), (5, _), (0, _), (1, _), (2, _), (3, _), (4, _)]) dX6_chance_55 rfl ?_)
          exact JW.locals [0, 1, 2, 3, 4, 5, 6, 7] rfl (inner 1 0 rfl)
    have h0 := loop 16 0 (I 204) rfl sZ
    rw [fa_self] at h0
    exact JW.locals [0, 1, 2, 3, 4, 5, 6] rfl h0
  · have loop : ∀ (m s : Nat) (σ : RT), s + m = 256 → Z47 σ → JW g mX6_chance (rmO 7 0 0) (QM Post 0 0) 33 [(6, .int (nI s)), (5, .int (nI (smN (ctN c G x 2 ρ) s))), (0, .ref 198), (1, .int G), (2, .int (nI 2)), (3, .int (nI x)), (4, .int up)] [] 0 0 Z (upR I 204 σ) L := by
      intro m
      induction m with
      | zero =>
        intro s σ hm hz
        have : s = 256 := by omega
        subst this
        have hcw := ct_ws (c := c) (G := G) (x := x) (k := 2) (by decide) ρ
        rw [show smN (ctN c G x 2 ρ) 256 = wsN c G x 8 0 ρ from hcw]
        have hws := ws_le (c := c) (G := G) hx 8 0 ρ
        have hab := abs_N (W := wsN c G x 8 0 ρ) (Nat.lt_of_le_of_lt hws (by decide))
        refine j_iload 0 dX6_chance_33 rfl (j_iconst (v := 1) dX6_chance_35 rfl (j_iconst (v := 4) dX6_chance_36 rfl (j_iload_n 4 dX6_chance_37 rfl (j_imul dX6_chance_38 (j_ishl dX6_chance_39 (j_icmp_ge (tgt := 139) dX6_chance_40 rfl (fun g1 => ?_) (fun g1 => ?_)))))))
        · refine j_iload 1 dX6_chance_139 rfl (j_bipush (v := 10) dX6_chance_141 rfl (j_iconst (v := 4) dX6_chance_143 rfl (j_iload_n 4 dX6_chance_144 rfl (j_imul dX6_chance_145 ?_))))
          rw [show (4 : Int32) * nI 2 = nI 8 from rfl, show (10 : Int32) = nI 10 from rfl]
          refine j_S2 dX6_chance_146 kX6_240 (c_power (by decide) ?_)
          refine j_iload 6 dX6_chance_149 rfl (j_S3 dX6_chance_151 kX6_234 (c_mFraction (b := 10 ^ 8) hab.2 hab.1 (by decide) (by decide) ?_))
          refine j_iret dX6_chance_154 ?_
          exact hp _ (hs.tri hz) (eqC.up I (by decide) _)
        · exact absurd (by decide) g1
      | succ m ih =>
        intro s σ hm hz
        have hon : onF s 14 ≤ 8 := by rw [← pc_8 s (by omega)]; exact pcN_le 8 s
        have inner : ∀ (q j : Nat), j + q = 2 → JW g mX6_chance (rmO 7 0 0) (QM Post 0 0) 57 [(7, .int (nI j)), (6, .int (nI s)), (5, .int (nI (smN (ctN c G x 2 ρ) s))), (0, .ref 198), (1, .int G), (2, .int (nI 2)), (3, .int (nI x)), (4, .int up)] [] 0 0 Z (upR I 204 (hcF c G s j ρ)) L := by
          intro q
          induction q with
          | zero =>
            intro j hj
            have : j = 2 := by omega
            subst this
            have hi : JW g mX6_chance (rmO 7 0 0) (QM Post 0 0) 33 [(6, .int (nI (s + 1))), (5, .int (nI (smN (ctN c G x 2 ρ) s + (if hcF c G s 2 ρ 3 = 1 then x ^ onF s 14 * (10 - x) ^ (4 * 2 - onF s 14) else 0)))), (0, .ref 198), (1, .int G), (2, .int (nI 2)), (3, .int (nI x)), (4, .int up)] [] 0 0 Z (upR I 204 (hcF c G s 2 ρ)) L := ih (s + 1) _ (by omega) (OKz.hc oC G s oN 2).2
            refine j_iload 0 dX6_chance_57 rfl (j_iload_n 5 dX6_chance_59 rfl (j_icmp_ge (tgt := 88) dX6_chance_60 rfl (fun g1 => ?_) (fun g1 => ?_)))
            · refine j_iload 2 dX6_chance_88 rfl (j_aload_n 3 dX6_chance_90 rfl (j_getR (b := 204) dX6_chance_91 fX6_25 rfl (by first | assumption | rfl) (by first | assumption | rfl) (j_iconst (v := 3) dX6_chance_94 rfl (j_iaload 3 dX6_chance_95 (by first | assumption | rfl) (by first | assumption | rfl) (by omega) (j_iconst (v := 1) dX6_chance_96 rfl (j_icmp_ne (tgt := 129) dX6_chance_97 rfl (fun g2 => ?_) (fun g2 => ?_)))))))
              · rw [upR_s] at g2
                rw [if_neg g2, Nat.add_zero] at hi
                refine j_iconst (v := 0) dX6_chance_129 rfl (j_iadd dX6_chance_130 ?_)
                rw [Int32.add_zero]
                refine j_istore (lv' := [(5, _), (7, _), (6, _), (0, _), (1, _), (2, _), (3, _), (4, _)]) dX6_chance_131 rfl (j_iinc (y := 1) (lv' := [(6, _), (5, _), (7, _), (0, _), (1, _), (2, _), (3, _), (4, _)]) 2 dX6_chance_133 rfl rfl rfl (j_goto (tgt := 33) dX6_chance_136 rfl ?_))
                rw [nI_1]
                exact JW.locals [0, 1, 3, 4, 5, 6, 7] rfl hi
              · rw [upR_s] at g2
                rw [if_pos g2] at hi
                refine j_iload_n 6 dX6_chance_100 rfl (j_iload 1 dX6_chance_101 rfl (j_S1 dX6_chance_103 kX6_195 (c_ones (by omega) ?_)))
                refine j_S2 dX6_chance_106 kX6_240 (c_power (by omega) ?_)
                refine j_bipush (v := 10) dX6_chance_109 rfl (j_iload_n 6 dX6_chance_111 rfl (j_isub dX6_chance_112 (j_iconst (v := 4) dX6_chance_113 rfl (j_iload_n 5 dX6_chance_114 rfl (j_imul dX6_chance_115 ?_)))))
                rw [show (10 : Int32) - nI x = nI (10 - x) from pk_sub (a := 10) (by omega), show (4 : Int32) * nI 2 = nI (4 * 2) from rfl]
                refine j_iload 1 dX6_chance_116 rfl (j_S1 dX6_chance_118 kX6_195 (c_ones (by omega) ?_))
                refine j_isub dX6_chance_121 ?_
                rw [pk_sub (by omega)]
                refine j_S2 dX6_chance_122 kX6_240 (c_power (by omega) ?_)
                refine j_imul dX6_chance_125 (j_goto (tgt := 130) dX6_chance_126 rfl (j_iadd dX6_chance_130 ?_))
                rw [pk_mul, nI_add]
                refine j_istore (lv' := [(5, _), (7, _), (6, _), (0, _), (1, _), (2, _), (3, _), (4, _)]) dX6_chance_131 rfl (j_iinc (y := 1) (lv' := [(6, _), (5, _), (7, _), (0, _), (1, _), (2, _), (3, _), (4, _)]) 2 dX6_chance_133 rfl rfl rfl (j_goto (tgt := 33) dX6_chance_136 rfl ?_))
                rw [nI_1]
                exact JW.locals [0, 1, 3, 4, 5, 6, 7] rfl hi
            · exact absurd (nI_le (Nat.le_refl _) (by decide)) g1
          | succ q ih2 =>
            intro j hj
            refine j_iload 0 dX6_chance_57 rfl (j_iload_n 5 dX6_chance_59 rfl (j_icmp_ge (tgt := 88) dX6_chance_60 rfl (fun g1 => ?_) (fun g1 => ?_)))
            · exact absurd g1 (nI_ge (by omega) (by decide))
            · refine j_aload_n 3 dX6_chance_63 rfl (j_aload_n 3 dX6_chance_64 rfl (j_getR (b := 204) dX6_chance_65 fX6_25 rfl (by first | assumption | rfl) (by first | assumption | rfl) (j_iload_n 4 dX6_chance_68 rfl (j_iload 1 dX6_chance_69 rfl (j_iconst (v := 4) dX6_chance_71 rfl (j_iload 0 dX6_chance_72 rfl (j_imul dX6_chance_74 (j_ishr dX6_chance_75 (j_bipush (v := 15) dX6_chance_76 rfl (j_iand dX6_chance_78 ?_))))))))))
              rw [show (4 : Int32) * nI j = nI (4 * j) from pk_mul 4 j, shrI (by omega) (by omega), and15]
              refine j_V3 dX6_chance_79 kX6_206 (by first | assumption | rfl) (c_hearGroup hMo (sC.up (by decide) _) (by decide) k204 l204 (by rw [upR_s]; exact (OKz.hc oC G s oN j).1) (Nat.lt_of_lt_of_le (Nat.mod_lt _ (by decide)) (by decide)) ?_)
              rw [upR_R, upR_s]
              refine j_iinc (y := 1) (lv' := [(7, _), (6, _), (5, _), (0, _), (1, _), (2, _), (3, _), (4, _)]) 0 dX6_chance_82 rfl rfl rfl (j_goto (tgt := 57) dX6_chance_85 rfl ?_)
              rw [nI_1]
              exact ih2 (j + 1) (by omega)
        refine j_iload 0 dX6_chance_33 rfl (j_iconst (v := 1) dX6_chance_35 rfl (j_iconst (v := 4) dX6_chance_36 rfl (j_iload_n 4 dX6_chance_37 rfl (j_imul dX6_chance_38 (j_ishl dX6_chance_39 (j_icmp_ge (tgt := 139) dX6_chance_40 rfl (fun g1 => ?_) (fun g1 => ?_)))))))
        · exact absurd g1 (nI_ge (b := 256) (by omega) (by decide))
        · refine j_aload_n 2 dX6_chance_43 rfl (j_getR (b := 203) dX6_chance_44 fX6_22 rfl (by first | assumption | rfl) (by first | assumption | rfl) (j_aload_n 2 dX6_chance_47 rfl (j_getR (b := 204) dX6_chance_48 fX6_25 rfl (by first | assumption | rfl) (by first | assumption | rfl) (j_S2 dX6_chance_51 kX6_212 (c_toTrial k203 l203 k204 l204 ((upR_n (by decide)).trans sN) oN.2 (by rw [upR_s]; exact hz) ?_)))))
          rw [upR_R]
          refine j_iconst (v := 0) dX6_chance_54 rfl (j_istore (lv' := [(7, _), (6, _), (5, _), (0, _), (1, _), (2, _), (3, _), (4, _)]) dX6_chance_55 rfl ?_)
          exact JW.locals [0, 1, 2, 3, 4, 5, 6, 7] rfl (inner 2 0 rfl)
    have h0 := loop 256 0 (I 204) rfl sZ
    rw [fa_self] at h0
    exact JW.locals [0, 1, 2, 3, 4, 5, 6] rfl h0


theorem q_chance_b {g : GT} {Z : ZT} {I : IT} {L : LT} {Post : PT} {t : Nat → Nat} {n : Nat} {c : CT} {w : Nat} {ρ : RT} {A : Nat × Nat × (Nat → RT)} {K : (Nat → RT) × (Nat → Bool)} {E : (Nat → Int32) × (Nat → Nat) × (Nat → Nat) × Nat} {sd : Int64} {G x y up : Int32} (hM : isM Z) (hs : MSt t n c w ρ A K E sd I L) (ho : OKs c w ρ A K E) (hx : ∀ k v, 1 ≤ k → k ≤ 2 → v ≤ 10 → x = nI k → y = nI v → False) (hp : Post (some (.int (-2))) Z I L) : CM g 7 0 0 mX6_chance [.ref 198, .int G, .int x, .int y, .int up] Z I L Post := by
  obtain ⟨m0, f0, f3, f6, f7, f10, f11, f12, f15, f16, f17, f18, f19, f22, f24, k199, l199, k200, l200, k201, l201, k202, l202, k203, l203, k204, l204, k205, l205, k206, l206, k207, l207, k208, l208, k209, l209, k210, l210, k211, l211, k212, l212⟩ := id hM
  have hMo : isMo Z := ⟨m0, f3, f6, f7, k200, l200, k201, l201, k202, l202⟩
  obtain ⟨sT, ⟨sC, s4, s8, s9⟩, sN, sA, sK, sE, sL, sZ⟩ := id hs
  obtain ⟨oC, oW, oN, oA, oK, oE⟩ := id ho
  refine CM_intro ?_
  refine j_iload_n 2 dX6_chance_0 rfl (j_i2l dX6_chance_1 (j_lconst (v := 1) dX6_chance_2 rfl (j_ldc2 (v := 2) dX6_chance_3 (List.mem_of_getElem? (i := 1031) (by decide +kernel)) (j_S3 dX6_chance_6 kX6_68 (c_inB 1 2 (by decide) rfl rfl ⟨fun k h1 hk ek => ?_, fun _ => ?_⟩)))))
  · refine j_if_eq (tgt := 24) dX6_chance_9 rfl (fun h9 => absurd h9 (by decide)) (fun _ => (j_iload_n 3 dX6_chance_12 rfl (j_i2l dX6_chance_13 (j_lconst (v := 0) dX6_chance_14 rfl (j_ldc2 (v := 10) dX6_chance_15 (List.mem_of_getElem? (i := 1058) (by decide +kernel)) (j_S3 dX6_chance_18 kX6_68 (c_inB 0 10 (by decide) rfl rfl ⟨fun v _ hv ev => (hx k v h1 hk hv ek ev).elim, fun _ => ?_⟩)))))))
    refine j_if_ne (tgt := 27) dX6_chance_21 rfl (fun h9 => absurd (by decide) h9) (fun _ => (j_bipush (v := -2) dX6_chance_24 rfl (j_iret dX6_chance_26 ?_)))
    exact hp
  · refine j_if_eq (tgt := 24) dX6_chance_9 rfl (fun _ => (j_bipush (v := -2) dX6_chance_24 rfl (j_iret dX6_chance_26 ?_))) (fun h9 => absurd (by decide) h9)
    exact hp

theorem q_distance {g : GT} {Z : ZT} {I : IT} {L : LT} {Post : PT} {t : Nat → Nat} {n : Nat} {c : CT} {w : Nat} {ρ : RT} {A : Nat × Nat × (Nat → RT)} {K : (Nat → RT) × (Nat → Bool)} {E : (Nat → Int32) × (Nat → Nat) × (Nat → Nat) × Nat} {sd : Int64}  (hM : isM Z) (hs : MSt t n c w ρ A K E sd I L) (ho : OKs c w ρ A K E)  (hp : Post (some (.int (nI (diN c 255)))) Z I L) : CM g 2 0 0 mX6_distance [.ref 198] Z I L Post := by
  obtain ⟨m0, f0, f3, f6, f7, f10, f11, f12, f15, f16, f17, f18, f19, f22, f24, k199, l199, k200, l200, k201, l201, k202, l202, k203, l203, k204, l204, k205, l205, k206, l206, k207, l207, k208, l208, k209, l209, k210, l210, k211, l211, k212, l212⟩ := id hM
  have hMo : isMo Z := ⟨m0, f3, f6, f7, k200, l200, k201, l201, k202, l202⟩
  obtain ⟨sT, ⟨sC, s4, s8, s9⟩, sN, sA, sK, sE, sL, sZ⟩ := id hs
  obtain ⟨oC, oW, oN, oA, oK, oE⟩ := id ho
  refine CM_intro ?_
  have loop : ∀ (m d : Nat), d + m = 255 → JW g mX6_distance (rmO 2 0 0) (QM Post 0 0) 5 [(2, .int (nI (d + 1))), (1, .int (nI (diN c d))), (0, .ref 198)] [] 0 0 Z I L := by
    intro m
    induction m with
    | zero =>
      intro d hm
      have : d = 255 := by omega
      subst this
      refine j_iload_n 0 dX6_distance_5 rfl (j_sipush (v := 256) dX6_distance_6 rfl (j_icmp_ge (tgt := 46) dX6_distance_9 rfl (fun g1 => ?_) (fun g1 => ?_)))
      · refine j_iload_n 1 dX6_distance_46 rfl (j_iret dX6_distance_47 ?_)
        exact hp
      · exact absurd (by decide) g1
    | succ m ih =>
      intro d hm
      have hi : JW g mX6_distance (rmO 2 0 0) (QM Post 0 0) 5 [(2, .int (nI (d + 1 + 1))), (1, .int (nI (if onF (64 * (d + 1) + lfN c.1 (64 * (d + 1))) 14 < diN c d then onF (64 * (d + 1) + lfN c.1 (64 * (d + 1))) 14 else diN c d))), (0, .ref 198)] [] 0 0 Z I L := ih (d + 1) (by omega)
      have hl := lfN_lt (n := 64 * (d + 1)) oC.2.2.1 (by omega)
      have ho1 := onF_le (64 * (d + 1) + lfN c.1 (64 * (d + 1))) 14
      have ho2 := diN_le c d
      refine j_iload_n 0 dX6_distance_5 rfl (j_sipush (v := 256) dX6_distance_6 rfl (j_icmp_ge (tgt := 46) dX6_distance_9 rfl (fun g1 => ?_) (fun g1 => ?_)))
      · exact absurd g1 (nI_ge (b := 256) (by omega) (by decide))
      · refine j_bipush (v := 64) dX6_distance_12 rfl (j_iload_n 0 dX6_distance_14 rfl (j_imul dX6_distance_15 (j_aload_n 2 dX6_distance_16 rfl (j_bipush (v := 64) dX6_distance_17 rfl (j_iload_n 0 dX6_distance_19 rfl (j_imul dX6_distance_20 ?_))))))
        rw [show (64 : Int32) * nI (d + 1) = nI (64 * (d + 1)) from pk_mul 64 _]
        refine j_V1 dX6_distance_21 kX6_89 (by first | assumption | rfl) (c_left m0 sC.1 sC.2.1 (by omega) ?_)
        refine j_iadd dX6_distance_24 ?_
        rw [nI_add]
        refine j_S1 dX6_distance_25 kX6_195 (c_ones (by omega) ?_)
        refine j_istore_n (lv' := [(3, _), (2, _), (1, _), (0, _)]) dX6_distance_28 rfl (j_iload_n 0 dX6_distance_29 rfl (j_iload_n 2 dX6_distance_30 rfl (j_icmp_ge (tgt := 38) dX6_distance_31 rfl (fun g2 => ?_) (fun g2 => ?_))))
        · rw [if_neg (fun z => absurd g2 (nI_ge z (by omega)))] at hi
          refine j_iload_n 2 dX6_distance_38 rfl (j_istore_n (lv' := [(1, _), (3, _), (2, _), (0, _)]) dX6_distance_39 rfl (j_iinc (y := 1) (lv' := [(2, _), (1, _), (3, _), (0, _)]) 2 dX6_distance_40 rfl rfl rfl (j_goto (tgt := 5) dX6_distance_43 rfl ?_)))
          rw [nI_1]
          exact JW.locals [0, 1, 3] rfl hi
        · rw [if_pos (Nat.lt_of_not_le (fun z => g2 (nI_le z (by omega))))] at hi
          refine j_iload_n 0 dX6_distance_34 rfl (j_goto (tgt := 39) dX6_distance_35 rfl ?_)
          refine j_istore_n (lv' := [(1, _), (3, _), (2, _), (0, _)]) dX6_distance_39 rfl (j_iinc (y := 1) (lv' := [(2, _), (1, _), (3, _), (0, _)]) 2 dX6_distance_40 rfl rfl rfl (j_goto (tgt := 5) dX6_distance_43 rfl ?_))
          rw [nI_1]
          exact JW.locals [0, 1, 3] rfl hi
  refine j_bipush (v := 14) dX6_distance_0 rfl (j_istore_n (lv' := [(1, _), (0, _)]) dX6_distance_2 rfl (j_iconst (v := 1) dX6_distance_3 rfl (j_istore_n (lv' := [(2, _), (1, _), (0, _)]) dX6_distance_4 rfl ?_)))
  exact JW.locals [0, 1, 2] rfl (loop 255 0 rfl)

theorem q_flips {g : GT} {Z : ZT} {I : IT} {L : LT} {Post : PT} {t : Nat → Nat} {n : Nat} {c : CT} {w : Nat} {ρ : RT} {A : Nat × Nat × (Nat → RT)} {K : (Nat → RT) × (Nat → Bool)} {E : (Nat → Int32) × (Nat → Nat) × (Nat → Nat) × Nat} {sd : Int64} {k v : Nat} (hM : isM Z) (hs : MSt t n c w ρ A K E sd I L) (ho : OKs c w ρ A K E) (hk : k ≤ 4) (hv : v ≤ 3) (hp : Post (some (.int (nI (swN c v k 0 0)))) Z I L) : CM g 2 0 0 mX6_flips [.ref 198, .int (nI k), .int (nI v)] Z I L Post := by
  obtain ⟨m0, f0, f3, f6, f7, f10, f11, f12, f15, f16, f17, f18, f19, f22, f24, k199, l199, k200, l200, k201, l201, k202, l202, k203, l203, k204, l204, k205, l205, k206, l206, k207, l207, k208, l208, k209, l209, k210, l210, k211, l211, k212, l212⟩ := id hM
  have hMo : isMo Z := ⟨m0, f3, f6, f7, k200, l200, k201, l201, k202, l202⟩
  obtain ⟨sT, ⟨sC, s4, s8, s9⟩, sN, sA, sK, sE, sL, sZ⟩ := id hs
  obtain ⟨oC, oW, oN, oA, oK, oE⟩ := id ho
  refine CM_intro ?_
  rw [← fw_sw] at hp
  have loop : ∀ (q m : Nat), m + q = 16384 → JW g mX6_flips (rmO 2 0 0) (QM Post 0 0) 32 [(4, .int (nI m)), (3, .int (nI (smN (fwN c k v) m))), (0, .ref 198), (1, .int (nI k)), (2, .int (nI v))] [] 0 0 Z I L := by
    intro q
    induction q with
    | zero =>
      intro m hm
      have : m = 16384 := by omega
      subst this
      refine j_iload 0 dX6_flips_32 rfl (j_sipush (v := 16383) dX6_flips_34 rfl (j_icmp_gt (tgt := 117) dX6_flips_37 rfl (fun g1 => ?_) (fun g1 => ?_)))
      · refine j_iload_n 1 dX6_flips_117 rfl (j_iret dX6_flips_118 ?_)
        exact hp
      · exact absurd (nI_lt (a := 16383) (b := 16384) (by decide) (by decide)) g1
    | succ q ih =>
      intro m hm
      have hi : JW g mX6_flips (rmO 2 0 0) (QM Post 0 0) 32 [(4, .int (nI (m + 1))), (3, .int (nI (smN (fwN c k v) m + (if onF m 14 = k ∧ ftN c m = v then 1 else 0)))), (0, .ref 198), (1, .int (nI k)), (2, .int (nI v))] [] 0 0 Z I L := ih (m + 1) (by omega)
      have ho1 := onF_le m 14
      have hr := lfN_lt (n := m) oC.2.2.1 (by omega)
      have hsr := oC.2.2.2.2 _ hr
      have hf4 := ftN_lt c m
      refine j_iload 0 dX6_flips_32 rfl (j_sipush (v := 16383) dX6_flips_34 rfl (j_icmp_gt (tgt := 117) dX6_flips_37 rfl (fun g1 => ?_) (fun g1 => ?_)))
      · exact absurd g1 (nI_nlt (a := 16383) (by omega) (by decide))
      · refine j_iload 0 dX6_flips_40 rfl (j_S1 dX6_flips_42 kX6_195 (c_ones (by omega) ?_))
        refine j_iload_n 3 dX6_flips_45 rfl (j_icmp_ne (tgt := 111) dX6_flips_46 rfl (fun g2 => ?_) (fun g2 => ?_))
        · rw [if_neg (fun z => g2 (by rw [z.1])), Nat.add_zero] at hi
          refine j_iinc (y := 1) (lv' := [(4, _), (3, _), (0, _), (1, _), (2, _)]) 0 dX6_flips_111 rfl rfl rfl (j_goto (tgt := 32) dX6_flips_114 rfl ?_)
          rw [nI_1]
          exact JW.locals [0, 1, 2, 3, 4] rfl hi
        · have hon : onF m 14 = k := nI_inj (by omega) (by omega) g2
          have t95 : ∀ u : Int32, u = nI (ftN c m) → JW g mX6_flips (rmO 2 0 0) (QM Post 0 0) 95 [(6, .int (nI (c.2.2.2 (lfN c.1 m)))), (5, .int (nI (lfN c.1 m))), (4, .int (nI m)), (3, .int (nI (smN (fwN c k v) m))), (0, .ref 198), (1, .int (nI k)), (2, .int (nI v))] [.int u] 0 0 Z I L := by
            intro u hu
            subst hu
            refine j_istore (lv' := [(7, _), (6, _), (5, _), (4, _), (3, _), (0, _), (1, _), (2, _)]) dX6_flips_95 rfl (j_iload_n 4 dX6_flips_97 rfl (j_iload 0 dX6_flips_98 rfl (j_iload_n 7 dX6_flips_100 rfl (j_icmp_ne (tgt := 108) dX6_flips_101 rfl (fun g3 => ?_) (fun g3 => ?_)))))
            · rw [if_neg (fun z => g3 (by rw [z.2])), Nat.add_zero] at hi
              refine j_iconst (v := 0) dX6_flips_108 rfl (j_iadd dX6_flips_109 ?_)
              rw [Int32.add_zero]
              refine j_istore_n (lv' := [(3, _), (7, _), (6, _), (5, _), (4, _), (0, _), (1, _), (2, _)]) dX6_flips_110 rfl (j_iinc (y := 1) (lv' := [(4, _), (3, _), (7, _), (6, _), (5, _), (0, _), (1, _), (2, _)]) 4 dX6_flips_111 rfl rfl rfl (j_goto (tgt := 32) dX6_flips_114 rfl ?_))
              rw [nI_1]
              exact JW.locals [0, 1, 5, 6, 7] rfl hi
            · rw [if_pos ⟨hon, nI_inj (by omega) (by omega) g3⟩] at hi
              refine j_iconst (v := 1) dX6_flips_104 rfl (j_goto (tgt := 109) dX6_flips_105 rfl (j_iadd dX6_flips_109 ?_))
              rw [nI_1]
              refine j_istore_n (lv' := [(3, _), (7, _), (6, _), (5, _), (4, _), (0, _), (1, _), (2, _)]) dX6_flips_110 rfl (j_iinc (y := 1) (lv' := [(4, _), (3, _), (7, _), (6, _), (5, _), (0, _), (1, _), (2, _)]) 4 dX6_flips_111 rfl rfl rfl (j_goto (tgt := 32) dX6_flips_114 rfl ?_))
              rw [nI_1]
              exact JW.locals [0, 1, 5, 6, 7] rfl hi
          unfold ftN at t95
          refine j_aload_n 2 dX6_flips_49 rfl (j_iload 0 dX6_flips_50 rfl (j_V1 dX6_flips_52 kX6_89 (by first | assumption | rfl) (c_left m0 sC.1 sC.2.1 (by omega) ?_)))
          refine j_istore (lv' := [(5, _), (4, _), (3, _), (0, _), (1, _), (2, _)]) dX6_flips_55 rfl (j_aload_n 3 dX6_flips_57 rfl (j_iload 0 dX6_flips_58 rfl (j_V1 dX6_flips_60 kX6_150 (by first | assumption | rfl) (c_mSure hMo sC hr sC.s0 ?_))))
          refine j_istore (lv' := [(6, _), (5, _), (4, _), (3, _), (0, _), (1, _), (2, _)]) dX6_flips_63 rfl (j_iload 1 dX6_flips_65 rfl (j_if_ne (tgt := 74) dX6_flips_67 rfl (fun g3 => ?_) (fun g3 => ?_)))
          · have n0 : ¬ lfN c.1 m = 0 := fun z => g3 (by rw [z]; rfl)
            rw [if_neg n0] at t95
            refine j_iload 0 dX6_flips_74 rfl (j_if_ne (tgt := 83) dX6_flips_76 rfl (fun g4 => ?_) (fun g4 => ?_))
            · have n1 : ¬ c.2.2.2 (lfN c.1 m) = 0 := fun z => g4 (by rw [z]; rfl)
              rw [if_neg n1] at t95
              refine j_iload 0 dX6_flips_83 rfl (j_iload 2 dX6_flips_85 rfl (j_icmp_ne (tgt := 94) dX6_flips_87 rfl (fun g5 => ?_) (fun g5 => ?_)))
              · rw [if_neg (fun z => g5 (by rw [z]))] at t95
                refine j_iconst (v := 2) dX6_flips_94 rfl ?_
                exact t95 _ rfl
              · rw [if_pos (nI_inj (by omega) (by omega) g5)] at t95
                refine j_iconst (v := 1) dX6_flips_90 rfl (j_goto (tgt := 95) dX6_flips_91 rfl ?_)
                exact t95 _ rfl
            · rw [if_pos (nI_inj (b := 0) (by omega) (by decide) g4)] at t95
              refine j_iconst (v := 3) dX6_flips_79 rfl (j_goto (tgt := 95) dX6_flips_80 rfl ?_)
              exact t95 _ rfl
          · rw [if_pos (nI_inj (b := 0) (by omega) (by decide) g3)] at t95
            refine j_iconst (v := 0) dX6_flips_70 rfl (j_goto (tgt := 95) dX6_flips_71 rfl ?_)
            exact t95 _ rfl
  refine j_iload_n 1 dX6_flips_0 rfl (j_i2l dX6_flips_1 (j_lconst (v := 0) dX6_flips_2 rfl (j_ldc2 (v := 4) dX6_flips_3 (List.mem_of_getElem? (i := 926) (by decide +kernel)) (j_S3 dX6_flips_6 kX6_68 (c_inB 0 4 (by decide) rfl rfl ⟨fun _ _ _ _ => ?_, fun h => absurd rfl (h k (by omega) (by omega))⟩)))))
  refine j_if_eq (tgt := 24) dX6_flips_9 rfl (fun h9 => absurd h9 (by decide)) (fun _ => (j_iload_n 2 dX6_flips_12 rfl (j_i2l dX6_flips_13 (j_lconst (v := 0) dX6_flips_14 rfl (j_ldc2 (v := 3) dX6_flips_15 (List.mem_of_getElem? (i := 853) (by decide +kernel)) (j_S3 dX6_flips_18 kX6_68 (c_inB 0 3 (by decide) rfl rfl ⟨fun _ _ _ _ => ?_, fun h => absurd rfl (h v (by omega) (by omega))⟩)))))))
  refine j_if_ne (tgt := 27) dX6_flips_21 rfl (fun _ => (j_iconst (v := 0) dX6_flips_27 rfl (j_istore_n (lv' := [(3, _), (0, _), (1, _), (2, _)]) dX6_flips_28 rfl (j_iconst (v := 0) dX6_flips_29 rfl (j_istore (lv' := [(4, _), (3, _), (0, _), (1, _), (2, _)]) dX6_flips_30 rfl ?_))))) (fun h9 => absurd h9 (by decide))
  exact JW.locals [0, 1, 2, 3, 4] rfl (loop 16384 0 rfl)

theorem q_flips_b {g : GT} {Z : ZT} {I : IT} {L : LT} {Post : PT} {t : Nat → Nat} {n : Nat} {c : CT} {w : Nat} {ρ : RT} {A : Nat × Nat × (Nat → RT)} {K : (Nat → RT) × (Nat → Bool)} {E : (Nat → Int32) × (Nat → Nat) × (Nat → Nat) × Nat} {sd : Int64} {x y : Int32} (hM : isM Z) (hs : MSt t n c w ρ A K E sd I L) (ho : OKs c w ρ A K E) (hx : ∀ k v, k ≤ 4 → v ≤ 3 → x = nI k → y = nI v → False) (hp : Post (some (.int (-2))) Z I L) : CM g 2 0 0 mX6_flips [.ref 198, .int x, .int y] Z I L Post := by
  obtain ⟨m0, f0, f3, f6, f7, f10, f11, f12, f15, f16, f17, f18, f19, f22, f24, k199, l199, k200, l200, k201, l201, k202, l202, k203, l203, k204, l204, k205, l205, k206, l206, k207, l207, k208, l208, k209, l209, k210, l210, k211, l211, k212, l212⟩ := id hM
  have hMo : isMo Z := ⟨m0, f3, f6, f7, k200, l200, k201, l201, k202, l202⟩
  obtain ⟨sT, ⟨sC, s4, s8, s9⟩, sN, sA, sK, sE, sL, sZ⟩ := id hs
  obtain ⟨oC, oW, oN, oA, oK, oE⟩ := id ho
  refine CM_intro ?_
  refine j_iload_n 1 dX6_flips_0 rfl (j_i2l dX6_flips_1 (j_lconst (v := 0) dX6_flips_2 rfl (j_ldc2 (v := 4) dX6_flips_3 (List.mem_of_getElem? (i := 926) (by decide +kernel)) (j_S3 dX6_flips_6 kX6_68 (c_inB 0 4 (by decide) rfl rfl ⟨fun k _ hk ek => ?_, fun _ => ?_⟩)))))
  · refine j_if_eq (tgt := 24) dX6_flips_9 rfl (fun h9 => absurd h9 (by decide)) (fun _ => (j_iload_n 2 dX6_flips_12 rfl (j_i2l dX6_flips_13 (j_lconst (v := 0) dX6_flips_14 rfl (j_ldc2 (v := 3) dX6_flips_15 (List.mem_of_getElem? (i := 853) (by decide +kernel)) (j_S3 dX6_flips_18 kX6_68 (c_inB 0 3 (by decide) rfl rfl ⟨fun v _ hv ev => (hx k v hk hv ek ev).elim, fun _ => ?_⟩)))))))
    refine j_if_ne (tgt := 27) dX6_flips_21 rfl (fun h9 => absurd (by decide) h9) (fun _ => (j_bipush (v := -2) dX6_flips_24 rfl (j_iret dX6_flips_26 ?_)))
    exact hp
  · refine j_if_eq (tgt := 24) dX6_flips_9 rfl (fun _ => (j_bipush (v := -2) dX6_flips_24 rfl (j_iret dX6_flips_26 ?_))) (fun h9 => absurd (by decide) h9)
    exact hp

theorem rest_0 {c : CT} (oC : okC c) {k v : Nat} (hk : k < 4) : lfN c.1 (v ^^^ c.2.1 k) = 0 ↔ c.2.1 k = lfN c.1 v := by
  rw [lfN_xor, lfN_id _ (oC.2.2.2.1 k hk)]
  constructor
  · intro h
    have h2 : lfN c.1 v ^^^ c.2.1 k ^^^ c.2.1 k = 0 ^^^ c.2.1 k := by rw [h]
    rw [Nat.xor_assoc, Nat.xor_self, Nat.xor_zero, Nat.zero_xor] at h2
    exact h2.symm
  · intro h
    rw [h, Nat.xor_self]
theorem q_slips {g : GT} {Z : ZT} {I : IT} {L : LT} {Post : PT} {t : Nat → Nat} {n : Nat} {c : CT} {w : Nat} {ρ : RT} {A : Nat × Nat × (Nat → RT)} {K : (Nat → RT) × (Nat → Bool)} {E : (Nat → Int32) × (Nat → Nat) × (Nat → Nat) × Nat} {sd : Int64} {k d e : Nat} (hM : isM Z) (hs : MSt t n c w ρ A K E sd I L) (ho : OKs c w ρ A K E) (hk : k < 4) (hd : d < 256) (he : e < 256) (hp : Post (some (.int (nI (slN c (wdN c k d * 16384 + wdN c ((k + 1) % 4) e) 13)))) Z I L) : CM g 3 0 0 mX6_slips [.ref 198, .int (nI k), .int (nI d), .int (nI e)] Z I L Post := by
  obtain ⟨m0, f0, f3, f6, f7, f10, f11, f12, f15, f16, f17, f18, f19, f22, f24, k199, l199, k200, l200, k201, l201, k202, l202, k203, l203, k204, l204, k205, l205, k206, l206, k207, l207, k208, l208, k209, l209, k210, l210, k211, l211, k212, l212⟩ := id hM
  have hMo : isMo Z := ⟨m0, f3, f6, f7, k200, l200, k201, l201, k202, l202⟩
  obtain ⟨sT, ⟨sC, s4, s8, s9⟩, sN, sA, sK, sE, sL, sZ⟩ := id hs
  obtain ⟨oC, oW, oN, oA, oK, oE⟩ := id ho
  refine CM_intro ?_
  have hk1 : (k + 1) % 4 < 4 := Nat.mod_lt _ (by decide)
  have hw1 := wdN_lt oC.2.2.1 (oC.2.2.2.1 k hk) hd
  have hw2 := wdN_lt oC.2.2.1 (oC.2.2.2.1 _ hk1) he
  generalize hB : wdN c k d * 16384 + wdN c ((k + 1) % 4) e = B at hp
  have hBl : B < 2 ^ 31 := by omega
  have loop : ∀ (q i : Nat), i + q = 13 → JW g mX6_slips (rmO 3 0 0) (QM Post 0 0) 64 [(6, .int (nI (i + 1))), (5, .int (nI (slN c B i))), (4, .int (nI B)), (0, .ref 198), (1, .int (nI k)), (2, .int (nI d)), (3, .int (nI e))] [] 0 0 Z I L := by
    intro q
    induction q with
    | zero =>
      intro i hi
      have : i = 13 := by omega
      subst this
      refine j_iload 0 dX6_slips_64 rfl (j_bipush (v := 14) dX6_slips_66 rfl (j_icmp_ge (tgt := 126) dX6_slips_68 rfl (fun g1 => ?_) (fun g1 => ?_)))
      · refine j_iload 1 dX6_slips_126 rfl (j_iret dX6_slips_128 ?_)
        exact hp
      · exact absurd (by decide) g1
    | succ q ih =>
      intro i hi
      have hv : B / 2 ^ (14 - (i + 1)) % 16384 < 16384 := Nat.mod_lt _ (by decide)
      have h2k : 1 * 2 ^ (i + 1) < 2 ^ 32 := by
        rw [Nat.one_mul]
        exact Nat.pow_lt_pow_right (by decide) (by omega)
      have inner : ∀ (r j : Nat), j + r = 4 → JW g mX6_slips (rmO 3 0 0) (QM Post 0 0) 74 [(7, .int (nI j)), (6, .int (nI (i + 1))), (5, .int (nI (slN c B i ||| (if fIx (fun k => decide (c.2.1 k = lfN c.1 (B / 2 ^ (14 - (i + 1)) % 16384))) j 0 < j then 2 ^ (i + 1) else 0)))), (4, .int (nI B)), (0, .ref 198), (1, .int (nI k)), (2, .int (nI d)), (3, .int (nI e))] [] 0 0 Z I L := by
        intro r
        induction r with
        | zero =>
          intro j hj
          have : j = 4 := by omega
          subst this
          have hi2 : JW g mX6_slips (rmO 3 0 0) (QM Post 0 0) 64 [(6, .int (nI (i + 1 + 1))), (5, .int (nI (slN c B i ||| slB c B (i + 1)))), (4, .int (nI B)), (0, .ref 198), (1, .int (nI k)), (2, .int (nI d)), (3, .int (nI e))] [] 0 0 Z I L := ih (i + 1) (by omega)
          have es : slB c B (i + 1) = (if fIx (fun k => decide (c.2.1 k = lfN c.1 (B / 2 ^ (14 - (i + 1)) % 16384))) 4 0 < 4 then 2 ^ (i + 1) else 0) := by
            have hle := fIx_le (fun k => decide (c.2.1 k = lfN c.1 (B / 2 ^ (14 - (i + 1)) % 16384))) 4 0
            unfold slB hitN
            by_cases h4 : fIx (fun k => decide (c.2.1 k = lfN c.1 (B / 2 ^ (14 - (i + 1)) % 16384))) 4 0 = 4
            · rw [if_pos h4, if_neg (by omega)]
            · rw [if_neg h4, if_pos (by omega)]
          rw [es] at hi2
          refine j_iload 0 dX6_slips_74 rfl (j_iconst (v := 4) dX6_slips_76 rfl (j_icmp_ge (tgt := 120) dX6_slips_77 rfl (fun g1 => ?_) (fun g1 => ?_)))
          · refine j_iinc (y := 1) (lv' := [(6, _), (7, _), (5, _), (4, _), (0, _), (1, _), (2, _), (3, _)]) 1 dX6_slips_120 rfl rfl rfl (j_goto (tgt := 64) dX6_slips_123 rfl ?_)
            rw [nI_1]
            exact JW.locals [0, 2, 3, 4, 5, 6, 7] rfl hi2
          · exact absurd (by decide) g1
        | succ r ih2 =>
          intro j hj
          have hj4 : j < 4 := by omega
          have hi2 := ih2 (j + 1) (by omega)
          have hr0 := rest_0 oC (v := B / 2 ^ (14 - (i + 1)) % 16384) hj4
          have hsn := fIx_snoc (fun k => decide (c.2.1 k = lfN c.1 (B / 2 ^ (14 - (i + 1)) % 16384))) j 0
          have hle := fIx_le (fun k => decide (c.2.1 k = lfN c.1 (B / 2 ^ (14 - (i + 1)) % 16384))) j 0
          rw [Nat.zero_add] at hsn
          have hrl : lfN c.1 (B / 2 ^ (14 - (i + 1)) % 16384 ^^^ c.2.1 j) < 64 := lfN_lt oC.2.2.1 (xor_lt14 hv (Nat.lt_trans (oC.2.2.2.1 j hj4) (by decide)))
          refine j_iload 0 dX6_slips_74 rfl (j_iconst (v := 4) dX6_slips_76 rfl (j_icmp_ge (tgt := 120) dX6_slips_77 rfl (fun g1 => ?_) (fun g1 => ?_)))
          · exact absurd g1 (nI_ge (b := 4) (by omega) (by decide))
          · refine j_iload 2 dX6_slips_80 rfl (j_aload_n 4 dX6_slips_82 rfl (j_iload 0 dX6_slips_83 rfl (j_iload 3 dX6_slips_85 rfl (j_bipush (v := 14) dX6_slips_87 rfl (j_iload 1 dX6_slips_89 rfl (j_isub dX6_slips_91 (j_ishr dX6_slips_92 (j_sipush (v := 16383) dX6_slips_93 rfl (j_iand dX6_slips_96 ?_)))))))))
            rw [show (14 : Int32) - nI (i + 1) = nI (14 - (i + 1)) from pk_sub (a := 14) (by omega), shrI hBl (by omega), and16383]
            refine j_V2 dX6_slips_97 kX6_146 (by first | assumption | rfl) (c_mRest hMo sC hj4 hv ?_)
            refine j_if_ne (tgt := 110) dX6_slips_100 rfl (fun g2 => ?_) (fun g2 => ?_)
            · have hne : ¬ c.2.1 j = lfN c.1 (B / 2 ^ (14 - (i + 1)) % 16384) := fun z => g2 (by rw [hr0.mpr z]; rfl)
              rw [decide_eq_false hne] at hsn
              refine j_iconst (v := 0) dX6_slips_110 rfl (j_ior dX6_slips_111 ?_)
              rw [show (0 : Int32) = nI 0 from rfl, fa_or, Nat.or_zero]
              refine j_istore (lv' := [(5, _), (7, _), (6, _), (4, _), (0, _), (1, _), (2, _), (3, _)]) dX6_slips_112 rfl (j_iinc (y := 1) (lv' := [(7, _), (5, _), (6, _), (4, _), (0, _), (1, _), (2, _), (3, _)]) 1 dX6_slips_114 rfl rfl rfl (j_goto (tgt := 74) dX6_slips_117 rfl ?_))
              rw [nI_1]
              by_cases hlt : fIx (fun k => decide (c.2.1 k = lfN c.1 (B / 2 ^ (14 - (i + 1)) % 16384))) j 0 < j
              · rw [if_pos hlt] at hsn ⊢
                rw [hsn, if_pos (by omega)] at hi2
                exact JW.locals [0, 2, 1, 3, 4, 5, 6, 7] rfl hi2
              · rw [if_neg hlt] at hsn ⊢
                rw [hsn, if_neg (show ¬ (false = true) by decide), if_neg (by omega)] at hi2
                exact JW.locals [0, 2, 1, 3, 4, 5, 6, 7] rfl hi2
            · have he2 : c.2.1 j = lfN c.1 (B / 2 ^ (14 - (i + 1)) % 16384) := hr0.mp (nI_inj (b := 0) (by omega) (by decide) g2)
              rw [decide_eq_true he2] at hsn
              refine j_iconst (v := 1) dX6_slips_103 rfl (j_iload 1 dX6_slips_104 rfl (j_ishl dX6_slips_106 (j_goto (tgt := 111) dX6_slips_107 rfl (j_ior dX6_slips_111 ?_))))
              rw [show (1 : Int32) <<< (nI (i + 1) &&& 31) = nI (1 * 2 ^ (i + 1)) from shlI (s := 1) h2k (by omega), fa_or, Nat.one_mul]
              refine j_istore (lv' := [(5, _), (7, _), (6, _), (4, _), (0, _), (1, _), (2, _), (3, _)]) dX6_slips_112 rfl (j_iinc (y := 1) (lv' := [(7, _), (5, _), (6, _), (4, _), (0, _), (1, _), (2, _), (3, _)]) 1 dX6_slips_114 rfl rfl rfl (j_goto (tgt := 74) dX6_slips_117 rfl ?_))
              rw [nI_1]
              by_cases hlt : fIx (fun k => decide (c.2.1 k = lfN c.1 (B / 2 ^ (14 - (i + 1)) % 16384))) j 0 < j
              · rw [if_pos hlt] at hsn ⊢
                rw [hsn, if_pos (by omega)] at hi2
                rw [Nat.or_assoc, Nat.or_self]
                exact JW.locals [0, 2, 1, 3, 4, 5, 6, 7] rfl hi2
              · rw [if_neg hlt] at hsn ⊢
                rw [hsn, if_pos rfl, if_pos (by omega)] at hi2
                rw [Nat.or_zero]
                exact JW.locals [0, 2, 1, 3, 4, 5, 6, 7] rfl hi2
      have in0 := inner 4 0 rfl
      rw [if_neg (Nat.not_lt_zero _), Nat.or_zero] at in0
      refine j_iload 0 dX6_slips_64 rfl (j_bipush (v := 14) dX6_slips_66 rfl (j_icmp_ge (tgt := 126) dX6_slips_68 rfl (fun g1 => ?_) (fun g1 => ?_)))
      · exact absurd g1 (nI_ge (b := 14) (by omega) (by decide))
      · refine j_iconst (v := 0) dX6_slips_71 rfl (j_istore (lv' := [(7, _), (6, _), (5, _), (4, _), (0, _), (1, _), (2, _), (3, _)]) dX6_slips_72 rfl ?_)
        exact JW.locals [0, 1, 2, 3, 4, 5, 6, 7] rfl in0
  refine j_iload_n 1 dX6_slips_0 rfl (j_S1 dX6_slips_1 kX6_183 (c_mIsOffset ⟨fun _ _ _ _ => ?_, fun h => absurd rfl (h k (Nat.zero_le _) (by omega))⟩))
  refine j_if_ne (tgt := 9) dX6_slips_4 rfl (fun _ => (j_iload_n 2 dX6_slips_9 rfl (j_i2l dX6_slips_10 (j_lconst (v := 0) dX6_slips_11 rfl (j_ldc2 (v := 255) dX6_slips_12 (List.mem_of_getElem? (i := 820) (by decide +kernel)) (j_S3 dX6_slips_15 kX6_68 (c_inB 0 255 (by decide) rfl rfl ⟨fun _ _ _ _ => ?_, fun h => absurd rfl (h d (by omega) (by omega))⟩))))))) (fun h9 => absurd h9 (by decide))
  refine j_if_eq (tgt := 33) dX6_slips_18 rfl (fun h9 => absurd h9 (by decide)) (fun _ => (j_iload_n 3 dX6_slips_21 rfl (j_i2l dX6_slips_22 (j_lconst (v := 0) dX6_slips_23 rfl (j_ldc2 (v := 255) dX6_slips_24 (List.mem_of_getElem? (i := 820) (by decide +kernel)) (j_S3 dX6_slips_27 kX6_68 (c_inB 0 255 (by decide) rfl rfl ⟨fun _ _ _ _ => ?_, fun h => absurd rfl (h e (by omega) (by omega))⟩)))))))
  refine j_if_ne (tgt := 36) dX6_slips_30 rfl (fun _ => (j_aload_n 0 dX6_slips_36 rfl (j_iload_n 1 dX6_slips_37 rfl (j_iload_n 2 dX6_slips_38 rfl (j_V2 dX6_slips_39 kX6_168 (by first | assumption | rfl) (c_mWord hMo sC hk hd ?_)))))) (fun h9 => absurd h9 (by decide))
  refine j_bipush (v := 14) dX6_slips_42 rfl (j_ishl dX6_slips_44 (j_aload_n 0 dX6_slips_45 rfl (j_iload_n 1 dX6_slips_46 rfl (j_iconst (v := 1) dX6_slips_47 rfl (j_iadd dX6_slips_48 (j_iconst (v := 4) dX6_slips_49 rfl (j_irem dX6_slips_50 (by decide) ?_)))))))
  rw [show nI (wdN c k d) <<< ((14 : Int32) &&& 31) = nI (wdN c k d * 2 ^ 14) from shlI (j := 14) (by omega) (by decide), nI_1, show (4 : Int32) = nI 4 from rfl, remI (by omega) (by decide) (by decide)]
  refine j_iload_n 3 dX6_slips_51 rfl (j_V2 dX6_slips_52 kX6_168 (by first | assumption | rfl) (c_mWord hMo sC hk1 he ?_))
  refine j_ior dX6_slips_55 ?_
  rw [fa_or, show 2 ^ 14 = 16384 from rfl, or_add hw2, hB]
  refine j_istore (lv' := [(4, _), (0, _), (1, _), (2, _), (3, _)]) dX6_slips_56 rfl (j_iconst (v := 0) dX6_slips_58 rfl (j_istore (lv' := [(5, _), (4, _), (0, _), (1, _), (2, _), (3, _)]) dX6_slips_59 rfl (j_iconst (v := 1) dX6_slips_61 rfl (j_istore (lv' := [(6, _), (5, _), (4, _), (0, _), (1, _), (2, _), (3, _)]) dX6_slips_62 rfl ?_))))
  exact JW.locals [0, 1, 2, 3, 4, 5, 6] rfl (loop 13 0 rfl)

theorem q_slips_u {g : GT} {Z : ZT} {I : IT} {L : LT} {Post : PT} {t : Nat → Nat} {n : Nat} {c : CT} {w : Nat} {ρ : RT} {A : Nat × Nat × (Nat → RT)} {K : (Nat → RT) × (Nat → Bool)} {E : (Nat → Int32) × (Nat → Nat) × (Nat → Nat) × Nat} {sd : Int64} {x y z : Int32} (hM : isM Z) (hs : MSt t n c w ρ A K E sd I L) (ho : OKs c w ρ A K E) (hx : ∀ j, j < 4 → x ≠ nI j) (hp : Post (some (.int (-1))) Z I L) : CM g 3 0 0 mX6_slips [.ref 198, .int x, .int y, .int z] Z I L Post := by
  obtain ⟨m0, f0, f3, f6, f7, f10, f11, f12, f15, f16, f17, f18, f19, f22, f24, k199, l199, k200, l200, k201, l201, k202, l202, k203, l203, k204, l204, k205, l205, k206, l206, k207, l207, k208, l208, k209, l209, k210, l210, k211, l211, k212, l212⟩ := id hM
  have hMo : isMo Z := ⟨m0, f3, f6, f7, k200, l200, k201, l201, k202, l202⟩
  obtain ⟨sT, ⟨sC, s4, s8, s9⟩, sN, sA, sK, sE, sL, sZ⟩ := id hs
  obtain ⟨oC, oW, oN, oA, oK, oE⟩ := id ho
  refine CM_intro ?_
  refine j_iload_n 1 dX6_slips_0 rfl (j_S1 dX6_slips_1 kX6_183 (c_mIsOffset ⟨fun j _ hj e => absurd e (hx j (by omega)), fun _ => ?_⟩))
  refine j_if_ne (tgt := 9) dX6_slips_4 rfl (fun h9 => absurd (by decide) h9) (fun _ => (j_iconst (v := -1) dX6_slips_7 rfl (j_iret dX6_slips_8 ?_)))
  exact hp

theorem q_slips_b {g : GT} {Z : ZT} {I : IT} {L : LT} {Post : PT} {t : Nat → Nat} {n : Nat} {c : CT} {w : Nat} {ρ : RT} {A : Nat × Nat × (Nat → RT)} {K : (Nat → RT) × (Nat → Bool)} {E : (Nat → Int32) × (Nat → Nat) × (Nat → Nat) × Nat} {sd : Int64} {k : Nat} {y z : Int32} (hM : isM Z) (hs : MSt t n c w ρ A K E sd I L) (ho : OKs c w ρ A K E) (hk : k < 4) (hy : ∀ j, j < 256 → y ≠ nI j) (hp : Post (some (.int (-2))) Z I L) : CM g 3 0 0 mX6_slips [.ref 198, .int (nI k), .int y, .int z] Z I L Post := by
  obtain ⟨m0, f0, f3, f6, f7, f10, f11, f12, f15, f16, f17, f18, f19, f22, f24, k199, l199, k200, l200, k201, l201, k202, l202, k203, l203, k204, l204, k205, l205, k206, l206, k207, l207, k208, l208, k209, l209, k210, l210, k211, l211, k212, l212⟩ := id hM
  have hMo : isMo Z := ⟨m0, f3, f6, f7, k200, l200, k201, l201, k202, l202⟩
  obtain ⟨sT, ⟨sC, s4, s8, s9⟩, sN, sA, sK, sE, sL, sZ⟩ := id hs
  obtain ⟨oC, oW, oN, oA, oK, oE⟩ := id ho
  refine CM_intro ?_
  refine j_iload_n 1 dX6_slips_0 rfl (j_S1 dX6_slips_1 kX6_183 (c_mIsOffset ⟨fun _ _ _ _ => ?_, fun h => absurd rfl (h k (Nat.zero_le _) (by omega))⟩))
  refine j_if_ne (tgt := 9) dX6_slips_4 rfl (fun _ => (j_iload_n 2 dX6_slips_9 rfl (j_i2l dX6_slips_10 (j_lconst (v := 0) dX6_slips_11 rfl (j_ldc2 (v := 255) dX6_slips_12 (List.mem_of_getElem? (i := 820) (by decide +kernel)) (j_S3 dX6_slips_15 kX6_68 (c_inB 0 255 (by decide) rfl rfl ⟨fun j hj0 hj e => absurd e (hy j (by omega)), fun _ => ?_⟩))))))) (fun h9 => absurd h9 (by decide))
  refine j_if_eq (tgt := 33) dX6_slips_18 rfl (fun _ => (j_bipush (v := -2) dX6_slips_33 rfl (j_iret dX6_slips_35 ?_))) (fun h9 => absurd (by decide) h9)
  exact hp

theorem q_slips_c {g : GT} {Z : ZT} {I : IT} {L : LT} {Post : PT} {t : Nat → Nat} {n : Nat} {c : CT} {w : Nat} {ρ : RT} {A : Nat × Nat × (Nat → RT)} {K : (Nat → RT) × (Nat → Bool)} {E : (Nat → Int32) × (Nat → Nat) × (Nat → Nat) × Nat} {sd : Int64} {k d : Nat} {z : Int32} (hM : isM Z) (hs : MSt t n c w ρ A K E sd I L) (ho : OKs c w ρ A K E) (hk : k < 4) (hd : d < 256) (hz : ∀ j, j < 256 → z ≠ nI j) (hp : Post (some (.int (-2))) Z I L) : CM g 3 0 0 mX6_slips [.ref 198, .int (nI k), .int (nI d), .int z] Z I L Post := by
  obtain ⟨m0, f0, f3, f6, f7, f10, f11, f12, f15, f16, f17, f18, f19, f22, f24, k199, l199, k200, l200, k201, l201, k202, l202, k203, l203, k204, l204, k205, l205, k206, l206, k207, l207, k208, l208, k209, l209, k210, l210, k211, l211, k212, l212⟩ := id hM
  have hMo : isMo Z := ⟨m0, f3, f6, f7, k200, l200, k201, l201, k202, l202⟩
  obtain ⟨sT, ⟨sC, s4, s8, s9⟩, sN, sA, sK, sE, sL, sZ⟩ := id hs
  obtain ⟨oC, oW, oN, oA, oK, oE⟩ := id ho
  refine CM_intro ?_
  refine j_iload_n 1 dX6_slips_0 rfl (j_S1 dX6_slips_1 kX6_183 (c_mIsOffset ⟨fun _ _ _ _ => ?_, fun h => absurd rfl (h k (Nat.zero_le _) (by omega))⟩))
  refine j_if_ne (tgt := 9) dX6_slips_4 rfl (fun _ => (j_iload_n 2 dX6_slips_9 rfl (j_i2l dX6_slips_10 (j_lconst (v := 0) dX6_slips_11 rfl (j_ldc2 (v := 255) dX6_slips_12 (List.mem_of_getElem? (i := 820) (by decide +kernel)) (j_S3 dX6_slips_15 kX6_68 (c_inB 0 255 (by decide) rfl rfl ⟨fun _ _ _ _ => ?_, fun h => absurd rfl (h d (by omega) (by omega))⟩))))))) (fun h9 => absurd h9 (by decide))
  refine j_if_eq (tgt := 33) dX6_slips_18 rfl (fun h9 => absurd h9 (by decide)) (fun _ => (j_iload_n 3 dX6_slips_21 rfl (j_i2l dX6_slips_22 (j_lconst (v := 0) dX6_slips_23 rfl (j_ldc2 (v := 255) dX6_slips_24 (List.mem_of_getElem? (i := 820) (by decide +kernel)) (j_S3 dX6_slips_27 kX6_68 (c_inB 0 255 (by decide) rfl rfl ⟨fun j hj0 hj e => absurd e (hz j (by omega)), fun _ => ?_⟩)))))))
  refine j_if_ne (tgt := 36) dX6_slips_30 rfl (fun h9 => absurd (by decide) h9) (fun _ => (j_bipush (v := -2) dX6_slips_33 rfl (j_iret dX6_slips_35 ?_)))
  exact hp

