theorem q_ahead {g : GT} {Z : ZT} {I : IT} {L : LT} {Post : PT} {t : Nat → Nat} {n : Nat} {c : CT} {w : Nat} {ρ : RT} {A : Nat × Nat × (Nat → RT)} {K : (Nat → RT) × (Nat → Bool)} {E : (Nat → Int32) × (Nat → Nat) × (Nat → Nat) × Nat} {sd : Int64} {G : Int32} {k j : Nat} (hM : isM Z) (hs : MSt t n c w ρ A K E sd I L) (ho : OKs c w ρ A K E) (h9 : k ≤ 9) (hj : 3 ≤ j) (hj2 : j ≤ 12) (hp : ∀ I', MSt t n c w ρ A K E sd I' L → eqC I I' → Post (some (.int (tlF (giF c G k ρ) j))) Z I' L) : CM g 7 0 0 mX6_ahead [.ref 198, .int G, .int (nI k), .int (nI j)] Z I L Post := by
  obtain ⟨m0, f0, f3, f6, f7, f10, f11, f12, f15, f16, f17, f18, f19, f22, f24, k199, l199, k200, l200, k201, l201, k202, l202, k203, l203, k204, l204, k205, l205, k206, l206, k207, l207, k208, l208, k209, l209, k210, l210, k211, l211, k212, l212⟩ := id hM
  have hMo : isMo Z := ⟨m0, f3, f6, f7, k200, l200, k201, l201, k202, l202⟩
  obtain ⟨sT, ⟨sC, s4, s8, s9⟩, sN, sA, sK, sE, sL, sZ⟩ := id hs
  obtain ⟨oC, oW, oN, oA, oK, oE⟩ := id ho
  refine CM_intro ?_
  have loop : ∀ (m i : Nat), i + m = k → JW g mX6_ahead (rmO 7 0 0) (QM Post 0 0) 43 [(4, .int (nI i)), (0, .ref 198), (1, .int G), (2, .int (nI k)), (3, .int (nI j))] [] 0 0 Z (upR I 204 (giF c G i ρ)) L := by
    intro m
    induction m with
    | zero =>
      intro i hi
      have : i = k := by omega
      subst this
      refine j_iload 0 dX6_ahead_43 rfl (j_iload_n 3 dX6_ahead_45 rfl (j_icmp_ge (tgt := 65) dX6_ahead_46 rfl (fun g1 => ?_) (fun g1 => ?_)))
      · refine j_aload_n 1 dX6_ahead_65 rfl (j_aload_n 1 dX6_ahead_66 rfl (j_getR (b := 204) dX6_ahead_67 fX6_25 rfl (by first | assumption | rfl) (by first | assumption | rfl) (j_iload_n 4 dX6_ahead_70 rfl (j_V2 dX6_ahead_71 kX6_179 (by first | assumption | rfl) (c_mTell k204 l204 (upR_s _ _ _) hj hj2 ?_)))))
        refine j_iret dX6_ahead_74 ?_
        exact hp _ (hs.tri (OKz.gi oC G oN i).2) (eqC.up I (by decide) _)
      · exact absurd (nI_le (Nat.le_refl _) (by omega)) g1
    | succ m ih =>
      intro i hi
      refine j_iload 0 dX6_ahead_43 rfl (j_iload_n 3 dX6_ahead_45 rfl (j_icmp_ge (tgt := 65) dX6_ahead_46 rfl (fun g1 => ?_) (fun g1 => ?_)))
      · exact absurd g1 (nI_ge (by omega) (by omega))
      · refine j_aload_n 1 dX6_ahead_49 rfl (j_aload_n 1 dX6_ahead_50 rfl (j_getR (b := 204) dX6_ahead_51 fX6_25 rfl (by first | assumption | rfl) (by first | assumption | rfl) (j_iload_n 2 dX6_ahead_54 rfl (j_iconst (v := 0) dX6_ahead_55 rfl (j_V3 dX6_ahead_56 kX6_206 (by first | assumption | rfl) (c_hearGroup (t := 0) hMo (sC.up (by decide) _) (by decide) k204 l204 (by rw [upR_s]; exact (OKz.gi oC G oN i).1) (by decide) ?_))))))
        rw [upR_R, upR_s]
        refine j_iinc (y := 1) (lv' := [(4, _), (0, _), (1, _), (2, _), (3, _)]) 0 dX6_ahead_59 rfl rfl rfl (j_goto (tgt := 43) dX6_ahead_62 rfl ?_)
        rw [nI_1]
        exact ih (i + 1) (by omega)
  refine j_iload_n 2 dX6_ahead_0 rfl (j_i2l dX6_ahead_1 (j_lconst (v := 0) dX6_ahead_2 rfl (j_ldc2 (v := 9) dX6_ahead_3 (List.mem_of_getElem? (i := 840) (by decide +kernel)) (j_S3 dX6_ahead_6 kX6_68 (c_inB 0 9 (by decide) rfl rfl ⟨fun _ _ _ _ => ?_, fun h => absurd rfl (h k (by omega) (by omega))⟩)))))
  refine j_if_eq (tgt := 26) dX6_ahead_9 rfl (fun h9 => absurd h9 (by decide)) (fun _ => (j_iload_n 3 dX6_ahead_12 rfl (j_i2l dX6_ahead_13 (j_ldc2 (v := 3) dX6_ahead_14 (List.mem_of_getElem? (i := 853) (by decide +kernel)) (j_ldc2 (v := 12) dX6_ahead_17 (List.mem_of_getElem? (i := 854) (by decide +kernel)) (j_S3 dX6_ahead_20 kX6_68 (c_inB 3 12 (by decide) rfl rfl ⟨fun _ _ _ _ => ?_, fun h => absurd rfl (h j (by omega) (by omega))⟩)))))))
  refine j_if_ne (tgt := 29) dX6_ahead_23 rfl (fun _ => (j_aload_n 0 dX6_ahead_29 rfl (j_getR (b := 203) dX6_ahead_30 fX6_22 rfl (by first | assumption | rfl) (by first | assumption | rfl) (j_aload_n 0 dX6_ahead_33 rfl (j_getR (b := 204) dX6_ahead_34 fX6_25 rfl (by first | assumption | rfl) (by first | assumption | rfl) (j_S2 dX6_ahead_37 kX6_212 (c_toTrial k203 l203 k204 l204 sN oN.2 sZ ?_))))))) (fun h9 => absurd h9 (by decide))
  refine j_iconst (v := 0) dX6_ahead_40 rfl (j_istore (lv' := [(4, _), (0, _), (1, _), (2, _), (3, _)]) dX6_ahead_41 rfl ?_)
  exact JW.locals [0, 1, 2, 3, 4] rfl (loop k 0 (by omega))

theorem q_ahead_b {g : GT} {Z : ZT} {I : IT} {L : LT} {Post : PT} {t : Nat → Nat} {n : Nat} {c : CT} {w : Nat} {ρ : RT} {A : Nat × Nat × (Nat → RT)} {K : (Nat → RT) × (Nat → Bool)} {E : (Nat → Int32) × (Nat → Nat) × (Nat → Nat) × Nat} {sd : Int64} {G x y : Int32} (hM : isM Z) (hs : MSt t n c w ρ A K E sd I L) (ho : OKs c w ρ A K E) (hx : ∀ k j, k ≤ 9 → 3 ≤ j → j ≤ 12 → x = nI k → y = nI j → False) (hp : Post (some (.int (-2))) Z I L) : CM g 7 0 0 mX6_ahead [.ref 198, .int G, .int x, .int y] Z I L Post := by
  obtain ⟨m0, f0, f3, f6, f7, f10, f11, f12, f15, f16, f17, f18, f19, f22, f24, k199, l199, k200, l200, k201, l201, k202, l202, k203, l203, k204, l204, k205, l205, k206, l206, k207, l207, k208, l208, k209, l209, k210, l210, k211, l211, k212, l212⟩ := id hM
  have hMo : isMo Z := ⟨m0, f3, f6, f7, k200, l200, k201, l201, k202, l202⟩
  obtain ⟨sT, ⟨sC, s4, s8, s9⟩, sN, sA, sK, sE, sL, sZ⟩ := id hs
  obtain ⟨oC, oW, oN, oA, oK, oE⟩ := id ho
  refine CM_intro ?_
  refine j_iload_n 2 dX6_ahead_0 rfl (j_i2l dX6_ahead_1 (j_lconst (v := 0) dX6_ahead_2 rfl (j_ldc2 (v := 9) dX6_ahead_3 (List.mem_of_getElem? (i := 840) (by decide +kernel)) (j_S3 dX6_ahead_6 kX6_68 (c_inB 0 9 (by decide) rfl rfl ⟨fun k _ hk ek => ?_, fun _ => ?_⟩)))))
  · refine j_if_eq (tgt := 26) dX6_ahead_9 rfl (fun h9 => absurd h9 (by decide)) (fun _ => (j_iload_n 3 dX6_ahead_12 rfl (j_i2l dX6_ahead_13 (j_ldc2 (v := 3) dX6_ahead_14 (List.mem_of_getElem? (i := 853) (by decide +kernel)) (j_ldc2 (v := 12) dX6_ahead_17 (List.mem_of_getElem? (i := 854) (by decide +kernel)) (j_S3 dX6_ahead_20 kX6_68 (c_inB 3 12 (by decide) rfl rfl ⟨fun v h3 hv ev => (hx k v hk h3 hv ek ev).elim, fun _ => ?_⟩)))))))
    refine j_if_ne (tgt := 29) dX6_ahead_23 rfl (fun h9 => absurd (by decide) h9) (fun _ => (j_bipush (v := -2) dX6_ahead_26 rfl (j_iret dX6_ahead_28 ?_)))
    exact hp
  · refine j_if_eq (tgt := 26) dX6_ahead_9 rfl (fun _ => (j_bipush (v := -2) dX6_ahead_26 rfl (j_iret dX6_ahead_28 ?_))) (fun h9 => absurd (by decide) h9)
    exact hp

theorem q_needs {g : GT} {Z : ZT} {I : IT} {L : LT} {Post : PT} {t : Nat → Nat} {n : Nat} {c : CT} {w : Nat} {ρ : RT} {A : Nat × Nat × (Nat → RT)} {K : (Nat → RT) × (Nat → Bool)} {E : (Nat → Int32) × (Nat → Nat) × (Nat → Nat) × Nat} {sd : Int64} {G : Int32} (hM : isM Z) (hs : MSt t n c w ρ A K E sd I L) (ho : OKs c w ρ A K E)  (hp : ∀ I', MSt t n c w ρ A K E sd I' L → eqC I I' → Post (some (.int (ndI c G ρ))) Z I' L) : CM g 7 0 0 mX6_needs [.ref 198, .int G] Z I L Post := by
  obtain ⟨m0, f0, f3, f6, f7, f10, f11, f12, f15, f16, f17, f18, f19, f22, f24, k199, l199, k200, l200, k201, l201, k202, l202, k203, l203, k204, l204, k205, l205, k206, l206, k207, l207, k208, l208, k209, l209, k210, l210, k211, l211, k212, l212⟩ := id hM
  have hMo : isMo Z := ⟨m0, f3, f6, f7, k200, l200, k201, l201, k202, l202⟩
  obtain ⟨sT, ⟨sC, s4, s8, s9⟩, sN, sA, sK, sE, sL, sZ⟩ := id hs
  obtain ⟨oC, oW, oN, oA, oK, oE⟩ := id ho
  refine CM_intro ?_
  have hpp : ∀ i, Post (some (.int (ndI c G ρ))) Z (upR I 204 (giF c G i ρ)) L := fun i => hp _ (hs.tri (OKz.gi oC G oN i).2) (eqC.up I (by decide) _)
  unfold ndI at hpp
  have loop : ∀ (m i : Nat), i + m = 10 → fIx (fun n => decide (giF c G n ρ 3 = 1)) m i = fIx (fun n => decide (giF c G n ρ 3 = 1)) 10 0 → JW g mX6_needs (rmO 7 0 0) (QM Post 0 0) 13 [(2, .int (nI i)), (0, .ref 198), (1, .int G)] [] 0 0 Z (upR I 204 (giF c G i ρ)) L := by
    intro m
    induction m with
    | zero =>
      intro i hi hq
      have : i = 10 := by omega
      subst this
      refine j_iload_n 0 dX6_needs_13 rfl (j_bipush (v := 10) dX6_needs_14 rfl (j_icmp_ge (tgt := 47) dX6_needs_16 rfl (fun g1 => ?_) (fun g1 => ?_)))
      · refine j_bipush (v := -9) dX6_needs_47 rfl (j_iret dX6_needs_49 ?_)
        have := hpp 10
        rw [← hq, if_neg (show ¬ fIx (fun n => decide (giF c G n ρ 3 = 1)) 0 10 < 10 from Nat.lt_irrefl _)] at this
        exact this
      · exact absurd (by decide) g1
    | succ m ih =>
      intro i hi hq
      refine j_iload_n 0 dX6_needs_13 rfl (j_bipush (v := 10) dX6_needs_14 rfl (j_icmp_ge (tgt := 47) dX6_needs_16 rfl (fun g1 => ?_) (fun g1 => ?_)))
      · exact absurd g1 (nI_ge (b := 10) (by omega) (by decide))
      · refine j_aload_n 1 dX6_needs_19 rfl (j_getR (b := 204) dX6_needs_20 fX6_25 rfl (by first | assumption | rfl) (by first | assumption | rfl) (j_iconst (v := 3) dX6_needs_23 rfl (j_iaload 3 dX6_needs_24 (by first | assumption | rfl) (by first | assumption | rfl) (by omega) (j_iconst (v := 1) dX6_needs_25 rfl (j_icmp_ne (tgt := 31) dX6_needs_26 rfl (fun g2 => ?_) (fun g2 => ?_))))))
        · rw [upR_s] at g2
          refine j_aload_n 1 dX6_needs_31 rfl (j_aload_n 1 dX6_needs_32 rfl (j_getR (b := 204) dX6_needs_33 fX6_25 rfl (by first | assumption | rfl) (by first | assumption | rfl) (j_iload_n 2 dX6_needs_36 rfl (j_iconst (v := 0) dX6_needs_37 rfl (j_V3 dX6_needs_38 kX6_206 (by first | assumption | rfl) (c_hearGroup (t := 0) hMo (sC.up (by decide) _) (by decide) k204 l204 (by rw [upR_s]; exact (OKz.gi oC G oN i).1) (by decide) ?_))))))
          rw [upR_R, upR_s]
          refine j_iinc (y := 1) (lv' := [(2, _), (0, _), (1, _)]) 0 dX6_needs_41 rfl rfl rfl (j_goto (tgt := 13) dX6_needs_44 rfl ?_)
          rw [nI_1]
          refine ih (i + 1) (by omega) ?_
          rw [← hq]
          show _ = if decide (giF c G i ρ 3 = 1) = true then i else _
          rw [if_neg (by rw [decide_eq_false g2]; decide)]
        · rw [upR_s] at g2
          refine j_iload_n 0 dX6_needs_29 rfl (j_iret dX6_needs_30 ?_)
          have := hpp i
          have e : fIx (fun n => decide (giF c G n ρ 3 = 1)) (m + 1) i = i := by
            show (if decide (giF c G i ρ 3 = 1) = true then i else _) = i
            rw [if_pos (decide_eq_true g2)]
          rw [← hq, e, if_pos (by omega)] at this
          exact this
  refine j_aload_n 0 dX6_needs_0 rfl (j_getR (b := 203) dX6_needs_1 fX6_22 rfl (by first | assumption | rfl) (by first | assumption | rfl) (j_aload_n 0 dX6_needs_4 rfl (j_getR (b := 204) dX6_needs_5 fX6_25 rfl (by first | assumption | rfl) (by first | assumption | rfl) (j_S2 dX6_needs_8 kX6_212 (c_toTrial k203 l203 k204 l204 sN oN.2 sZ ?_)))))
  refine j_iconst (v := 0) dX6_needs_11 rfl (j_istore_n (lv' := [(2, _), (0, _), (1, _)]) dX6_needs_12 rfl ?_)
  exact JW.locals [0, 1, 2] rfl (loop 10 0 rfl rfl)

theorem jdR_1 {c : CT} {σ : RT} {a t : Nat} (ha : a < 4) (ht : t < 256) : jdR c σ 1 a t = hsF c 14 σ (wdN c a t) := by unfold jdR; rw [if_pos ⟨rfl, ha, ht⟩]
theorem jdR_2 {c : CT} {σ : RT} : jdR c σ 2 0 0 = rsF σ := by unfold jdR; rw [if_neg (fun h => absurd h.1 (by decide)), if_pos ⟨rfl, rfl, rfl⟩]
theorem jdR_n {c : CT} {σ : RT} {h a t : Nat} (h1 : ¬ (h = 1 ∧ a < 4 ∧ t < 256)) (h2 : ¬ (h = 2 ∧ a = 0 ∧ t = 0)) : jdR c σ h a t = σ := by unfold jdR; rw [if_neg h1, if_neg h2]
theorem c_judged {g : GT} {Z : ZT} {I : IT} {L : LT} {Post : PT} {c : CT} {σ : RT} {h a t : Nat} (hM : isM Z) (sC : MC I c) (oC : okC c) (hI : I 204 = σ) (oN : OKz c σ) (hh : h ≤ 9) (ha : a ≤ 9) (ht : t ≤ 999) (hp : Post (some (.int (if jdB σ h a t = true then 1 else 0))) Z (upR I 204 (jdR c σ h a t)) L) : CM g 6 0 0 mX6_judged [.ref 198, .int (nI h), .int (nI a), .int (nI t)] Z I L Post := by
  obtain ⟨m0, f0, f3, f6, f7, f10, f11, f12, f15, f16, f17, f18, f19, f22, f24, k199, l199, k200, l200, k201, l201, k202, l202, k203, l203, k204, l204, k205, l205, k206, l206, k207, l207, k208, l208, k209, l209, k210, l210, k211, l211, k212, l212⟩ := id hM
  have hMo : isMo Z := ⟨m0, f3, f6, f7, k200, l200, k201, l201, k202, l202⟩
  have fs : upR I 204 σ = I := by rw [← hI]; exact fa_self I 204
  refine CM_intro ?_
  refine j_iload_n 1 dX6_judged_0 rfl ?_
  have h10 : h = 1 ∨ h = 2 ∨ h = 3 ∨ h = 4 ∨ h = 5 ∨ h = 6 ∨ h = 0 ∨ h = 7 ∨ h = 8 ∨ h = 9 := by omega
  rcases h10 with e | e | e | e | e | e | e | e | e | e <;> subst e
  · have hp : Post (some (.int (if decide (a < 4 ∧ t < 256) = true then 1 else 0))) Z (upR I 204 (jdR c σ 1 a t)) L := hp
    refine j_tsIn (tgt := 40) dX6_judged_1 (by decide) (by decide) rfl rfl ?_
    by_cases ha4 : a < 4
    · refine j_iload_n 2 dX6_judged_40 rfl (j_S1 dX6_judged_41 kX6_183 (c_mIsOffset ⟨fun _ _ _ _ => ?_, fun h => absurd rfl (h a (Nat.zero_le _) (by omega))⟩))
      refine j_if_eq (tgt := 54) dX6_judged_44 rfl (fun h9 => absurd h9 (by decide)) (fun _ => (j_iload_n 3 dX6_judged_47 rfl (j_sipush (v := 255) dX6_judged_48 rfl (j_icmp_le (tgt := 56) dX6_judged_51 rfl (fun g1 => ?_) (fun g1 => ?_)))))
      · have ht2 : t < 256 := Nat.lt_succ_of_le ((nI_leI (b := 255) (by omega) (by decide)).mp g1)
        rw [decide_eq_true ⟨ha4, ht2⟩, jdR_1 ha4 ht2] at hp
        have hw := wdN_lt oC.2.2.1 (oC.2.2.2.1 a ha4) ht2
        refine j_aload_n 0 dX6_judged_56 rfl (j_aload_n 0 dX6_judged_57 rfl (j_getR (b := 204) dX6_judged_58 fX6_25 rfl (by first | assumption | rfl) (by first | assumption | rfl) (j_bipush (v := 14) dX6_judged_61 rfl (j_aload_n 0 dX6_judged_63 rfl (j_iload_n 2 dX6_judged_64 rfl (j_iload_n 3 dX6_judged_65 rfl (j_V2 dX6_judged_66 kX6_168 (by first | assumption | rfl) (c_mWord hMo sC ha4 ht2 ?_))))))))
        refine j_V3 dX6_judged_69 kX6_171 (by first | assumption | rfl) (c_mHearBits (n := 14) hMo sC (by decide) k204 l204 (by rw [hI]; exact oN.1) (by decide) (by omega) ?_)
        refine j_iconst (v := 1) dX6_judged_72 rfl (j_zret dX6_judged_73 (by decide) ?_)
        rw [hI]
        exact hp
      · have ht2 : ¬ t < 256 := fun z => g1 (nI_le (b := 255) (by omega) (by decide))
        rw [decide_eq_false (fun z => ht2 z.2), jdR_n (fun z => ht2 z.2.2) (fun z => absurd z.1 (by decide)), fs] at hp
        refine j_iconst (v := 0) dX6_judged_54 rfl (j_zret dX6_judged_55 (by decide) ?_)
        exact hp
    · rw [decide_eq_false (fun z => ha4 z.1), jdR_n (fun z => ha4 z.2.1) (fun z => absurd z.1 (by decide)), fs] at hp
      refine j_iload_n 2 dX6_judged_40 rfl (j_S1 dX6_judged_41 kX6_183 (c_mIsOffset ⟨fun j _ hj e => absurd (nI_inj (by omega) (by omega) e) (by omega), fun _ => ?_⟩))
      refine j_if_eq (tgt := 54) dX6_judged_44 rfl (fun _ => (j_iconst (v := 0) dX6_judged_54 rfl (j_zret dX6_judged_55 (by decide) ?_))) (fun h9 => absurd (by decide) h9)
      exact hp
  · have hp : Post (some (.int (if decide (a = 0 ∧ t = 0) = true then 1 else 0))) Z (upR I 204 (jdR c σ 2 a t)) L := hp
    refine j_tsIn (tgt := 74) dX6_judged_1 (by decide) (by decide) rfl rfl ?_
    by_cases ha0 : a = 0
    · subst ha0
      by_cases ht0 : t = 0
      · subst ht0
        rw [decide_eq_true ⟨rfl, rfl⟩, jdR_2] at hp
        refine j_iload_n 2 dX6_judged_74 rfl (j_if_ne (tgt := 89) dX6_judged_75 rfl (fun h9 => absurd (by decide) h9) (fun _ => (j_iload_n 3 dX6_judged_78 rfl (j_if_ne (tgt := 89) dX6_judged_79 rfl (fun h9 => absurd (by decide) h9) (fun _ => (j_aload_n 0 dX6_judged_82 rfl (j_getR (b := 204) dX6_judged_83 fX6_25 rfl (by first | assumption | rfl) (by first | assumption | rfl) (j_S1 dX6_judged_86 kX6_209 (c_resetOn k204 l204 ?_)))))))))
        refine j_iload_n 2 dX6_judged_89 rfl (j_if_ne (tgt := 101) dX6_judged_90 rfl (fun h9 => absurd (by decide) h9) (fun _ => (j_iload_n 3 dX6_judged_93 rfl (j_if_ne (tgt := 101) dX6_judged_94 rfl (fun h9 => absurd (by decide) h9) (fun _ => (j_iconst (v := 1) dX6_judged_97 rfl (j_goto (tgt := 102) dX6_judged_98 rfl (j_zret dX6_judged_102 (by decide) ?_))))))))
        rw [hI]
        exact hp
      · rw [decide_eq_false (fun z => ht0 z.2), jdR_n (fun z => absurd z.1 (by decide)) (fun z => ht0 z.2.2), fs] at hp
        have hn0 : ¬ nI t = 0 := nI_ne0 (by omega) (by omega)
        refine j_iload_n 2 dX6_judged_74 rfl (j_if_ne (tgt := 89) dX6_judged_75 rfl (fun h9 => absurd (by decide) h9) (fun _ => (j_iload_n 3 dX6_judged_78 rfl (j_if_ne (tgt := 89) dX6_judged_79 rfl (fun g1 => ?_) (fun g1 => ?_)))))
        · refine j_iload_n 2 dX6_judged_89 rfl (j_if_ne (tgt := 101) dX6_judged_90 rfl (fun h9 => absurd (by decide) h9) (fun _ => (j_iload_n 3 dX6_judged_93 rfl (j_if_ne (tgt := 101) dX6_judged_94 rfl (fun g2 => ?_) (fun g2 => ?_)))))
          · refine j_iconst (v := 0) dX6_judged_101 rfl (j_zret dX6_judged_102 (by decide) ?_)
            exact hp
          · exact absurd g2 hn0
        · exact absurd g1 hn0
    · rw [decide_eq_false (fun z => ha0 z.1), jdR_n (fun z => absurd z.1 (by decide)) (fun z => ha0 z.2.1), fs] at hp
      have hn0 : ¬ nI a = 0 := nI_ne0 (by omega) (by omega)
      refine j_iload_n 2 dX6_judged_74 rfl (j_if_ne (tgt := 89) dX6_judged_75 rfl (fun g1 => ?_) (fun g1 => ?_))
      · refine j_iload_n 2 dX6_judged_89 rfl (j_if_ne (tgt := 101) dX6_judged_90 rfl (fun g2 => ?_) (fun g2 => ?_))
        · refine j_iconst (v := 0) dX6_judged_101 rfl (j_zret dX6_judged_102 (by decide) ?_)
          exact hp
        · exact absurd g2 hn0
      · exact absurd g1 hn0
  · have hp : Post (some (.int (if decide (t = 0 ∧ nI a = σ 3) = true then 1 else 0))) Z (upR I 204 (jdR c σ 3 a t)) L := hp
    rw [jdR_n (fun z => absurd z.1 (by decide)) (fun z => absurd z.1 (by decide)), fs] at hp
    refine j_tsIn (tgt := 103) dX6_judged_1 (by decide) (by decide) rfl rfl ?_
    refine j_iload_n 3 dX6_judged_103 rfl (j_if_ne (tgt := 126) dX6_judged_104 rfl (fun g1 => ?_) (fun g1 => ?_))
    · rw [decide_eq_false (fun z => g1 (by rw [z.1]; rfl))] at hp
      refine j_iconst (v := 0) dX6_judged_126 rfl (j_zret dX6_judged_127 (by decide) ?_)
      exact hp
    · have ht0 : t = 0 := nI_inj (b := 0) (by omega) (by decide) g1
      refine j_iload_n 2 dX6_judged_107 rfl (j_iconst (v := 2) dX6_judged_108 rfl (j_icmp_ge (tgt := 126) dX6_judged_109 rfl (fun g2 => ?_) (fun g2 => ?_)))
      · have ha2 : ¬ a < 2 := fun z => absurd g2 (nI_ge (b := 2) z (by decide))
        rw [decide_eq_false (fun z => by
          rcases oN.1.2.1 with s | s
          · rw [s] at z
            exact ha2 (by rw [nI_inj (b := 0) (by omega) (by decide) z.2]; decide)
          · rw [s] at z
            exact ha2 (by rw [nI_inj (b := 1) (by omega) (by decide) z.2]; decide))] at hp
        refine j_iconst (v := 0) dX6_judged_126 rfl (j_zret dX6_judged_127 (by decide) ?_)
        exact hp
      · refine j_aload_n 0 dX6_judged_112 rfl (j_getR (b := 204) dX6_judged_113 fX6_25 rfl (by first | assumption | rfl) (by first | assumption | rfl) (j_iconst (v := 3) dX6_judged_116 rfl (j_iaload 3 dX6_judged_117 (by first | assumption | rfl) (by first | assumption | rfl) (by omega) (j_iload_n 2 dX6_judged_118 rfl (j_icmp_ne (tgt := 126) dX6_judged_119 rfl (fun g3 => ?_) (fun g3 => ?_))))))
        · rw [hI] at g3
          rw [decide_eq_false (fun z => g3 z.2.symm)] at hp
          refine j_iconst (v := 0) dX6_judged_126 rfl (j_zret dX6_judged_127 (by decide) ?_)
          exact hp
        · rw [hI] at g3
          rw [decide_eq_true ⟨ht0, g3.symm⟩] at hp
          refine j_iconst (v := 1) dX6_judged_122 rfl (j_goto (tgt := 127) dX6_judged_123 rfl (j_zret dX6_judged_127 (by decide) ?_))
          exact hp
  · have hp : Post (some (.int (if decide (a < 4 ∧ nI t = if σ (22 + a) = -9 then 0 else 100) = true then 1 else 0))) Z (upR I 204 (jdR c σ 4 a t)) L := hp
    rw [jdR_n (fun z => absurd z.1 (by decide)) (fun z => absurd z.1 (by decide)), fs] at hp
    refine j_tsIn (tgt := 128) dX6_judged_1 (by decide) (by decide) rfl rfl ?_
    have no : (¬ (a < 4 ∧ nI t = if σ (22 + a) = -9 then 0 else 100)) → JW g mX6_judged (rmO 6 0 0) (QM Post 0 0) 186 [(0, .ref 198), (1, .int (nI 4)), (2, .int (nI a)), (3, .int (nI t))] [] 0 0 Z I L := by
      intro z
      rw [decide_eq_false z] at hp
      refine j_iconst (v := 0) dX6_judged_186 rfl (j_zret dX6_judged_187 (by decide) ?_)
      exact hp
    by_cases ha4 : a < 4
    · refine j_iload_n 2 dX6_judged_128 rfl (j_S1 dX6_judged_129 kX6_183 (c_mIsOffset ⟨fun _ _ _ _ => ?_, fun h => absurd rfl (h a (Nat.zero_le _) (by omega))⟩))
      refine j_if_eq (tgt := 186) dX6_judged_132 rfl (fun h9 => absurd h9 (by decide)) (fun _ => (j_iload_n 3 dX6_judged_135 rfl (j_bipush (v := 100) dX6_judged_136 rfl (j_irem dX6_judged_138 (by decide) ?_))))
      rw [show (100 : Int32) = nI 100 from rfl, remI (by omega) (by decide) (by decide)]
      refine j_if_ne (tgt := 186) dX6_judged_139 rfl (fun g1 => ?_) (fun g1 => ?_)
      · refine no (fun z => g1 ?_)
        have : t = 0 ∨ t = 100 := by
          have z2 := z.2
          split at z2
          · exact Or.inl (nI_inj (b := 0) (by omega) (by decide) z2)
          · exact Or.inr (nI_inj (b := 100) (by omega) (by decide) z2)
        rcases this with e | e <;> subst e <;> rfl
      · have hm : t % 100 = 0 := nI_inj (b := 0) (by omega) (by decide) g1
        refine j_iload_n 3 dX6_judged_142 rfl (j_sipush (v := 200) dX6_judged_143 rfl (j_icmp_ge (tgt := 186) dX6_judged_146 rfl (fun g2 => ?_) (fun g2 => ?_)))
        · refine no (fun z => ?_)
          have t2 : ¬ t < 200 := fun q => absurd g2 (nI_ge (b := 200) q (by decide))
          have z2 := z.2
          split at z2
          · have := nI_inj (b := 0) (by omega) (by decide) z2
            omega
          · have := nI_inj (b := 100) (by omega) (by decide) z2
            omega
        · have t2 : t < 200 := Nat.lt_of_not_le (fun q => g2 (nI_le (a := 200) q (by omega)))
          have t3 : t = 0 ∨ t = 100 := by omega
          refine j_aload_n 0 dX6_judged_149 rfl (j_getR (b := 204) dX6_judged_150 fX6_25 rfl (by first | assumption | rfl) (by first | assumption | rfl) (j_bipush (v := 22) dX6_judged_153 rfl (j_iload_n 2 dX6_judged_155 rfl (j_iadd dX6_judged_156 (j_iaload (22 + a) dX6_judged_157 (nI_add 22 a) (by first | assumption | rfl) (by omega) (j_bipush (v := -9) dX6_judged_158 rfl (j_icmp_eq (tgt := 167) dX6_judged_160 rfl (fun g3 => ?_) (fun g3 => ?_))))))))
          · rw [hI] at g3
            rw [if_pos g3] at hp no
            rcases t3 with e | e <;> subst e
            · refine j_iconst (v := 0) dX6_judged_167 rfl (j_iload_n 3 dX6_judged_168 rfl (j_bipush (v := 100) dX6_judged_169 rfl (j_icmp_ne (tgt := 178) dX6_judged_171 rfl (fun _ => (j_iconst (v := 0) dX6_judged_178 rfl (j_icmp_ne (tgt := 186) dX6_judged_179 rfl (fun h9 => absurd (by decide) h9) (fun _ => (j_iconst (v := 1) dX6_judged_182 rfl (j_goto (tgt := 187) dX6_judged_183 rfl (j_zret dX6_judged_187 (by decide) ?_))))))) (fun h9 => absurd h9 (by decide)))))
              rw [decide_eq_true ⟨ha4, rfl⟩] at hp
              exact hp
            · refine j_iconst (v := 0) dX6_judged_167 rfl (j_iload_n 3 dX6_judged_168 rfl (j_bipush (v := 100) dX6_judged_169 rfl (j_icmp_ne (tgt := 178) dX6_judged_171 rfl (fun h9 => absurd (by decide) h9) (fun _ => (j_iconst (v := 1) dX6_judged_174 rfl (j_goto (tgt := 179) dX6_judged_175 rfl (j_icmp_ne (tgt := 186) dX6_judged_179 rfl (fun _ => ?_) (fun h9 => absurd h9 (by decide)))))))))
              exact no (fun z => absurd z.2 (by decide))
          · rw [hI] at g3
            rw [if_neg g3] at hp no
            rcases t3 with e | e <;> subst e
            · refine j_iconst (v := 1) dX6_judged_163 rfl (j_goto (tgt := 168) dX6_judged_164 rfl (j_iload_n 3 dX6_judged_168 rfl (j_bipush (v := 100) dX6_judged_169 rfl (j_icmp_ne (tgt := 178) dX6_judged_171 rfl (fun _ => (j_iconst (v := 0) dX6_judged_178 rfl (j_icmp_ne (tgt := 186) dX6_judged_179 rfl (fun _ => ?_) (fun h9 => absurd h9 (by decide))))) (fun h9 => absurd h9 (by decide))))))
              exact no (fun z => absurd z.2 (by decide))
            · refine j_iconst (v := 1) dX6_judged_163 rfl (j_goto (tgt := 168) dX6_judged_164 rfl (j_iload_n 3 dX6_judged_168 rfl (j_bipush (v := 100) dX6_judged_169 rfl (j_icmp_ne (tgt := 178) dX6_judged_171 rfl (fun h9 => absurd (by decide) h9) (fun _ => (j_iconst (v := 1) dX6_judged_174 rfl (j_goto (tgt := 179) dX6_judged_175 rfl (j_icmp_ne (tgt := 186) dX6_judged_179 rfl (fun h9 => absurd (by decide) h9) (fun _ => (j_iconst (v := 1) dX6_judged_182 rfl (j_goto (tgt := 187) dX6_judged_183 rfl (j_zret dX6_judged_187 (by decide) ?_))))))))))))
              rw [decide_eq_true ⟨ha4, rfl⟩] at hp
              exact hp
    · refine j_iload_n 2 dX6_judged_128 rfl (j_S1 dX6_judged_129 kX6_183 (c_mIsOffset ⟨fun j _ hj e => absurd (nI_inj (by omega) (by omega) e) (by omega), fun _ => ?_⟩))
      refine j_if_eq (tgt := 186) dX6_judged_132 rfl (fun _ => ?_) (fun h9 => absurd (by decide) h9)
      exact no (fun z => ha4 z.1)
  · have hp : Post (some (.int (if decide (a < 4 ∧ σ (18 + a) = nI t) = true then 1 else 0))) Z (upR I 204 (jdR c σ 5 a t)) L := hp
    rw [jdR_n (fun z => absurd z.1 (by decide)) (fun z => absurd z.1 (by decide)), fs] at hp
    refine j_tsIn (tgt := 188) dX6_judged_1 (by decide) (by decide) rfl rfl ?_
    by_cases ha4 : a < 4
    · refine j_iload_n 2 dX6_judged_188 rfl (j_S1 dX6_judged_189 kX6_183 (c_mIsOffset ⟨fun _ _ _ _ => ?_, fun h => absurd rfl (h a (Nat.zero_le _) (by omega))⟩))
      refine j_if_eq (tgt := 212) dX6_judged_192 rfl (fun h9 => absurd h9 (by decide)) (fun _ => (j_aload_n 0 dX6_judged_195 rfl (j_getR (b := 204) dX6_judged_196 fX6_25 rfl (by first | assumption | rfl) (by first | assumption | rfl) (j_bipush (v := 18) dX6_judged_199 rfl (j_iload_n 2 dX6_judged_201 rfl (j_iadd dX6_judged_202 (j_iaload (18 + a) dX6_judged_203 (nI_add 18 a) (by first | assumption | rfl) (by omega) (j_iload_n 3 dX6_judged_204 rfl (j_icmp_ne (tgt := 212) dX6_judged_205 rfl (fun g1 => ?_) (fun g1 => ?_))))))))))
      · rw [hI] at g1
        rw [decide_eq_false (fun z => g1 z.2)] at hp
        refine j_iconst (v := 0) dX6_judged_212 rfl (j_zret dX6_judged_213 (by decide) ?_)
        exact hp
      · rw [hI] at g1
        rw [decide_eq_true ⟨ha4, g1⟩] at hp
        refine j_iconst (v := 1) dX6_judged_208 rfl (j_goto (tgt := 213) dX6_judged_209 rfl (j_zret dX6_judged_213 (by decide) ?_))
        exact hp
    · rw [decide_eq_false (fun z => ha4 z.1)] at hp
      refine j_iload_n 2 dX6_judged_188 rfl (j_S1 dX6_judged_189 kX6_183 (c_mIsOffset ⟨fun j _ hj e => absurd (nI_inj (by omega) (by omega) e) (by omega), fun _ => ?_⟩))
      refine j_if_eq (tgt := 212) dX6_judged_192 rfl (fun _ => (j_iconst (v := 0) dX6_judged_212 rfl (j_zret dX6_judged_213 (by decide) ?_))) (fun h9 => absurd (by decide) h9)
      exact hp
  · have hp : Post (some (.int (if decide (a = 0 ∧ σ 14 = nI t) = true then 1 else 0))) Z (upR I 204 (jdR c σ 6 a t)) L := hp
    rw [jdR_n (fun z => absurd z.1 (by decide)) (fun z => absurd z.1 (by decide)), fs] at hp
    refine j_tsIn (tgt := 214) dX6_judged_1 (by decide) (by decide) rfl rfl ?_
    refine j_iload_n 2 dX6_judged_214 rfl (j_if_ne (tgt := 233) dX6_judged_215 rfl (fun g1 => ?_) (fun g1 => ?_))
    · rw [decide_eq_false (fun z => g1 (by rw [z.1]; rfl))] at hp
      refine j_iconst (v := 0) dX6_judged_233 rfl (j_zret dX6_judged_234 (by decide) ?_)
      exact hp
    · have ha0 : a = 0 := nI_inj (b := 0) (by omega) (by decide) g1
      refine j_aload_n 0 dX6_judged_218 rfl (j_getR (b := 204) dX6_judged_219 fX6_25 rfl (by first | assumption | rfl) (by first | assumption | rfl) (j_bipush (v := 14) dX6_judged_222 rfl (j_iaload 14 dX6_judged_224 (by first | assumption | rfl) (by first | assumption | rfl) (by omega) (j_iload_n 3 dX6_judged_225 rfl (j_icmp_ne (tgt := 233) dX6_judged_226 rfl (fun g2 => ?_) (fun g2 => ?_))))))
      · rw [hI] at g2
        rw [decide_eq_false (fun z => g2 z.2)] at hp
        refine j_iconst (v := 0) dX6_judged_233 rfl (j_zret dX6_judged_234 (by decide) ?_)
        exact hp
      · rw [hI] at g2
        rw [decide_eq_true ⟨ha0, g2⟩] at hp
        refine j_iconst (v := 1) dX6_judged_229 rfl (j_goto (tgt := 234) dX6_judged_230 rfl (j_zret dX6_judged_234 (by decide) ?_))
        exact hp
  all_goals
    rw [jdR_n (fun z => absurd z.1 (by decide)) (fun z => absurd z.1 (by decide)), fs] at hp
    have hp : Post (some (.int 0)) Z I L := hp
    refine j_tsOut (tgt := 235) dX6_judged_1 (by decide) rfl ?_
    refine j_iconst (v := 0) dX6_judged_235 rfl (j_zret dX6_judged_236 (by decide) ?_)
    exact hp
theorem ht_lt {k : Nat} (h : k ≤ 3) : htN k ≤ 10 ^ 15 := by
  have : k = 0 ∨ k = 1 ∨ k = 2 ∨ k = 3 := by omega
  rcases this with r | r | r | r <;> subst r <;> decide
theorem ht_pos (k : Nat) : 0 < htN k := Nat.pow_pos (by decide)
theorem lN_nz {a : Nat} (h0 : 0 < a) (h : a < 2 ^ 63) : ¬ lN a = 0 := fun e => by
  have := congrArg Int64.toInt e
  rw [pf_lI h, show (0 : Int64).toInt = 0 from rfl] at this
  omega
theorem q_judge {g : GT} {Z : ZT} {I : IT} {L : LT} {Post : PT} {t : Nat → Nat} {n : Nat} {c : CT} {w : Nat} {ρ : RT} {A : Nat × Nat × (Nat → RT)} {K : (Nat → RT) × (Nat → Bool)} {E : (Nat → Int32) × (Nat → Nat) × (Nat → Nat) × Nat} {sd : Int64} {k R : Nat} (hM : isM Z) (hs : MSt t n c w ρ A K E sd I L) (ho : OKs c w ρ A K E) (h1 : 1 ≤ k) (h3 : k ≤ 3) (hR : R < htN k) (hp : ∀ I', MSt t n c w ρ A K E sd I' L → eqC I I' → Post (some (.int (jgI c R k ρ))) Z I' L) : CM g 7 0 0 mX6_judge [.ref 198, .int (nI k), .long (lN R)] Z I L Post := by
  obtain ⟨m0, f0, f3, f6, f7, f10, f11, f12, f15, f16, f17, f18, f19, f22, f24, k199, l199, k200, l200, k201, l201, k202, l202, k203, l203, k204, l204, k205, l205, k206, l206, k207, l207, k208, l208, k209, l209, k210, l210, k211, l211, k212, l212⟩ := id hM
  have hMo : isMo Z := ⟨m0, f3, f6, f7, k200, l200, k201, l201, k202, l202⟩
  obtain ⟨sT, ⟨sC, s4, s8, s9⟩, sN, sA, sK, sE, sL, sZ⟩ := id hs
  obtain ⟨oC, oW, oN, oA, oK, oE⟩ := id ho
  refine CM_intro ?_
  have hk15 := ht_lt h3
  have hkp := ht_pos k
  have hR3 : R < 10 ^ 15 := Nat.lt_of_lt_of_le hR hk15
  have hpp : ∀ i, Post (some (.int (jgI c R k ρ))) Z (upR I 204 (jgR c R k ρ i)) L := fun i => hp _ (hs.tri (oN.jg oC R k i).2) (eqC.up I (by decide) _)
  unfold jgI at hpp
  have loop : ∀ (m i : Nat), i + m = k → fIx (fun j => !jgB c R k ρ j) m i = fIx (fun j => !jgB c R k ρ j) k 0 → JW g mX6_judge (rmO 7 0 0) (QM Post 0 0) 43 [(4, .int (nI i)), (0, .ref 198), (1, .int (nI k)), (2, .long (lN R))] [] 0 0 Z (upR I 204 (jgR c R k ρ i)) L := by
    intro m
    induction m with
    | zero =>
      intro i hi hq
      have : i = k := by omega
      subst this
      refine j_iload 0 dX6_judge_43 rfl (j_iload_n 2 dX6_judge_45 rfl (j_icmp_ge (tgt := 104) dX6_judge_46 rfl (fun g1 => ?_) (fun g1 => ?_)))
      · refine j_bipush (v := -9) dX6_judge_104 rfl (j_iret dX6_judge_106 ?_)
        have := hpp i
        rw [← hq, if_neg (show ¬ fIx (fun j => !jgB c R i ρ j) 0 i < i from Nat.lt_irrefl _)] at this
        exact this
      · exact absurd (nI_le (Nat.le_refl _) (by omega)) g1
    | succ m ih =>
      intro i hi hq
      have hok := oN.jg oC R k i
      have hle : R / htN (k - 1 - i) ≤ R := Nat.div_le_self _ _
      have hq15 := ht_lt (show k - 1 - i ≤ 3 by omega)
      have hqp := ht_pos (k - 1 - i)
      refine j_iload 0 dX6_judge_43 rfl (j_iload_n 2 dX6_judge_45 rfl (j_icmp_ge (tgt := 104) dX6_judge_46 rfl (fun g1 => ?_) (fun g1 => ?_)))
      · exact absurd g1 (nI_ge (by omega) (by omega))
      · refine j_lload_n 3 dX6_judge_49 rfl (j_iload_n 2 dX6_judge_50 rfl (j_iconst (v := 1) dX6_judge_51 rfl (j_isub dX6_judge_52 (j_iload 0 dX6_judge_53 rfl (j_isub dX6_judge_55 ?_)))))
        rw [show nI k - (1 : Int32) = nI (k - 1) from pk_sub (b := 1) (by omega), pk_sub (by omega)]
        refine j_S1 dX6_judge_56 kX6_218 (c_hundredT (by omega) ?_)
        refine j_ldiv dX6_judge_59 (lN_nz hqp (by omega)) (j_ldc2 (v := 100000) dX6_judge_60 (List.mem_of_getElem? (i := 1022) (by decide +kernel)) (j_lrem dX6_judge_63 (by decide) (j_l2i dX6_judge_64 ?_)))
        rw [pk_lDiv (by omega) hqp (by omega), show lN (R / htN (k - 1 - i)) - lN (R / htN (k - 1 - i)) / 100000 * 100000 = lN (fvN R k i) from pk_lRem (b := 100000) (by omega) (by decide) (by decide), lN_i]
        have hfv : fvN R k i < 100000 := Nat.mod_lt _ (by decide)
        refine j_istore (lv' := [(5, _), (4, _), (0, _), (1, _), (2, _)]) dX6_judge_65 rfl (j_aload_n 2 dX6_judge_67 rfl (j_iload 0 dX6_judge_68 rfl (j_sipush (v := 10000) dX6_judge_70 rfl (j_idiv dX6_judge_73 (by decide) (j_iload 0 dX6_judge_74 rfl (j_sipush (v := 1000) dX6_judge_76 rfl (j_idiv dX6_judge_79 (by decide) (j_bipush (v := 10) dX6_judge_80 rfl (j_irem dX6_judge_82 (by decide) (j_iload 0 dX6_judge_83 rfl (j_sipush (v := 1000) dX6_judge_85 rfl (j_irem dX6_judge_88 (by decide) ?_))))))))))))
        rw [show (10000 : Int32) = nI 10000 from rfl, show (1000 : Int32) = nI 1000 from rfl, show (10 : Int32) = nI 10 from rfl, remI (a := fvN R k i) (d := 1000) (by omega) (by decide) (by decide), divI (b := fvN R k i) (d := 1000) (by omega) (by decide) (by decide), remI (a := fvN R k i / 1000) (d := 10) (by omega) (by decide) (by decide), divI (b := fvN R k i) (d := 10000) (by omega) (by decide) (by decide)]
        refine j_V3 dX6_judge_89 kX6_222 (by first | assumption | rfl) (c_judged hM (sC.up (by decide) _) oC (upR_s _ _ _) hok (by omega) (by omega) (by omega) ?_)
        rw [upR_R, show jdB (jgR c R k ρ i) (fvN R k i / 10000) (fvN R k i / 1000 % 10) (fvN R k i % 1000) = jgB c R k ρ i from rfl]
        have hst : fIx (fun j => !jgB c R k ρ j) (m + 1) i = if (!jgB c R k ρ i) = true then i else fIx (fun j => !jgB c R k ρ j) m (i + 1) := rfl
        by_cases hb : jgB c R k ρ i = true
        · rw [if_pos hb]
          refine j_if_ne (tgt := 98) dX6_judge_92 rfl (fun _ => (j_iinc (y := 1) (lv' := [(4, _), (5, _), (0, _), (1, _), (2, _)]) 1 dX6_judge_98 rfl rfl rfl (j_goto (tgt := 43) dX6_judge_101 rfl ?_))) (fun h9 => absurd h9 (by decide))
          rw [nI_1]
          refine JW.locals [0, 2, 3, 4] rfl (ih (i + 1) (by omega) ?_)
          rw [← hq, hst, hb]
          rfl
        · have hbf : jgB c R k ρ i = false := by simpa using hb
          rw [if_neg hb]
          refine j_if_ne (tgt := 98) dX6_judge_92 rfl (fun h9 => absurd (by decide) h9) (fun _ => (j_iload 1 dX6_judge_95 rfl (j_iret dX6_judge_97 ?_)))
          have := hpp (i + 1)
          rw [← hq, hst, hbf, if_pos (show (!false) = true from rfl), if_pos (by omega)] at this
          exact this
  refine j_iload_n 1 dX6_judge_0 rfl (j_i2l dX6_judge_1 (j_lconst (v := 1) dX6_judge_2 rfl (j_ldc2 (v := 3) dX6_judge_3 (List.mem_of_getElem? (i := 853) (by decide +kernel)) (j_S3 dX6_judge_6 kX6_68 (c_inB 1 3 (by decide) rfl rfl ⟨fun _ _ _ _ => ?_, fun h => absurd rfl (h k (by omega) (by omega))⟩)))))
  refine j_if_eq (tgt := 26) dX6_judge_9 rfl (fun h9 => absurd h9 (by decide)) (fun _ => (j_lload_n 2 dX6_judge_12 rfl (j_lconst (v := 0) dX6_judge_13 rfl (j_iload_n 1 dX6_judge_14 rfl (j_S1 dX6_judge_15 kX6_218 (c_hundredT (by omega) ?_))))))
  refine j_lconst (v := 1) dX6_judge_18 rfl (j_lsub dX6_judge_19 ?_)
  rw [show lN (htN k) - (1 : Int64) = lN (htN k - 1) from lN_sub (b := 1) (by omega)]
  refine j_S3 dX6_judge_20 kX6_68 (c_in (fun _ => ?_) (fun z => absurd ⟨by rw [i64_le, pf_lI (by omega)]; exact Int.natCast_nonneg _, by rw [i64_le, pf_lI (by omega), pf_lI (by omega)]; omega⟩ z))
  refine j_if_ne (tgt := 29) dX6_judge_23 rfl (fun _ => (j_aload_n 0 dX6_judge_29 rfl (j_getR (b := 203) dX6_judge_30 fX6_22 rfl (by first | assumption | rfl) (by first | assumption | rfl) (j_aload_n 0 dX6_judge_33 rfl (j_getR (b := 204) dX6_judge_34 fX6_25 rfl (by first | assumption | rfl) (by first | assumption | rfl) (j_S2 dX6_judge_37 kX6_212 (c_toTrial k203 l203 k204 l204 sN oN.2 sZ ?_))))))) (fun h9 => absurd h9 (by decide))
  refine j_iconst (v := 0) dX6_judge_40 rfl (j_istore (lv' := [(4, _), (0, _), (1, _), (2, _)]) dX6_judge_41 rfl ?_)
  exact JW.locals [0, 1, 2, 3] rfl (loop k 0 (by omega) rfl)

theorem q_judge_b {g : GT} {Z : ZT} {I : IT} {L : LT} {Post : PT} {t : Nat → Nat} {n : Nat} {c : CT} {w : Nat} {ρ : RT} {A : Nat × Nat × (Nat → RT)} {K : (Nat → RT) × (Nat → Bool)} {E : (Nat → Int32) × (Nat → Nat) × (Nat → Nat) × Nat} {sd : Int64} {x : Int32} {y : Int64} (hM : isM Z) (hs : MSt t n c w ρ A K E sd I L) (ho : OKs c w ρ A K E) (hx : ∀ k R, 1 ≤ k → k ≤ 3 → R < htN k → x = nI k → y = lN R → False) (hp : Post (some (.int (-2))) Z I L) : CM g 7 0 0 mX6_judge [.ref 198, .int x, .long y] Z I L Post := by
  obtain ⟨m0, f0, f3, f6, f7, f10, f11, f12, f15, f16, f17, f18, f19, f22, f24, k199, l199, k200, l200, k201, l201, k202, l202, k203, l203, k204, l204, k205, l205, k206, l206, k207, l207, k208, l208, k209, l209, k210, l210, k211, l211, k212, l212⟩ := id hM
  have hMo : isMo Z := ⟨m0, f3, f6, f7, k200, l200, k201, l201, k202, l202⟩
  obtain ⟨sT, ⟨sC, s4, s8, s9⟩, sN, sA, sK, sE, sL, sZ⟩ := id hs
  obtain ⟨oC, oW, oN, oA, oK, oE⟩ := id ho
  refine CM_intro ?_
  refine j_iload_n 1 dX6_judge_0 rfl (j_i2l dX6_judge_1 (j_lconst (v := 1) dX6_judge_2 rfl (j_ldc2 (v := 3) dX6_judge_3 (List.mem_of_getElem? (i := 853) (by decide +kernel)) (j_S3 dX6_judge_6 kX6_68 (c_inB 1 3 (by decide) rfl rfl ⟨fun k h1 h3 ek => ?_, fun _ => ?_⟩)))))
  · subst ek
    have hk15 := ht_lt h3
    have hkp := ht_pos k
    refine j_if_eq (tgt := 26) dX6_judge_9 rfl (fun h9 => absurd h9 (by decide)) (fun _ => (j_lload_n 2 dX6_judge_12 rfl (j_lconst (v := 0) dX6_judge_13 rfl (j_iload_n 1 dX6_judge_14 rfl (j_S1 dX6_judge_15 kX6_218 (c_hundredT (by omega) ?_))))))
    refine j_lconst (v := 1) dX6_judge_18 rfl (j_lsub dX6_judge_19 ?_)
    rw [show lN (htN k) - (1 : Int64) = lN (htN k - 1) from lN_sub (b := 1) (by omega)]
    refine j_S3 dX6_judge_20 kX6_68 (c_in (fun z => ?_) (fun _ => ?_))
    · exfalso
      have z1 := (i64_le _ _).mp z.1
      have z2 := (i64_le _ _).mp z.2
      rw [pf_lI (by omega)] at z2
      rw [show (0 : Int64).toInt = 0 from rfl] at z1
      refine hx k y.toInt.toNat h1 h3 (by omega) rfl ?_
      apply Int64.toInt_inj.mp
      rw [pf_lI (by omega)]
      omega
    · refine j_if_ne (tgt := 29) dX6_judge_23 rfl (fun h9 => absurd (by decide) h9) (fun _ => (j_bipush (v := -2) dX6_judge_26 rfl (j_iret dX6_judge_28 ?_)))
      exact hp
  · refine j_if_eq (tgt := 26) dX6_judge_9 rfl (fun _ => (j_bipush (v := -2) dX6_judge_26 rfl (j_iret dX6_judge_28 ?_))) (fun h9 => absurd (by decide) h9)
    exact hp

theorem MSt.trL {t : Nat → Nat} {n : Nat} {c : CT} {w : Nat} {ρ : RT} {A : Nat × Nat × (Nat → RT)} {K : (Nat → RT) × (Nat → Bool)} {E : (Nat → Int32) × (Nat → Nat) × (Nat → Nat) × Nat} {sd sd' : Int64} {I : IT} {L L' : LT} (h : MSt t n c w ρ A K E sd I L) {σ : RT} (hz : Z47 σ) (hL : L' 198 = sd') : MSt t n c w ρ A K E sd' (upR I 204 σ) L' := by
  obtain ⟨h1, h2, h3, h4, h5, h6, h7, h8⟩ := h.tri hz
  exact ⟨h1, h2, h3, h4, h5, h6, hL, h8⟩
theorem q_drawn {g : GT} {Z : ZT} {I : IT} {L : LT} {Post : PT} {t : Nat → Nat} {n : Nat} {c : CT} {w : Nat} {ρ : RT} {A : Nat × Nat × (Nat → RT)} {K : (Nat → RT) × (Nat → Bool)} {E : (Nat → Int32) × (Nat → Nat) × (Nat → Nat) × Nat} {sd : Int64} {k : Nat} (hM : isM Z) (hs : MSt t n c w ρ A K E sd I L) (ho : OKs c w ρ A K E) (h1 : 1 ≤ k) (h40 : k ≤ 40) (hp : ∀ I' L', MSt t n c w ρ A K E (sdF sd k) I' L' → eqC I I' → (∀ a, a ≠ 198 → L' a = L a) → Post (some (.int (dsI c sd ρ k))) Z I' L') : CM g 6 0 0 mX6_drawn [.ref 198, .int (nI k)] Z I L Post := by
  obtain ⟨m0, f0, f3, f6, f7, f10, f11, f12, f15, f16, f17, f18, f19, f22, f24, k199, l199, k200, l200, k201, l201, k202, l202, k203, l203, k204, l204, k205, l205, k206, l206, k207, l207, k208, l208, k209, l209, k210, l210, k211, l211, k212, l212⟩ := id hM
  have hMo : isMo Z := ⟨m0, f3, f6, f7, k200, l200, k201, l201, k202, l202⟩
  obtain ⟨sT, ⟨sC, s4, s8, s9⟩, sN, sA, sK, sE, sL, sZ⟩ := id hs
  obtain ⟨oC, oW, oN, oA, oK, oE⟩ := id ho
  refine CM_intro ?_
  have loop : ∀ (m i : Nat) (L' : LT), i + m = k → L' 198 = sdF sd i → (∀ a, a ≠ 198 → L' a = L a) → JW g mX6_drawn (rmO 6 0 0) (QM Post 0 0) 30 [(3, .int (nI i)), (2, .int (dsI c sd ρ i)), (0, .ref 198), (1, .int (nI k))] [] 0 0 Z (upR I 204 (drF c sd ρ i)) L' := by
    intro m
    induction m with
    | zero =>
      intro i L' hi hL hL2
      have : i = k := by omega
      subst this
      refine j_iload_n 0 dX6_drawn_30 rfl (j_iload_n 3 dX6_drawn_31 rfl (j_icmp_ge (tgt := 128) dX6_drawn_32 rfl (fun g1 => ?_) (fun g1 => ?_)))
      · refine j_iload_n 1 dX6_drawn_128 rfl (j_iret dX6_drawn_129 ?_)
        exact hp _ L' (hs.trL (oN.dr oC sd i).2 hL) (eqC.up I (by decide) _) hL2
      · exact absurd (nI_le (Nat.le_refl _) (by omega)) g1
    | succ m ih =>
      intro i L' hi hL hL2
      have hi4 : i % 4 < 4 := Nat.mod_lt _ (by decide)
      have hv := dvN_lt (sdF sd (i + 1))
      have hv2 : dvN (sdF sd (i + 1)) % 256 < 256 := Nat.mod_lt _ (by decide)
      have hdw := dwN_lt (v := dvN (sdF sd (i + 1))) oC hi4
      have t87 : ∀ (L2 : LT) (u : Nat), L2 198 = sdF sd (i + 1) → (∀ a, a ≠ 198 → L2 a = L a) → wdN c (i % 4) (dvN (sdF sd (i + 1)) % 256) ^^^ u = dwN c (dvN (sdF sd (i + 1))) (i % 4) → JW g mX6_drawn (rmO 6 0 0) (QM Post 0 0) 87 [(5, .int (nI u)), (4, .int (nI (dvN (sdF sd (i + 1))))), (3, .int (nI i)), (2, .int (dsI c sd ρ i)), (0, .ref 198), (1, .int (nI k))] [] 0 0 Z (upR I 204 (drF c sd ρ i)) L2 := by
        intro L2 u e1 e2 eu
        refine j_aload_n 4 dX6_drawn_87 rfl (j_aload_n 4 dX6_drawn_88 rfl (j_getR (b := 204) dX6_drawn_89 fX6_25 rfl (by first | assumption | rfl) (by first | assumption | rfl) (j_bipush (v := 14) dX6_drawn_92 rfl (j_aload_n 4 dX6_drawn_94 rfl (j_iload_n 2 dX6_drawn_95 rfl (j_iconst (v := 3) dX6_drawn_96 rfl (j_iand dX6_drawn_97 (j_iload 1 dX6_drawn_98 rfl (j_sipush (v := 255) dX6_drawn_100 rfl (j_iand dX6_drawn_103 ?_))))))))))
        rw [and3, and255]
        refine j_V2 dX6_drawn_104 kX6_168 (by first | assumption | rfl) (c_mWord hMo (sC.up (by decide) _) hi4 hv2 ?_)
        refine j_iload 0 dX6_drawn_107 rfl (j_ixor dX6_drawn_109 ?_)
        rw [fb_xorI, eu]
        refine j_V3 dX6_drawn_110 kX6_171 (by first | assumption | rfl) (c_mHearBits (n := 14) hMo (sC.up (by decide) _) (by decide) k204 l204 (by rw [upR_s]; exact (oN.dr oC sd i).1) (by decide) (by omega) ?_)
        rw [upR_R, upR_s]
        refine j_iload_n 3 dX6_drawn_113 rfl (j_aload_n 4 dX6_drawn_114 rfl (j_getR (b := 204) dX6_drawn_115 fX6_25 rfl (by first | assumption | rfl) (by first | assumption | rfl) (j_iconst (v := 3) dX6_drawn_118 rfl (j_iaload 3 dX6_drawn_119 (by first | assumption | rfl) (by first | assumption | rfl) (by omega) ?_))))
        rw [upR_s]
        refine j_iadd dX6_drawn_120 (j_istore_n (lv' := [(2, _), (5, _), (4, _), (3, _), (0, _), (1, _)]) dX6_drawn_121 rfl (j_iinc (y := 1) (lv' := [(3, _), (2, _), (5, _), (4, _), (0, _), (1, _)]) 3 dX6_drawn_122 rfl rfl rfl (j_goto (tgt := 30) dX6_drawn_125 rfl ?_)))
        rw [nI_1]
        exact JW.locals [0, 1, 4, 5] rfl (ih (i + 1) L2 (by omega) e1 e2)
      refine j_iload_n 0 dX6_drawn_30 rfl (j_iload_n 3 dX6_drawn_31 rfl (j_icmp_ge (tgt := 128) dX6_drawn_32 rfl (fun g1 => ?_) (fun g1 => ?_)))
      · exact absurd g1 (nI_ge (by omega) (by omega))
      · refine j_aload_n 2 dX6_drawn_35 rfl (j_aload_n 2 dX6_drawn_36 rfl (j_getJ dX6_drawn_37 fX6_243 (by first | assumption | rfl) (j_ldc2 (v := 6364136223846793005) dX6_drawn_40 (List.mem_of_getElem? (i := 1071) (by decide +kernel)) (j_lmul dX6_drawn_43 (j_ldc2 (v := 1442695040888963407) dX6_drawn_44 (List.mem_of_getElem? (i := 1072) (by decide +kernel)) (j_ladd dX6_drawn_47 ?_))))))
        rw [hL, show sdF sd i * 6364136223846793005 + 1442695040888963407 = sdF sd (i + 1) from rfl]
        refine j_putJ dX6_drawn_48 fX6_243 (by first | assumption | rfl) (j_aload_n 2 dX6_drawn_51 rfl (j_getJ dX6_drawn_52 fX6_243 (by first | assumption | rfl) (j_bipush (v := 33) dX6_drawn_55 rfl (j_lushr dX6_drawn_57 (j_l2i dX6_drawn_58 ?_)))))
        rw [show upL L' 198 (sdF sd (i + 1)) 198 = sdF sd (i + 1) from if_pos rfl, dv_I]
        have q1 : upL L' 198 (sdF sd (i + 1)) 198 = sdF sd (i + 1) := if_pos rfl
        have q2 : ∀ a, a ≠ 198 → upL L' 198 (sdF sd (i + 1)) a = L a := fun a ha => (if_neg ha).trans (hL2 a ha)
        refine j_istore (lv' := [(4, _), (3, _), (2, _), (0, _), (1, _)]) dX6_drawn_59 rfl (j_iload 0 dX6_drawn_61 rfl (j_bipush (v := 8) dX6_drawn_63 rfl (j_ishr dX6_drawn_65 (j_iconst (v := 4) dX6_drawn_66 rfl (j_irem dX6_drawn_67 (by decide) ?_)))))
        rw [show nI (dvN (sdF sd (i + 1))) >>> ((8 : Int32) &&& 31) = nI (dvN (sdF sd (i + 1)) / 256) from shrI (j := 8) hv (by decide), show (4 : Int32) = nI 4 from rfl, remI (by omega) (by decide) (by decide)]
        refine j_if_ne (tgt := 84) dX6_drawn_68 rfl (fun g2 => ?_) (fun g2 => ?_)
        · have hne : ¬ dvN (sdF sd (i + 1)) / 256 % 4 = 0 := fun z => g2 (by rw [z]; rfl)
          refine j_iconst (v := 0) dX6_drawn_84 rfl (j_istore (lv' := [(5, _), (4, _), (3, _), (2, _), (0, _), (1, _)]) dX6_drawn_85 rfl ?_)
          refine t87 _ 0 q1 q2 ?_
          unfold dwN
          rw [if_neg hne, Nat.xor_zero]
        · have he : dvN (sdF sd (i + 1)) / 256 % 4 = 0 := nI_inj (b := 0) (by omega) (by decide) g2
          have h14 : dvN (sdF sd (i + 1)) / 4096 % 14 < 14 := Nat.mod_lt _ (by decide)
          have h2k : 1 * 2 ^ (dvN (sdF sd (i + 1)) / 4096 % 14) < 2 ^ 32 := by
            rw [Nat.one_mul]
            exact Nat.pow_lt_pow_right (by decide) (by omega)
          refine j_iconst (v := 1) dX6_drawn_71 rfl (j_iload 0 dX6_drawn_72 rfl (j_bipush (v := 12) dX6_drawn_74 rfl (j_ishr dX6_drawn_76 (j_bipush (v := 14) dX6_drawn_77 rfl (j_irem dX6_drawn_79 (by decide) ?_)))))
          rw [show nI (dvN (sdF sd (i + 1))) >>> ((12 : Int32) &&& 31) = nI (dvN (sdF sd (i + 1)) / 4096) from shrI (j := 12) hv (by decide), show (14 : Int32) = nI 14 from rfl, remI (by omega) (by decide) (by decide)]
          refine j_ishl dX6_drawn_80 (j_goto (tgt := 85) dX6_drawn_81 rfl ?_)
          rw [show (1 : Int32) <<< (nI (dvN (sdF sd (i + 1)) / 4096 % 14) &&& 31) = nI (1 * 2 ^ (dvN (sdF sd (i + 1)) / 4096 % 14)) from shlI (s := 1) h2k (by omega), Nat.one_mul]
          refine j_istore (lv' := [(5, _), (4, _), (3, _), (2, _), (0, _), (1, _)]) dX6_drawn_85 rfl ?_
          refine t87 _ _ q1 q2 ?_
          unfold dwN
          rw [if_pos he]
  refine j_iload_n 1 dX6_drawn_0 rfl (j_i2l dX6_drawn_1 (j_lconst (v := 1) dX6_drawn_2 rfl (j_ldc2 (v := 40) dX6_drawn_3 (List.mem_of_getElem? (i := 1070) (by decide +kernel)) (j_S3 dX6_drawn_6 kX6_68 (c_inB 1 40 (by decide) rfl rfl ⟨fun _ _ _ _ => ?_, fun h => absurd rfl (h k (by omega) (by omega))⟩)))))
  refine j_if_ne (tgt := 15) dX6_drawn_9 rfl (fun _ => (j_aload_n 0 dX6_drawn_15 rfl (j_getR (b := 203) dX6_drawn_16 fX6_22 rfl (by first | assumption | rfl) (by first | assumption | rfl) (j_aload_n 0 dX6_drawn_19 rfl (j_getR (b := 204) dX6_drawn_20 fX6_25 rfl (by first | assumption | rfl) (by first | assumption | rfl) (j_S2 dX6_drawn_23 kX6_212 (c_toTrial k203 l203 k204 l204 sN oN.2 sZ ?_))))))) (fun h9 => absurd h9 (by decide))
  refine j_iconst (v := 0) dX6_drawn_26 rfl (j_istore_n (lv' := [(2, _), (0, _), (1, _)]) dX6_drawn_27 rfl (j_iconst (v := 0) dX6_drawn_28 rfl (j_istore_n (lv' := [(3, _), (2, _), (0, _), (1, _)]) dX6_drawn_29 rfl ?_)))
  exact JW.locals [0, 1, 2, 3] rfl (loop k 0 L (by omega) sL (fun _ _ => rfl))

theorem q_drawn_b {g : GT} {Z : ZT} {I : IT} {L : LT} {Post : PT} {t : Nat → Nat} {n : Nat} {c : CT} {w : Nat} {ρ : RT} {A : Nat × Nat × (Nat → RT)} {K : (Nat → RT) × (Nat → Bool)} {E : (Nat → Int32) × (Nat → Nat) × (Nat → Nat) × Nat} {sd : Int64} {x : Int32} (hM : isM Z) (hs : MSt t n c w ρ A K E sd I L) (ho : OKs c w ρ A K E) (hx : ∀ k, 1 ≤ k → k ≤ 40 → x ≠ nI k) (hp : Post (some (.int (-2))) Z I L) : CM g 6 0 0 mX6_drawn [.ref 198, .int x] Z I L Post := by
  obtain ⟨m0, f0, f3, f6, f7, f10, f11, f12, f15, f16, f17, f18, f19, f22, f24, k199, l199, k200, l200, k201, l201, k202, l202, k203, l203, k204, l204, k205, l205, k206, l206, k207, l207, k208, l208, k209, l209, k210, l210, k211, l211, k212, l212⟩ := id hM
  have hMo : isMo Z := ⟨m0, f3, f6, f7, k200, l200, k201, l201, k202, l202⟩
  obtain ⟨sT, ⟨sC, s4, s8, s9⟩, sN, sA, sK, sE, sL, sZ⟩ := id hs
  obtain ⟨oC, oW, oN, oA, oK, oE⟩ := id ho
  refine CM_intro ?_
  refine j_iload_n 1 dX6_drawn_0 rfl (j_i2l dX6_drawn_1 (j_lconst (v := 1) dX6_drawn_2 rfl (j_ldc2 (v := 40) dX6_drawn_3 (List.mem_of_getElem? (i := 1070) (by decide +kernel)) (j_S3 dX6_drawn_6 kX6_68 (c_inB 1 40 (by decide) rfl rfl ⟨fun j hj0 hj e => absurd e (hx j hj0 hj), fun _ => ?_⟩)))))
  refine j_if_ne (tgt := 15) dX6_drawn_9 rfl (fun h9 => absurd (by decide) h9) (fun _ => (j_bipush (v := -2) dX6_drawn_12 rfl (j_iret dX6_drawn_14 ?_)))
  exact hp

