def dwF (f : Nat → Int32) (b : Nat) (ρ : RT) (k : Nat) : Nat → Int32 := fun j => if b ≤ j ∧ j < b + k then ρ (j - b) else f j
theorem dw_0 (f : Nat → Int32) (b : Nat) (ρ : RT) : dwF f b ρ 0 = f := funext (fun j => if_neg (by omega))
theorem dw_s (f : Nat → Int32) (b : Nat) (ρ : RT) (k : Nat) : upd (dwF f b ρ k) (b + k) (ρ k) = dwF f b ρ (k + 1) := by
  funext j
  rw [upd_app]
  unfold dwF
  by_cases e : j = b + k
  · subst e
    rw [if_pos rfl, if_pos (by omega), show b + k - b = k by omega]
  · rw [if_neg e]
    by_cases h : b ≤ j ∧ j < b + k
    · rw [if_pos h, if_pos (by omega)]
    · rw [if_neg h, if_neg (by omega)]
theorem dw_i {f : Nat → Int32} {b : Nat} {ρ : RT} {n k : Nat} (h : k < n) : dwF f b ρ n (b + k) = ρ k := by
  unfold dwF
  rw [if_pos (by omega), show b + k - b = k by omega]
theorem dw_o {f : Nat → Int32} {b : Nat} {ρ : RT} {n j : Nat} (h : j < b ∨ b + n ≤ j) : dwF f b ρ n j = f j := if_neg (by omega)
theorem c_note {g : GT} {Z : ZT} {I : IT} {L : LT} {Post : PT} {nx ac : Nat} {dn : Nat → RT} {ρ : RT} (hM : isM Z) (sA : mA I nx ac dn) (sN : I 203 = ρ) (hp : ∀ I', (∀ a, a ≠ 198 → a ≠ 205 → I' a = I a) → (∀ j, j ≠ 13 → j ≠ 14 → I' 198 j = I 198 j) → mA I' ((nx + 1) % 14) (min (ac + 1) 14) (dnU dn nx ρ) → Post none Z I' L) : CM g 0 0 0 mX6_note [.ref 198] Z I L Post := by
  obtain ⟨m0, f0, f3, f6, f7, f10, f11, f12, f15, f16, f17, f18, f19, f22, f24, k199, l199, k200, l200, k201, l201, k202, l202, k203, l203, k204, l204, k205, l205, k206, l206, k207, l207, k208, l208, k209, l209, k210, l210, k211, l211, k212, l212⟩ := id hM
  obtain ⟨hnx, hac, e14, e13, hd⟩ := id sA
  refine CM_intro ?_
  have fin : ∀ v : Int32, v = nI (min (ac + 1) 14) → Post none Z (upI (upI (upR I 205 (dwF (I 205) (47 * nx) ρ 47)) 198 14 (nI ((nx + 1) % 14))) 198 13 v) L := by
    intro v hv
    subst hv
    refine hp _ (fun a h1 h2 => by rw [upI_n h1, upI_n h1, upR_n h2]) (fun j h1 h2 => by rw [upI_s, upd_n h1, upI_s, upd_n h2, upR_n (by decide)]) ⟨Nat.mod_lt _ (by decide), by omega, by rw [upI_s, upd_n (by decide), upI_s, upd_s], by rw [upI_s, upd_s], ?_⟩
    intro j hj k hk
    rw [upI_n (by decide), upI_n (by decide), upR_s]
    unfold dnU
    by_cases hj0 : j = 0
    · subst hj0
      rw [show ((nx + 1) % 14 + 13 - 0) % 14 = nx by omega, if_pos rfl, dw_i hk]
    · have hsl : ((nx + 1) % 14 + 13 - j) % 14 = (nx + 13 - (j - 1)) % 14 := by omega
      have hne : (nx + 13 - (j - 1)) % 14 ≠ nx := by omega
      rw [hsl, if_neg hne, dw_o (by omega)]
      exact hd (j - 1) (by omega) k hk
  have loop : ∀ (m k : Nat), k + m = 47 → JW g mX6_note (rmO 0 0 0) (QM Post 0 0) 2 [(1, .int (nI k)), (0, .ref 198)] [] 0 0 Z (upR I 205 (dwF (I 205) (47 * nx) ρ k)) L := by
    intro m
    induction m with
    | zero =>
      intro k hk
      have : k = 47 := by omega
      subst this
      refine j_iload_n 0 dX6_note_2 rfl (j_bipush (v := 47) dX6_note_3 rfl (j_icmp_ge (tgt := 34) dX6_note_5 rfl (fun g1 => ?_) (fun g1 => ?_)))
      · refine j_aload_n 1 dX6_note_34 rfl (j_aload_n 1 dX6_note_35 rfl (j_getI dX6_note_36 fX6_198 (by first | assumption | rfl) (j_iconst (v := 1) dX6_note_39 rfl (j_iadd dX6_note_40 (j_bipush (v := 14) dX6_note_41 rfl (j_irem dX6_note_43 (by decide) ?_))))))
        rw [upR_n (show 198 ≠ 205 by decide), e14, nI_1, show (14 : Int32) = nI 14 from rfl, remI (by omega) (by decide) (by decide)]
        refine j_putI dX6_note_44 fX6_198 (by first | assumption | rfl) (j_aload_n 1 dX6_note_47 rfl (j_aload_n 1 dX6_note_48 rfl (j_getI dX6_note_49 fX6_118 (by first | assumption | rfl) (j_bipush (v := 14) dX6_note_52 rfl (j_icmp_ge (tgt := 66) dX6_note_54 rfl (fun g2 => ?_) (fun g2 => ?_))))))
        · rw [upI_s, upd_n (by decide), upR_n (by decide), e13] at g2
          refine j_bipush (v := 14) dX6_note_66 rfl (j_putI dX6_note_68 fX6_118 (by first | assumption | rfl) (j_vret dX6_note_71 ?_))
          refine fin _ ?_
          have : ¬ ac < 14 := fun z => absurd g2 (nI_ge (b := 14) z (by decide))
          rw [show min (ac + 1) 14 = 14 by omega]
          rfl
        · rw [upI_s, upd_n (by decide), upR_n (by decide), e13] at g2
          refine j_aload_n 1 dX6_note_57 rfl (j_getI dX6_note_58 fX6_118 (by first | assumption | rfl) (j_iconst (v := 1) dX6_note_61 rfl (j_iadd dX6_note_62 (j_goto (tgt := 68) dX6_note_63 rfl ?_))))
          rw [upI_s, upd_n (show 13 ≠ 14 by decide), upR_n (show 198 ≠ 205 by decide), e13, nI_1]
          refine j_putI dX6_note_68 fX6_118 (by first | assumption | rfl) (j_vret dX6_note_71 ?_)
          refine fin _ ?_
          have : ac < 14 := Nat.lt_of_not_le (fun z => g2 (nI_le (a := 14) z (by omega)))
          rw [show min (ac + 1) 14 = ac + 1 by omega]
      · exact absurd (by decide) g1
    | succ m ih =>
      intro k hk
      have hi := ih (k + 1) (by omega)
      rw [← dw_s] at hi
      refine j_iload_n 0 dX6_note_2 rfl (j_bipush (v := 47) dX6_note_3 rfl (j_icmp_ge (tgt := 34) dX6_note_5 rfl (fun g1 => ?_) (fun g1 => ?_)))
      · exact absurd g1 (nI_ge (b := 47) (by omega) (by decide))
      · refine j_aload_n 1 dX6_note_8 rfl (j_getR (b := 205) dX6_note_9 fX6_28 rfl (by first | assumption | rfl) (by first | assumption | rfl) (j_bipush (v := 47) dX6_note_12 rfl (j_aload_n 1 dX6_note_14 rfl (j_getI dX6_note_15 fX6_198 (by first | assumption | rfl) (j_imul dX6_note_18 (j_iload_n 0 dX6_note_19 rfl (j_iadd dX6_note_20 (j_aload_n 1 dX6_note_21 rfl (j_getR (b := 203) dX6_note_22 fX6_22 rfl (by first | assumption | rfl) (by first | assumption | rfl) (j_iload_n 0 dX6_note_25 rfl (j_iaload k dX6_note_26 (by first | assumption | rfl) (by first | assumption | rfl) (by omega) ?_)))))))))))
        rw [upR_n (show 198 ≠ 205 by decide), e14, show (47 : Int32) = nI 47 from rfl, pk_mul, nI_add, upR_n (show 203 ≠ 205 by decide), sN]
        refine j_iastore (47 * nx + k) dX6_note_27 (by first | assumption | rfl) (by first | assumption | rfl) (by omega) (j_iinc (y := 1) (lv' := [(1, _), (0, _)]) 0 dX6_note_28 rfl rfl rfl (j_goto (tgt := 2) dX6_note_31 rfl ?_))
        rw [nI_1, upI, upR_R, upR_s]
        exact JW.locals [0, 1] rfl hi
  have h0 := loop 47 0 rfl
  rw [dw_0, fa_self] at h0
  refine j_iconst (v := 0) dX6_note_0 rfl (j_istore_n (lv' := [(1, _), (0, _)]) dX6_note_1 rfl ?_)
  exact JW.locals [0, 1] rfl h0
theorem MSt.now2 {t : Nat → Nat} {n : Nat} {c : CT} {w : Nat} {ρ ρ' : RT} {A A' : Nat × Nat × (Nat → RT)} {K : (Nat → RT) × (Nat → Bool)} {E : (Nat → Int32) × (Nat → Nat) × (Nat → Nat) × Nat} {sd : Int64} {I I1 : IT} {L : LT} (h : MSt t n c w ρ A K E sd I L) (e : ∀ a, a ≠ 198 → a ≠ 205 → I1 a = I a) (e8 : ∀ j, j ≠ 13 → j ≠ 14 → I1 198 j = I 198 j) (hA : mA I1 A'.1 A'.2.1 A'.2.2) : MSt t n c w ρ' A' K E sd (upR I1 203 ρ') L := by
  obtain ⟨h1, h2, h3, h4, h5, h6, h7, h8⟩ := h
  exact ⟨h1.up (by rw [upR_n (by decide), e8 1 (by decide) (by decide)]) (by rw [upR_n (by decide), e 199 (by decide) (by decide)]), h2.fr (fun j hj => by rw [upR_n (by decide), e8 j (by omega) (by omega)]) (fun a _ _ => by rw [upR_n (by omega), e a (by omega) (by omega)]), upR_s _ _ _, hA.fr (by rw [upR_n (by decide)]) (by rw [upR_n (by decide)]) (upR_n (by decide)), h5.fr (by rw [upR_n (by decide), e 206 (by decide) (by decide)]) (by rw [upR_n (by decide), e 207 (by decide) (by decide)]), h6.fr (by rw [upR_n (by decide), e8 20 (by decide) (by decide)]) (by rw [upR_n (by decide), e 208 (by decide) (by decide)]) (by rw [upR_n (by decide), e 209 (by decide) (by decide)]) (by rw [upR_n (by decide), e 210 (by decide) (by decide)]), h7, by rw [upR_n (by decide), e 204 (by decide) (by decide)]; exact h8⟩
theorem eqC.now2 {I I1 : IT} (e : ∀ a, a ≠ 198 → a ≠ 205 → I1 a = I a) (ρ : RT) : eqC I (upR I1 203 ρ) := fun a ha => by rw [upR_n (by omega), e a (by omega) (by omega)]
theorem q_bits {g : GT} {Z : ZT} {I : IT} {L : LT} {Post : PT} {t : Nat → Nat} {n : Nat} {c : CT} {w : Nat} {ρ : RT} {A : Nat × Nat × (Nat → RT)} {K : (Nat → RT) × (Nat → Bool)} {E : (Nat → Int32) × (Nat → Nat) × (Nat → Nat) × Nat} {sd : Int64} {k v : Nat} (hM : isM Z) (hs : MSt t n c w ρ A K E sd I L) (ho : OKs c w ρ A K E) (h1 : 1 ≤ k) (h14 : k ≤ 14) (hv : v < 2 ^ k) (hp : ∀ I', MSt t n c w (hsF c k ρ v) (acA A ρ) K E sd I' L → eqC I I' → Post (some (.int (hsF c k ρ v 3))) Z I' L) : CM g 6 0 0 mX6_bits [.ref 198, .int (nI k), .int (nI v)] Z I L Post := by
  obtain ⟨m0, f0, f3, f6, f7, f10, f11, f12, f15, f16, f17, f18, f19, f22, f24, k199, l199, k200, l200, k201, l201, k202, l202, k203, l203, k204, l204, k205, l205, k206, l206, k207, l207, k208, l208, k209, l209, k210, l210, k211, l211, k212, l212⟩ := id hM
  have hMo : isMo Z := ⟨m0, f3, f6, f7, k200, l200, k201, l201, k202, l202⟩
  obtain ⟨sT, ⟨sC, s4, s8, s9⟩, sN, sA, sK, sE, sL, sZ⟩ := id hs
  obtain ⟨oC, oW, oN, oA, oK, oE⟩ := id ho
  refine CM_intro ?_
  have h2k : 1 * 2 ^ k < 2 ^ 32 := by
    rw [Nat.one_mul]
    exact Nat.pow_lt_pow_right (by decide) (by omega)
  have h3k : 2 ^ k ≤ 2 ^ 14 := Nat.pow_le_pow_right (by decide) h14
  have hz : (nI (2 ^ k - 1)).toInt64.toInt = ((2 ^ k - 1 : Nat) : Int) := by rw [i32_64, nI_toInt (by omega)]
  refine j_iload_n 1 dX6_bits_0 rfl (j_i2l dX6_bits_1 (j_lconst (v := 1) dX6_bits_2 rfl (j_ldc2 (v := 14) dX6_bits_3 (List.mem_of_getElem? (i := 935) (by decide +kernel)) (j_S3 dX6_bits_6 kX6_68 (c_inB 1 14 (by decide) rfl rfl ⟨fun _ _ _ _ => ?_, fun h => absurd rfl (h k (by omega) (by omega))⟩)))))
  refine j_if_eq (tgt := 27) dX6_bits_9 rfl (fun h9 => absurd h9 (by decide)) (fun _ => (j_iload_n 2 dX6_bits_12 rfl (j_i2l dX6_bits_13 (j_lconst (v := 0) dX6_bits_14 rfl (j_iconst (v := 1) dX6_bits_15 rfl (j_iload_n 1 dX6_bits_16 rfl (j_ishl dX6_bits_17 (j_iconst (v := 1) dX6_bits_18 rfl (j_isub dX6_bits_19 ?_)))))))))
  rw [show (1 : Int32) <<< (nI k &&& 31) = nI (1 * 2 ^ k) from shlI (s := 1) h2k (by omega), Nat.one_mul, show nI (2 ^ k) - (1 : Int32) = nI (2 ^ k - 1) from pk_sub (b := 1) (Nat.one_le_two_pow)]
  refine j_i2l dX6_bits_20 (j_S3 dX6_bits_21 kX6_68 (c_inB 0 (2 ^ k - 1) (by omega) rfl hz ⟨fun _ _ _ _ => ?_, fun h => absurd rfl (h v (by omega) (by omega))⟩))
  refine j_if_ne (tgt := 30) dX6_bits_24 rfl (fun _ => (j_aload_n 0 dX6_bits_30 rfl (j_V0 dX6_bits_31 kX6_203 (by first | assumption | rfl) (c_note hM sA sN (fun I1 e1 e2 hA => ?_))))) (fun h9 => absurd h9 (by decide))
  have mc1 : MC I1 c := sC.fr (e2 2 (by decide) (by decide)) (e2 5 (by decide) (by decide)) (fun a _ _ => e1 a (by omega) (by omega))
  have n1 : I1 203 = ρ := (e1 203 (by decide) (by decide)).trans sN
  refine j_aload_n 0 dX6_bits_34 rfl (j_aload_n 0 dX6_bits_35 rfl (j_getR (b := 203) dX6_bits_36 fX6_22 rfl (by first | assumption | rfl) (by first | assumption | rfl) (j_iload_n 1 dX6_bits_39 rfl (j_iload_n 2 dX6_bits_40 rfl (j_V3 dX6_bits_41 kX6_171 (by first | assumption | rfl) (c_mHearBits hMo mc1 (by decide) k203 l203 (by rw [n1]; exact oN.1) (by omega) (by omega) ?_))))))
  refine j_aload_n 0 dX6_bits_44 rfl (j_getR (b := 203) dX6_bits_45 fX6_22 rfl (by first | assumption | rfl) (by first | assumption | rfl) (j_iconst (v := 3) dX6_bits_48 rfl (j_iaload 3 dX6_bits_49 (by first | assumption | rfl) (by first | assumption | rfl) (by omega) (j_iret dX6_bits_50 ?_))))
  rw [upR_s, n1]
  exact hp _ (hs.now2 e1 e2 hA) (eqC.now2 e1 _)

theorem q_bits_b {g : GT} {Z : ZT} {I : IT} {L : LT} {Post : PT} {t : Nat → Nat} {n : Nat} {c : CT} {w : Nat} {ρ : RT} {A : Nat × Nat × (Nat → RT)} {K : (Nat → RT) × (Nat → Bool)} {E : (Nat → Int32) × (Nat → Nat) × (Nat → Nat) × Nat} {sd : Int64} {x y : Int32} (hM : isM Z) (hs : MSt t n c w ρ A K E sd I L) (ho : OKs c w ρ A K E) (hx : ∀ k v, 1 ≤ k → k ≤ 14 → v < 2 ^ k → x = nI k → y = nI v → False) (hp : Post (some (.int (-2))) Z I L) : CM g 6 0 0 mX6_bits [.ref 198, .int x, .int y] Z I L Post := by
  obtain ⟨m0, f0, f3, f6, f7, f10, f11, f12, f15, f16, f17, f18, f19, f22, f24, k199, l199, k200, l200, k201, l201, k202, l202, k203, l203, k204, l204, k205, l205, k206, l206, k207, l207, k208, l208, k209, l209, k210, l210, k211, l211, k212, l212⟩ := id hM
  have hMo : isMo Z := ⟨m0, f3, f6, f7, k200, l200, k201, l201, k202, l202⟩
  obtain ⟨sT, ⟨sC, s4, s8, s9⟩, sN, sA, sK, sE, sL, sZ⟩ := id hs
  obtain ⟨oC, oW, oN, oA, oK, oE⟩ := id ho
  refine CM_intro ?_
  refine j_iload_n 1 dX6_bits_0 rfl (j_i2l dX6_bits_1 (j_lconst (v := 1) dX6_bits_2 rfl (j_ldc2 (v := 14) dX6_bits_3 (List.mem_of_getElem? (i := 935) (by decide +kernel)) (j_S3 dX6_bits_6 kX6_68 (c_inB 1 14 (by decide) rfl rfl ⟨fun k h1 h14 ek => ?_, fun _ => ?_⟩)))))
  · subst ek
    have h2k : 1 * 2 ^ k < 2 ^ 32 := by
      rw [Nat.one_mul]
      exact Nat.pow_lt_pow_right (by decide) (by omega)
    have h3k : 2 ^ k ≤ 2 ^ 14 := Nat.pow_le_pow_right (by decide) h14
    have h4k : 1 ≤ 2 ^ k := Nat.one_le_two_pow
    have hz : (nI (2 ^ k - 1)).toInt64.toInt = ((2 ^ k - 1 : Nat) : Int) := by rw [i32_64, nI_toInt (by omega)]
    refine j_if_eq (tgt := 27) dX6_bits_9 rfl (fun h9 => absurd h9 (by decide)) (fun _ => (j_iload_n 2 dX6_bits_12 rfl (j_i2l dX6_bits_13 (j_lconst (v := 0) dX6_bits_14 rfl (j_iconst (v := 1) dX6_bits_15 rfl (j_iload_n 1 dX6_bits_16 rfl (j_ishl dX6_bits_17 (j_iconst (v := 1) dX6_bits_18 rfl (j_isub dX6_bits_19 ?_)))))))))
    rw [show (1 : Int32) <<< (nI k &&& 31) = nI (1 * 2 ^ k) from shlI (s := 1) h2k (by omega), Nat.one_mul, show nI (2 ^ k) - (1 : Int32) = nI (2 ^ k - 1) from pk_sub (b := 1) (Nat.one_le_two_pow)]
    refine j_i2l dX6_bits_20 (j_S3 dX6_bits_21 kX6_68 (c_inB 0 (2 ^ k - 1) (by omega) rfl hz ⟨fun v _ hv ev => (hx k v h1 h14 (by omega) rfl ev).elim, fun _ => ?_⟩))
    refine j_if_ne (tgt := 30) dX6_bits_24 rfl (fun h9 => absurd (by decide) h9) (fun _ => (j_bipush (v := -2) dX6_bits_27 rfl (j_iret dX6_bits_29 ?_)))
    exact hp
  · refine j_if_eq (tgt := 27) dX6_bits_9 rfl (fun _ => (j_bipush (v := -2) dX6_bits_27 rfl (j_iret dX6_bits_29 ?_))) (fun h9 => absurd (by decide) h9)
    exact hp

theorem q_hear {g : GT} {Z : ZT} {I : IT} {L : LT} {Post : PT} {t : Nat → Nat} {n : Nat} {c : CT} {w : Nat} {ρ : RT} {A : Nat × Nat × (Nat → RT)} {K : (Nat → RT) × (Nat → Bool)} {E : (Nat → Int32) × (Nat → Nat) × (Nat → Nat) × Nat} {sd : Int64} {k d v : Nat} (hM : isM Z) (hs : MSt t n c w ρ A K E sd I L) (ho : OKs c w ρ A K E) (hk : k < 4) (hd : d < 256) (hv : v < 16384) (hp : ∀ I', MSt t n c w (hsF c 14 ρ (wdN c k d ^^^ v)) (acA A ρ) K E sd I' L → eqC I I' → Post (some (.int (hsF c 14 ρ (wdN c k d ^^^ v) 3))) Z I' L) : CM g 6 0 0 mX6_hear [.ref 198, .int (nI k), .int (nI d), .int (nI v)] Z I L Post := by
  obtain ⟨m0, f0, f3, f6, f7, f10, f11, f12, f15, f16, f17, f18, f19, f22, f24, k199, l199, k200, l200, k201, l201, k202, l202, k203, l203, k204, l204, k205, l205, k206, l206, k207, l207, k208, l208, k209, l209, k210, l210, k211, l211, k212, l212⟩ := id hM
  have hMo : isMo Z := ⟨m0, f3, f6, f7, k200, l200, k201, l201, k202, l202⟩
  obtain ⟨sT, ⟨sC, s4, s8, s9⟩, sN, sA, sK, sE, sL, sZ⟩ := id hs
  obtain ⟨oC, oW, oN, oA, oK, oE⟩ := id ho
  refine CM_intro ?_
  have hwx : wdN c k d ^^^ v < 16384 := xor_lt14 (wdN_lt oC.2.2.1 (oC.2.2.2.1 k hk) hd) hv
  refine j_iload_n 1 dX6_hear_0 rfl (j_S1 dX6_hear_1 kX6_183 (c_mIsOffset ⟨fun _ _ _ _ => ?_, fun h => absurd rfl (h k (Nat.zero_le _) (by omega))⟩))
  refine j_if_ne (tgt := 9) dX6_hear_4 rfl (fun _ => (j_iload_n 2 dX6_hear_9 rfl (j_i2l dX6_hear_10 (j_lconst (v := 0) dX6_hear_11 rfl (j_ldc2 (v := 255) dX6_hear_12 (List.mem_of_getElem? (i := 820) (by decide +kernel)) (j_S3 dX6_hear_15 kX6_68 (c_inB 0 255 (by decide) rfl rfl ⟨fun _ _ _ _ => ?_, fun h => absurd rfl (h d (by omega) (by omega))⟩))))))) (fun h9 => absurd h9 (by decide))
  refine j_if_eq (tgt := 33) dX6_hear_18 rfl (fun h9 => absurd h9 (by decide)) (fun _ => (j_iload_n 3 dX6_hear_21 rfl (j_i2l dX6_hear_22 (j_lconst (v := 0) dX6_hear_23 rfl (j_ldc2 (v := 16383) dX6_hear_24 (List.mem_of_getElem? (i := 902) (by decide +kernel)) (j_S3 dX6_hear_27 kX6_68 (c_inB 0 16383 (by decide) rfl rfl ⟨fun _ _ _ _ => ?_, fun h => absurd rfl (h v (by omega) (by omega))⟩)))))))
  refine j_if_ne (tgt := 36) dX6_hear_30 rfl (fun _ => (j_aload_n 0 dX6_hear_36 rfl (j_V0 dX6_hear_37 kX6_203 (by first | assumption | rfl) (c_note hM sA sN (fun I1 e1 e2 hA => ?_))))) (fun h9 => absurd h9 (by decide))
  have mc1 : MC I1 c := sC.fr (e2 2 (by decide) (by decide)) (e2 5 (by decide) (by decide)) (fun a _ _ => e1 a (by omega) (by omega))
  have n1 : I1 203 = ρ := (e1 203 (by decide) (by decide)).trans sN
  refine j_aload_n 0 dX6_hear_40 rfl (j_aload_n 0 dX6_hear_41 rfl (j_getR (b := 203) dX6_hear_42 fX6_22 rfl (by first | assumption | rfl) (by first | assumption | rfl) (j_bipush (v := 14) dX6_hear_45 rfl (j_aload_n 0 dX6_hear_47 rfl (j_iload_n 1 dX6_hear_48 rfl (j_iload_n 2 dX6_hear_49 rfl (j_V2 dX6_hear_50 kX6_168 (by first | assumption | rfl) (c_mWord hMo mc1 hk hd ?_))))))))
  refine j_iload_n 3 dX6_hear_53 rfl (j_ixor dX6_hear_54 ?_)
  rw [fb_xorI]
  refine j_V3 dX6_hear_55 kX6_171 (by first | assumption | rfl) (c_mHearBits (n := 14) hMo mc1 (by decide) k203 l203 (by rw [n1]; exact oN.1) (by decide) (by omega) ?_)
  refine j_aload_n 0 dX6_hear_58 rfl (j_getR (b := 203) dX6_hear_59 fX6_22 rfl (by first | assumption | rfl) (by first | assumption | rfl) (j_iconst (v := 3) dX6_hear_62 rfl (j_iaload 3 dX6_hear_63 (by first | assumption | rfl) (by first | assumption | rfl) (by omega) (j_iret dX6_hear_64 ?_))))
  rw [upR_s, n1]
  exact hp _ (hs.now2 e1 e2 hA) (eqC.now2 e1 _)

theorem q_hear_u {g : GT} {Z : ZT} {I : IT} {L : LT} {Post : PT} {t : Nat → Nat} {n : Nat} {c : CT} {w : Nat} {ρ : RT} {A : Nat × Nat × (Nat → RT)} {K : (Nat → RT) × (Nat → Bool)} {E : (Nat → Int32) × (Nat → Nat) × (Nat → Nat) × Nat} {sd : Int64} {x y z : Int32} (hM : isM Z) (hs : MSt t n c w ρ A K E sd I L) (ho : OKs c w ρ A K E) (hx : ∀ j, j < 4 → x ≠ nI j) (hp : Post (some (.int (-1))) Z I L) : CM g 6 0 0 mX6_hear [.ref 198, .int x, .int y, .int z] Z I L Post := by
  obtain ⟨m0, f0, f3, f6, f7, f10, f11, f12, f15, f16, f17, f18, f19, f22, f24, k199, l199, k200, l200, k201, l201, k202, l202, k203, l203, k204, l204, k205, l205, k206, l206, k207, l207, k208, l208, k209, l209, k210, l210, k211, l211, k212, l212⟩ := id hM
  have hMo : isMo Z := ⟨m0, f3, f6, f7, k200, l200, k201, l201, k202, l202⟩
  obtain ⟨sT, ⟨sC, s4, s8, s9⟩, sN, sA, sK, sE, sL, sZ⟩ := id hs
  obtain ⟨oC, oW, oN, oA, oK, oE⟩ := id ho
  refine CM_intro ?_
  refine j_iload_n 1 dX6_hear_0 rfl (j_S1 dX6_hear_1 kX6_183 (c_mIsOffset ⟨fun j _ hj e => absurd e (hx j (by omega)), fun _ => ?_⟩))
  refine j_if_ne (tgt := 9) dX6_hear_4 rfl (fun h9 => absurd (by decide) h9) (fun _ => (j_iconst (v := -1) dX6_hear_7 rfl (j_iret dX6_hear_8 ?_)))
  exact hp

theorem q_hear_b {g : GT} {Z : ZT} {I : IT} {L : LT} {Post : PT} {t : Nat → Nat} {n : Nat} {c : CT} {w : Nat} {ρ : RT} {A : Nat × Nat × (Nat → RT)} {K : (Nat → RT) × (Nat → Bool)} {E : (Nat → Int32) × (Nat → Nat) × (Nat → Nat) × Nat} {sd : Int64} {k : Nat} {y z : Int32} (hM : isM Z) (hs : MSt t n c w ρ A K E sd I L) (ho : OKs c w ρ A K E) (hk : k < 4) (hy : ∀ j, j < 256 → y ≠ nI j) (hp : Post (some (.int (-2))) Z I L) : CM g 6 0 0 mX6_hear [.ref 198, .int (nI k), .int y, .int z] Z I L Post := by
  obtain ⟨m0, f0, f3, f6, f7, f10, f11, f12, f15, f16, f17, f18, f19, f22, f24, k199, l199, k200, l200, k201, l201, k202, l202, k203, l203, k204, l204, k205, l205, k206, l206, k207, l207, k208, l208, k209, l209, k210, l210, k211, l211, k212, l212⟩ := id hM
  have hMo : isMo Z := ⟨m0, f3, f6, f7, k200, l200, k201, l201, k202, l202⟩
  obtain ⟨sT, ⟨sC, s4, s8, s9⟩, sN, sA, sK, sE, sL, sZ⟩ := id hs
  obtain ⟨oC, oW, oN, oA, oK, oE⟩ := id ho
  refine CM_intro ?_
  refine j_iload_n 1 dX6_hear_0 rfl (j_S1 dX6_hear_1 kX6_183 (c_mIsOffset ⟨fun _ _ _ _ => ?_, fun h => absurd rfl (h k (Nat.zero_le _) (by omega))⟩))
  refine j_if_ne (tgt := 9) dX6_hear_4 rfl (fun _ => (j_iload_n 2 dX6_hear_9 rfl (j_i2l dX6_hear_10 (j_lconst (v := 0) dX6_hear_11 rfl (j_ldc2 (v := 255) dX6_hear_12 (List.mem_of_getElem? (i := 820) (by decide +kernel)) (j_S3 dX6_hear_15 kX6_68 (c_inB 0 255 (by decide) rfl rfl ⟨fun j hj0 hj e => absurd e (hy j (by omega)), fun _ => ?_⟩))))))) (fun h9 => absurd h9 (by decide))
  refine j_if_eq (tgt := 33) dX6_hear_18 rfl (fun _ => (j_bipush (v := -2) dX6_hear_33 rfl (j_iret dX6_hear_35 ?_))) (fun h9 => absurd (by decide) h9)
  exact hp

theorem q_hear_c {g : GT} {Z : ZT} {I : IT} {L : LT} {Post : PT} {t : Nat → Nat} {n : Nat} {c : CT} {w : Nat} {ρ : RT} {A : Nat × Nat × (Nat → RT)} {K : (Nat → RT) × (Nat → Bool)} {E : (Nat → Int32) × (Nat → Nat) × (Nat → Nat) × Nat} {sd : Int64} {k d : Nat} {z : Int32} (hM : isM Z) (hs : MSt t n c w ρ A K E sd I L) (ho : OKs c w ρ A K E) (hk : k < 4) (hd : d < 256) (hz : ∀ j, j < 16384 → z ≠ nI j) (hp : Post (some (.int (-2))) Z I L) : CM g 6 0 0 mX6_hear [.ref 198, .int (nI k), .int (nI d), .int z] Z I L Post := by
  obtain ⟨m0, f0, f3, f6, f7, f10, f11, f12, f15, f16, f17, f18, f19, f22, f24, k199, l199, k200, l200, k201, l201, k202, l202, k203, l203, k204, l204, k205, l205, k206, l206, k207, l207, k208, l208, k209, l209, k210, l210, k211, l211, k212, l212⟩ := id hM
  have hMo : isMo Z := ⟨m0, f3, f6, f7, k200, l200, k201, l201, k202, l202⟩
  obtain ⟨sT, ⟨sC, s4, s8, s9⟩, sN, sA, sK, sE, sL, sZ⟩ := id hs
  obtain ⟨oC, oW, oN, oA, oK, oE⟩ := id ho
  refine CM_intro ?_
  refine j_iload_n 1 dX6_hear_0 rfl (j_S1 dX6_hear_1 kX6_183 (c_mIsOffset ⟨fun _ _ _ _ => ?_, fun h => absurd rfl (h k (Nat.zero_le _) (by omega))⟩))
  refine j_if_ne (tgt := 9) dX6_hear_4 rfl (fun _ => (j_iload_n 2 dX6_hear_9 rfl (j_i2l dX6_hear_10 (j_lconst (v := 0) dX6_hear_11 rfl (j_ldc2 (v := 255) dX6_hear_12 (List.mem_of_getElem? (i := 820) (by decide +kernel)) (j_S3 dX6_hear_15 kX6_68 (c_inB 0 255 (by decide) rfl rfl ⟨fun _ _ _ _ => ?_, fun h => absurd rfl (h d (by omega) (by omega))⟩))))))) (fun h9 => absurd h9 (by decide))
  refine j_if_eq (tgt := 33) dX6_hear_18 rfl (fun h9 => absurd h9 (by decide)) (fun _ => (j_iload_n 3 dX6_hear_21 rfl (j_i2l dX6_hear_22 (j_lconst (v := 0) dX6_hear_23 rfl (j_ldc2 (v := 16383) dX6_hear_24 (List.mem_of_getElem? (i := 902) (by decide +kernel)) (j_S3 dX6_hear_27 kX6_68 (c_inB 0 16383 (by decide) rfl rfl ⟨fun j hj0 hj e => absurd e (hz j (by omega)), fun _ => ?_⟩)))))))
  refine j_if_ne (tgt := 36) dX6_hear_30 rfl (fun h9 => absurd (by decide) h9) (fun _ => (j_bipush (v := -2) dX6_hear_33 rfl (j_iret dX6_hear_35 ?_)))
  exact hp

theorem q_group {g : GT} {Z : ZT} {I : IT} {L : LT} {Post : PT} {t : Nat → Nat} {n : Nat} {c : CT} {w : Nat} {ρ : RT} {A : Nat × Nat × (Nat → RT)} {K : (Nat → RT) × (Nat → Bool)} {E : (Nat → Int32) × (Nat → Nat) × (Nat → Nat) × Nat} {sd : Int64} {G : Int32} {k : Nat} (hM : isM Z) (hs : MSt t n c w ρ A K E sd I L) (ho : OKs c w ρ A K E) (h1 : 1 ≤ k) (h9 : k ≤ 9) (hp : ∀ I', MSt t n c w (giF c G k ρ) (acA A ρ) K E sd I' L → eqC I I' → Post (some (.int (giF c G k ρ 10 + giF c G k ρ 11 - (ρ 10 + ρ 11)))) Z I' L) : CM g 7 0 0 mX6_group [.ref 198, .int G, .int (nI k)] Z I L Post := by
  obtain ⟨m0, f0, f3, f6, f7, f10, f11, f12, f15, f16, f17, f18, f19, f22, f24, k199, l199, k200, l200, k201, l201, k202, l202, k203, l203, k204, l204, k205, l205, k206, l206, k207, l207, k208, l208, k209, l209, k210, l210, k211, l211, k212, l212⟩ := id hM
  have hMo : isMo Z := ⟨m0, f3, f6, f7, k200, l200, k201, l201, k202, l202⟩
  obtain ⟨sT, ⟨sC, s4, s8, s9⟩, sN, sA, sK, sE, sL, sZ⟩ := id hs
  obtain ⟨oC, oW, oN, oA, oK, oE⟩ := id ho
  refine CM_intro ?_
  refine j_iload_n 2 dX6_group_0 rfl (j_i2l dX6_group_1 (j_lconst (v := 1) dX6_group_2 rfl (j_ldc2 (v := 9) dX6_group_3 (List.mem_of_getElem? (i := 840) (by decide +kernel)) (j_S3 dX6_group_6 kX6_68 (c_inB 1 9 (by decide) rfl rfl ⟨fun _ _ _ _ => ?_, fun h => absurd rfl (h k (by omega) (by omega))⟩)))))
  refine j_if_ne (tgt := 15) dX6_group_9 rfl (fun _ => (j_aload_n 0 dX6_group_15 rfl (j_V0 dX6_group_16 kX6_203 (by first | assumption | rfl) (c_note hM sA sN (fun I1 e1 e2 hA => ?_))))) (fun h9 => absurd h9 (by decide))
  have mc1 : MC I1 c := sC.fr (e2 2 (by decide) (by decide)) (e2 5 (by decide) (by decide)) (fun a _ _ => e1 a (by omega) (by omega))
  have n1 : I1 203 = ρ := (e1 203 (by decide) (by decide)).trans sN
  have loop : ∀ (m j : Nat), j + m = k → JW g mX6_group (rmO 7 0 0) (QM Post 0 0) 38 [(4, .int (nI j)), (3, .int (ρ 10 + ρ 11)), (0, .ref 198), (1, .int G), (2, .int (nI k))] [] 0 0 Z (upR I1 203 (giF c G j ρ)) L := by
    intro m
    induction m with
    | zero =>
      intro j hj
      have : j = k := by omega
      subst this
      refine j_iload 0 dX6_group_38 rfl (j_iload_n 4 dX6_group_40 rfl (j_icmp_ge (tgt := 60) dX6_group_41 rfl (fun g1 => ?_) (fun g1 => ?_)))
      · refine j_aload_n 2 dX6_group_60 rfl (j_getR (b := 203) dX6_group_61 fX6_22 rfl (by first | assumption | rfl) (by first | assumption | rfl) (j_bipush (v := 10) dX6_group_64 rfl (j_iaload 10 dX6_group_66 (by first | assumption | rfl) (by first | assumption | rfl) (by omega) (j_aload_n 2 dX6_group_67 rfl (j_getR (b := 203) dX6_group_68 fX6_22 rfl (by first | assumption | rfl) (by first | assumption | rfl) (j_bipush (v := 11) dX6_group_71 rfl (j_iaload 11 dX6_group_73 (by first | assumption | rfl) (by first | assumption | rfl) (by omega) (j_iadd dX6_group_74 (j_iload_n 1 dX6_group_75 rfl (j_isub dX6_group_76 (j_iret dX6_group_77 ?_)))))))))))
        rw [upR_s]
        exact hp _ (hs.now2 e1 e2 hA) (eqC.now2 e1 _)
      · exact absurd (nI_le (Nat.le_refl _) (by omega)) g1
    | succ m ih =>
      intro j hj
      refine j_iload 0 dX6_group_38 rfl (j_iload_n 4 dX6_group_40 rfl (j_icmp_ge (tgt := 60) dX6_group_41 rfl (fun g1 => ?_) (fun g1 => ?_)))
      · exact absurd g1 (nI_ge (by omega) (by omega))
      · refine j_aload_n 2 dX6_group_44 rfl (j_aload_n 2 dX6_group_45 rfl (j_getR (b := 203) dX6_group_46 fX6_22 rfl (by first | assumption | rfl) (by first | assumption | rfl) (j_iload_n 3 dX6_group_49 rfl (j_iconst (v := 0) dX6_group_50 rfl (j_V3 dX6_group_51 kX6_206 (by first | assumption | rfl) (c_hearGroup (t := 0) hMo (mc1.up (by decide) _) (by decide) k203 l203 (by rw [upR_s]; exact (OKz.gi oC G oN j).1) (by decide) ?_))))))
        rw [upR_R, upR_s]
        refine j_iinc (y := 1) (lv' := [(4, _), (3, _), (0, _), (1, _), (2, _)]) 0 dX6_group_54 rfl rfl rfl (j_goto (tgt := 38) dX6_group_57 rfl ?_)
        rw [nI_1]
        exact ih (j + 1) (by omega)
  refine j_aload_n 0 dX6_group_19 rfl (j_getR (b := 203) dX6_group_20 fX6_22 rfl (by first | assumption | rfl) (by first | assumption | rfl) (j_bipush (v := 10) dX6_group_23 rfl (j_iaload 10 dX6_group_25 (by first | assumption | rfl) (by first | assumption | rfl) (by omega) (j_aload_n 0 dX6_group_26 rfl (j_getR (b := 203) dX6_group_27 fX6_22 rfl (by first | assumption | rfl) (by first | assumption | rfl) (j_bipush (v := 11) dX6_group_30 rfl (j_iaload 11 dX6_group_32 (by first | assumption | rfl) (by first | assumption | rfl) (by omega) (j_iadd dX6_group_33 ?_))))))))
  rw [n1]
  refine j_istore_n (lv' := [(3, _), (0, _), (1, _), (2, _)]) dX6_group_34 rfl (j_iconst (v := 0) dX6_group_35 rfl (j_istore (lv' := [(4, _), (3, _), (0, _), (1, _), (2, _)]) dX6_group_36 rfl ?_))
  have h0 := loop k 0 (by omega)
  rw [show giF c G 0 ρ = I1 203 from n1.symm, fa_self] at h0
  exact JW.locals [0, 1, 2, 3, 4] rfl h0

theorem q_group_b {g : GT} {Z : ZT} {I : IT} {L : LT} {Post : PT} {t : Nat → Nat} {n : Nat} {c : CT} {w : Nat} {ρ : RT} {A : Nat × Nat × (Nat → RT)} {K : (Nat → RT) × (Nat → Bool)} {E : (Nat → Int32) × (Nat → Nat) × (Nat → Nat) × Nat} {sd : Int64} {G x : Int32} (hM : isM Z) (hs : MSt t n c w ρ A K E sd I L) (ho : OKs c w ρ A K E) (hx : ∀ k, 1 ≤ k → k ≤ 9 → x ≠ nI k) (hp : Post (some (.int (-2))) Z I L) : CM g 7 0 0 mX6_group [.ref 198, .int G, .int x] Z I L Post := by
  obtain ⟨m0, f0, f3, f6, f7, f10, f11, f12, f15, f16, f17, f18, f19, f22, f24, k199, l199, k200, l200, k201, l201, k202, l202, k203, l203, k204, l204, k205, l205, k206, l206, k207, l207, k208, l208, k209, l209, k210, l210, k211, l211, k212, l212⟩ := id hM
  have hMo : isMo Z := ⟨m0, f3, f6, f7, k200, l200, k201, l201, k202, l202⟩
  obtain ⟨sT, ⟨sC, s4, s8, s9⟩, sN, sA, sK, sE, sL, sZ⟩ := id hs
  obtain ⟨oC, oW, oN, oA, oK, oE⟩ := id ho
  refine CM_intro ?_
  refine j_iload_n 2 dX6_group_0 rfl (j_i2l dX6_group_1 (j_lconst (v := 1) dX6_group_2 rfl (j_ldc2 (v := 9) dX6_group_3 (List.mem_of_getElem? (i := 840) (by decide +kernel)) (j_S3 dX6_group_6 kX6_68 (c_inB 1 9 (by decide) rfl rfl ⟨fun j hj0 hj e => absurd e (hx j hj0 hj), fun _ => ?_⟩)))))
  refine j_if_ne (tgt := 15) dX6_group_9 rfl (fun h9 => absurd (by decide) h9) (fun _ => (j_bipush (v := -2) dX6_group_12 rfl (j_iret dX6_group_14 ?_)))
  exact hp

theorem q_reset {g : GT} {Z : ZT} {I : IT} {L : LT} {Post : PT} {t : Nat → Nat} {n : Nat} {c : CT} {w : Nat} {ρ : RT} {A : Nat × Nat × (Nat → RT)} {K : (Nat → RT) × (Nat → Bool)} {E : (Nat → Int32) × (Nat → Nat) × (Nat → Nat) × Nat} {sd : Int64}  (hM : isM Z) (hs : MSt t n c w ρ A K E sd I L) (ho : OKs c w ρ A K E)  (hp : ∀ I', MSt t n c w (rsF ρ) (acA A ρ) K E sd I' L → eqC I I' → Post (some (.int (ρ 3))) Z I' L) : CM g 4 0 0 mX6_reset [.ref 198] Z I L Post := by
  obtain ⟨m0, f0, f3, f6, f7, f10, f11, f12, f15, f16, f17, f18, f19, f22, f24, k199, l199, k200, l200, k201, l201, k202, l202, k203, l203, k204, l204, k205, l205, k206, l206, k207, l207, k208, l208, k209, l209, k210, l210, k211, l211, k212, l212⟩ := id hM
  have hMo : isMo Z := ⟨m0, f3, f6, f7, k200, l200, k201, l201, k202, l202⟩
  obtain ⟨sT, ⟨sC, s4, s8, s9⟩, sN, sA, sK, sE, sL, sZ⟩ := id hs
  obtain ⟨oC, oW, oN, oA, oK, oE⟩ := id ho
  refine CM_intro ?_
  refine j_aload_n 0 dX6_reset_0 rfl (j_V0 dX6_reset_1 kX6_203 (by first | assumption | rfl) (c_note hM sA sN (fun I1 e1 e2 hA => ?_)))
  have mc1 : MC I1 c := sC.fr (e2 2 (by decide) (by decide)) (e2 5 (by decide) (by decide)) (fun a _ _ => e1 a (by omega) (by omega))
  have n1 : I1 203 = ρ := (e1 203 (by decide) (by decide)).trans sN
  refine j_aload_n 0 dX6_reset_4 rfl (j_getR (b := 203) dX6_reset_5 fX6_22 rfl (by first | assumption | rfl) (by first | assumption | rfl) (j_iconst (v := 3) dX6_reset_8 rfl (j_iaload 3 dX6_reset_9 (by first | assumption | rfl) (by first | assumption | rfl) (by omega) (j_istore_n (lv' := [(1, _), (0, _)]) dX6_reset_10 rfl (j_aload_n 1 dX6_reset_11 rfl (j_getR (b := 203) dX6_reset_12 fX6_22 rfl (by first | assumption | rfl) (by first | assumption | rfl) (j_S1 dX6_reset_15 kX6_209 (c_resetOn k203 l203 ?_))))))))
  rw [n1]
  refine j_iload_n 0 dX6_reset_18 rfl (j_iret dX6_reset_19 ?_)
  exact hp _ (hs.now2 e1 e2 hA) (eqC.now2 e1 _)

theorem q_undo_l {g : GT} {Z : ZT} {I : IT} {L : LT} {Post : PT} {t : Nat → Nat} {n : Nat} {c : CT} {w : Nat} {ρ : RT} {A : Nat × Nat × (Nat → RT)} {K : (Nat → RT) × (Nat → Bool)} {E : (Nat → Int32) × (Nat → Nat) × (Nat → Nat) × Nat} {sd : Int64}  (hM : isM Z) (hs : MSt t n c w ρ A K E sd I L) (ho : OKs c w ρ A K E) (h0 : A.2.1 = 0) (hp : Post (some (.int (-3))) Z I L) : CM g 0 0 0 mX6_undo [.ref 198] Z I L Post := by
  obtain ⟨m0, f0, f3, f6, f7, f10, f11, f12, f15, f16, f17, f18, f19, f22, f24, k199, l199, k200, l200, k201, l201, k202, l202, k203, l203, k204, l204, k205, l205, k206, l206, k207, l207, k208, l208, k209, l209, k210, l210, k211, l211, k212, l212⟩ := id hM
  have hMo : isMo Z := ⟨m0, f3, f6, f7, k200, l200, k201, l201, k202, l202⟩
  obtain ⟨sT, ⟨sC, s4, s8, s9⟩, sN, sA, sK, sE, sL, sZ⟩ := id hs
  obtain ⟨oC, oW, oN, oA, oK, oE⟩ := id ho
  refine CM_intro ?_
  have e13 := sA.2.2.2.1
  refine j_aload_n 0 dX6_undo_0 rfl (j_getI dX6_undo_1 fX6_118 (by first | assumption | rfl) (j_if_ne (tgt := 10) dX6_undo_4 rfl (fun g1 => ?_) (fun g1 => ?_)))
  · rw [e13, h0] at g1
    exact absurd rfl g1
  · refine j_bipush (v := -3) dX6_undo_7 rfl (j_iret dX6_undo_9 ?_)
    exact hp

theorem z_of {ρ σ f : RT} (b : Nat) (h : ∀ k, k < 47 → f (b + k) = σ k) (h1 : Z47 ρ) (h2 : Z47 σ) : (fun k => if k < 47 then f (b + k) else ρ k) = σ := by
  funext k
  by_cases hk : k < 47
  · rw [if_pos hk]; exact h k hk
  · rw [if_neg hk, h1 k (by omega), h2 k (by omega)]
theorem mix_s (f ρ : RT) (b k : Nat) : upd (fun j => if j < k then f (b + j) else ρ j) k (f (b + k)) = fun j => if j < k + 1 then f (b + j) else ρ j := by
  funext j
  rw [upd_app]
  by_cases e : j = k
  · subst e
    rw [if_pos rfl, if_pos (by omega)]
  · rw [if_neg e]
    by_cases h : j < k
    · rw [if_pos h, if_pos (by omega)]
    · rw [if_neg h, if_neg (by omega)]
theorem mix_0 (f ρ : RT) (b : Nat) : (fun j => if j < 0 then f (b + j) else ρ j) = ρ := funext (fun j => if_neg (by omega))
theorem q_undo {g : GT} {Z : ZT} {I : IT} {L : LT} {Post : PT} {t : Nat → Nat} {n : Nat} {c : CT} {w : Nat} {ρ : RT} {A : Nat × Nat × (Nat → RT)} {K : (Nat → RT) × (Nat → Bool)} {E : (Nat → Int32) × (Nat → Nat) × (Nat → Nat) × Nat} {sd : Int64}  (hM : isM Z) (hs : MSt t n c w ρ A K E sd I L) (ho : OKs c w ρ A K E) (h0 : 0 < A.2.1) (hp : ∀ I', MSt t n c w (A.2.2 ((A.1 + 13) % 14)) ((A.1 + 13) % 14, A.2.1 - 1, A.2.2) K E sd I' L → eqC I I' → Post (some (.int (nI (A.2.1 - 1)))) Z I' L) : CM g 0 0 0 mX6_undo [.ref 198] Z I L Post := by
  obtain ⟨m0, f0, f3, f6, f7, f10, f11, f12, f15, f16, f17, f18, f19, f22, f24, k199, l199, k200, l200, k201, l201, k202, l202, k203, l203, k204, l204, k205, l205, k206, l206, k207, l207, k208, l208, k209, l209, k210, l210, k211, l211, k212, l212⟩ := id hM
  have hMo : isMo Z := ⟨m0, f3, f6, f7, k200, l200, k201, l201, k202, l202⟩
  obtain ⟨sT, ⟨sC, s4, s8, s9⟩, sN, sA, sK, sE, sL, sZ⟩ := id hs
  obtain ⟨oC, oW, oN, oA, oK, oE⟩ := id ho
  refine CM_intro ?_
  obtain ⟨hnx, hac, e14, e13, hd⟩ := id sA
  have oz : OKz c (A.2.2 ((A.1 + 13) % 14)) := oA 0 h0
  have I1d : ∀ a, a ≠ 198 → upI (upI I 198 13 (nI (A.2.1 - 1))) 198 14 (nI ((A.1 + 13) % 14)) a = I a := fun a h => by rw [upI_n h, upI_n h]
  have loop : ∀ (m k : Nat), k + m = 47 → JW g mX6_undo (rmO 0 0 0) (QM Post 0 0) 38 [(1, .int (nI k)), (0, .ref 198)] [] 0 0 Z (upR (upI (upI I 198 13 (nI (A.2.1 - 1))) 198 14 (nI ((A.1 + 13) % 14))) 203 (fun j => if j < k then I 205 (47 * ((A.1 + 13) % 14) + j) else ρ j)) L := by
    intro m
    induction m with
    | zero =>
      intro k hk
      have : k = 47 := by omega
      subst this
      refine j_iload_n 0 dX6_undo_38 rfl (j_bipush (v := 47) dX6_undo_39 rfl (j_icmp_ge (tgt := 70) dX6_undo_41 rfl (fun g1 => ?_) (fun g1 => ?_)))
      · refine j_aload_n 1 dX6_undo_70 rfl (j_getI dX6_undo_71 fX6_118 (by first | assumption | rfl) (j_iret dX6_undo_74 ?_))
        rw [upR_n (show 198 ≠ 203 by decide), upI_s, upd_n (show 13 ≠ 14 by decide), upI_s, upd_s, z_of (47 * ((A.1 + 13) % 14)) (hd 0 h0) oN.2 oz.2]
        refine hp _ ⟨sT.up (by rw [upR_n (by decide), upI_s, upd_n (by decide), upI_s, upd_n (by decide)]) (by rw [upR_n (by decide), I1d _ (by decide)]), hs.2.1.fr (fun j hj => by rw [upR_n (by decide), upI_s, upd_n (by omega), upI_s, upd_n (by omega)]) (fun a _ _ => by rw [upR_n (by omega), I1d _ (by omega)]), upR_s _ _ _, ⟨Nat.mod_lt _ (by decide), by show A.2.1 - 1 ≤ 14; omega, by rw [upR_n (by decide), upI_s, upd_s], by rw [upR_n (by decide), upI_s, upd_n (by decide), upI_s, upd_s], ?_⟩, sK.fr (by rw [upR_n (by decide), I1d _ (by decide)]) (by rw [upR_n (by decide), I1d _ (by decide)]), sE.fr (by rw [upR_n (by decide), upI_s, upd_n (by decide), upI_s, upd_n (by decide)]) (by rw [upR_n (by decide), I1d _ (by decide)]) (by rw [upR_n (by decide), I1d _ (by decide)]) (by rw [upR_n (by decide), I1d _ (by decide)]), sL, by rw [upR_n (by decide), I1d _ (by decide)]; exact sZ⟩ (fun a ha => by rw [upR_n (by omega), I1d _ (by omega)])
        intro j hj k hk
        have hj : j < A.2.1 - 1 := hj
        have e : ((A.1 + 13) % 14 + 13 - j) % 14 = (A.1 + 13 - (j + 1)) % 14 := by omega
        show upR _ 203 _ 205 (47 * (((A.1 + 13) % 14 + 13 - j) % 14) + k) = A.2.2 (((A.1 + 13) % 14 + 13 - j) % 14) k
        rw [upR_n (by decide), I1d _ (by decide), e]
        exact hd (j + 1) (by omega) k hk
      · exact absurd (by decide) g1
    | succ m ih =>
      intro k hk
      have hi := ih (k + 1) (by omega)
      rw [← mix_s] at hi
      refine j_iload_n 0 dX6_undo_38 rfl (j_bipush (v := 47) dX6_undo_39 rfl (j_icmp_ge (tgt := 70) dX6_undo_41 rfl (fun g1 => ?_) (fun g1 => ?_)))
      · exact absurd g1 (nI_ge (b := 47) (by omega) (by decide))
      · refine j_aload_n 1 dX6_undo_44 rfl (j_getR (b := 203) dX6_undo_45 fX6_22 rfl (by first | assumption | rfl) (by first | assumption | rfl) (j_iload_n 0 dX6_undo_48 rfl (j_aload_n 1 dX6_undo_49 rfl (j_getR (b := 205) dX6_undo_50 fX6_28 rfl (by first | assumption | rfl) (by first | assumption | rfl) (j_bipush (v := 47) dX6_undo_53 rfl (j_aload_n 1 dX6_undo_55 rfl (j_getI dX6_undo_56 fX6_198 (by first | assumption | rfl) (j_imul dX6_undo_59 (j_iload_n 0 dX6_undo_60 rfl (j_iadd dX6_undo_61 ?_))))))))))
        rw [upR_n (show 198 ≠ 203 by decide), upI_s, upd_s, show (47 : Int32) = nI 47 from rfl, pk_mul, nI_add]
        refine j_iaload (47 * ((A.1 + 13) % 14) + k) dX6_undo_62 (by first | assumption | rfl) (by first | assumption | rfl) (by omega) (j_iastore k dX6_undo_63 (by first | assumption | rfl) (by first | assumption | rfl) (by omega) (j_iinc (y := 1) (lv' := [(1, _), (0, _)]) 0 dX6_undo_64 rfl rfl rfl (j_goto (tgt := 38) dX6_undo_67 rfl ?_)))
        rw [nI_1, upI, upR_R, upR_s, upR_n (show 205 ≠ 203 by decide), I1d _ (by decide)]
        exact JW.locals [0, 1] rfl hi
  have h0' := loop 47 0 rfl
  rw [mix_0, show ρ = upI (upI I 198 13 (nI (A.2.1 - 1))) 198 14 (nI ((A.1 + 13) % 14)) 203 from by rw [I1d _ (by decide)]; exact sN.symm, fa_self] at h0'
  refine j_aload_n 0 dX6_undo_0 rfl (j_getI dX6_undo_1 fX6_118 (by first | assumption | rfl) (j_if_ne (tgt := 10) dX6_undo_4 rfl (fun g1 => ?_) (fun g1 => ?_)))
  · refine j_aload_n 0 dX6_undo_10 rfl (j_dup dX6_undo_11 rfl (j_getI dX6_undo_12 fX6_118 (by first | assumption | rfl) (j_iconst (v := 1) dX6_undo_15 rfl (j_isub dX6_undo_16 ?_))))
    rw [e13, show nI A.2.1 - (1 : Int32) = nI (A.2.1 - 1) from pk_sub (b := 1) h0]
    refine j_putI dX6_undo_17 fX6_118 (by first | assumption | rfl) (j_aload_n 0 dX6_undo_20 rfl (j_aload_n 0 dX6_undo_21 rfl (j_getI dX6_undo_22 fX6_198 (by first | assumption | rfl) (j_bipush (v := 14) dX6_undo_25 rfl (j_iadd dX6_undo_27 (j_iconst (v := 1) dX6_undo_28 rfl (j_isub dX6_undo_29 (j_bipush (v := 14) dX6_undo_30 rfl (j_irem dX6_undo_32 (by decide) ?_)))))))))
    rw [upI_s, upd_n (show 14 ≠ 13 by decide), e14, show nI A.1 + (14 : Int32) - 1 = nI (A.1 + 13) from by rw [show (14 : Int32) = nI 14 from rfl, nI_add]; exact pk_sub (b := 1) (by omega), show (14 : Int32) = nI 14 from rfl, remI (by omega) (by decide) (by decide)]
    refine j_putI dX6_undo_33 fX6_198 (by first | assumption | rfl) (j_iconst (v := 0) dX6_undo_36 rfl (j_istore_n (lv' := [(1, _), (0, _)]) dX6_undo_37 rfl ?_))
    exact JW.locals [0, 1] rfl h0'
  · rw [e13] at g1
    exact absurd (nI_inj (b := 0) (by omega) (by decide) g1) (by omega)

theorem q_keep {g : GT} {Z : ZT} {I : IT} {L : LT} {Post : PT} {t : Nat → Nat} {n : Nat} {c : CT} {w : Nat} {ρ : RT} {A : Nat × Nat × (Nat → RT)} {K : (Nat → RT) × (Nat → Bool)} {E : (Nat → Int32) × (Nat → Nat) × (Nat → Nat) × Nat} {sd : Int64} {k : Nat} (hM : isM Z) (hs : MSt t n c w ρ A K E sd I L) (ho : OKs c w ρ A K E) (hk : k < 2) (hp : ∀ I', MSt t n c w ρ A (kpK K k ρ) E sd I' L → eqC I I' → Post (some (.int (ρ 0))) Z I' L) : CM g 1 0 0 mX6_keep [.ref 198, .int (nI k)] Z I L Post := by
  obtain ⟨m0, f0, f3, f6, f7, f10, f11, f12, f15, f16, f17, f18, f19, f22, f24, k199, l199, k200, l200, k201, l201, k202, l202, k203, l203, k204, l204, k205, l205, k206, l206, k207, l207, k208, l208, k209, l209, k210, l210, k211, l211, k212, l212⟩ := id hM
  have hMo : isMo Z := ⟨m0, f3, f6, f7, k200, l200, k201, l201, k202, l202⟩
  obtain ⟨sT, ⟨sC, s4, s8, s9⟩, sN, sA, sK, sE, sL, sZ⟩ := id hs
  obtain ⟨oC, oW, oN, oA, oK, oE⟩ := id ho
  refine CM_intro ?_
  have I1d : ∀ a, a ≠ 207 → upI I 207 k 1 a = I a := fun a h => by rw [upI_n h]
  have loop : ∀ (m j : Nat), j + m = 47 → JW g mX6_keep (rmO 1 0 0) (QM Post 0 0) 21 [(2, .int (nI j)), (0, .ref 198), (1, .int (nI k))] [] 0 0 Z (upR (upI I 207 k 1) 206 (dwF (I 206) (47 * k) ρ j)) L := by
    intro m
    induction m with
    | zero =>
      intro j hj
      have : j = 47 := by omega
      subst this
      refine j_iload_n 0 dX6_keep_21 rfl (j_bipush (v := 47) dX6_keep_22 rfl (j_icmp_ge (tgt := 50) dX6_keep_24 rfl (fun g1 => ?_) (fun g1 => ?_)))
      · refine j_aload_n 1 dX6_keep_50 rfl (j_getR (b := 203) dX6_keep_51 fX6_22 rfl (by first | assumption | rfl) (by first | assumption | rfl) (j_iconst (v := 0) dX6_keep_54 rfl (j_iaload 0 dX6_keep_55 (by first | assumption | rfl) (by first | assumption | rfl) (by omega) (j_iret dX6_keep_56 ?_))))
        rw [upR_n (show 203 ≠ 206 by decide), I1d _ (by decide), sN]
        refine hp _ ⟨sT.up (by rw [upR_n (by decide), I1d _ (by decide)]) (by rw [upR_n (by decide), I1d _ (by decide)]), hs.2.1.fr (fun j hj => by rw [upR_n (by decide), I1d _ (by decide)]) (fun a _ _ => by rw [upR_n (by omega), I1d _ (by omega)]), by rw [upR_n (by decide), I1d _ (by decide)]; exact sN, sA.fr (by rw [upR_n (by decide), I1d _ (by decide)]) (by rw [upR_n (by decide), I1d _ (by decide)]) (by rw [upR_n (by decide), I1d _ (by decide)]), ?_, sE.fr (by rw [upR_n (by decide), I1d _ (by decide)]) (by rw [upR_n (by decide), I1d _ (by decide)]) (by rw [upR_n (by decide), I1d _ (by decide)]) (by rw [upR_n (by decide), I1d _ (by decide)]), sL, by rw [upR_n (by decide), I1d _ (by decide)]; exact sZ⟩ (fun a ha => by rw [upR_n (by omega), I1d _ (by omega)])
        intro i hi
        unfold kpK dnU
        rw [upR_n (show 207 ≠ 206 by decide), upI_s, upd_app, upR_s]
        by_cases e : i = k
        · subst e
          refine ⟨by simp, fun _ q hq => ?_⟩
          show dwF (I 206) (47 * i) ρ 47 (47 * i + q) = (if i = i then ρ else K.1 i) q
          rw [if_pos rfl, dw_i hq]
        · have hKi := sK i hi
          refine ⟨?_, fun h q hq => ?_⟩
          · rw [if_neg e, hKi.1]
            simp [e]
          · have h : (if i = k then true else K.2 i) = true := h
            rw [if_neg e] at h
            show dwF (I 206) (47 * k) ρ 47 (47 * i + q) = (if i = k then ρ else K.1 i) q
            rw [if_neg e, dw_o (by omega)]
            exact hKi.2 h q hq
      · exact absurd (by decide) g1
    | succ m ih =>
      intro j hj
      have hi := ih (j + 1) (by omega)
      rw [← dw_s] at hi
      refine j_iload_n 0 dX6_keep_21 rfl (j_bipush (v := 47) dX6_keep_22 rfl (j_icmp_ge (tgt := 50) dX6_keep_24 rfl (fun g1 => ?_) (fun g1 => ?_)))
      · exact absurd g1 (nI_ge (b := 47) (by omega) (by decide))
      · refine j_aload_n 1 dX6_keep_27 rfl (j_getR (b := 206) dX6_keep_28 fX6_31 rfl (by first | assumption | rfl) (by first | assumption | rfl) (j_bipush (v := 47) dX6_keep_31 rfl (j_iload_n 2 dX6_keep_33 rfl (j_imul dX6_keep_34 (j_iload_n 0 dX6_keep_35 rfl (j_iadd dX6_keep_36 (j_aload_n 1 dX6_keep_37 rfl (j_getR (b := 203) dX6_keep_38 fX6_22 rfl (by first | assumption | rfl) (by first | assumption | rfl) (j_iload_n 0 dX6_keep_41 rfl (j_iaload j dX6_keep_42 (by first | assumption | rfl) (by first | assumption | rfl) (by omega) ?_))))))))))
        rw [show (47 : Int32) = nI 47 from rfl, pk_mul, nI_add, upR_n (show 203 ≠ 206 by decide), I1d _ (by decide), sN]
        refine j_iastore (47 * k + j) dX6_keep_43 (by first | assumption | rfl) (by first | assumption | rfl) (by omega) (j_iinc (y := 1) (lv' := [(2, _), (0, _), (1, _)]) 0 dX6_keep_44 rfl rfl rfl (j_goto (tgt := 21) dX6_keep_47 rfl ?_))
        rw [nI_1, upI, upR_R, upR_s]
        exact JW.locals [0, 1, 2] rfl hi
  have h0 := loop 47 0 rfl
  rw [dw_0, show I 206 = upI I 207 k 1 206 from (I1d _ (by decide)).symm, fa_self] at h0
  refine j_iload_n 1 dX6_keep_0 rfl (j_i2l dX6_keep_1 (j_lconst (v := 0) dX6_keep_2 rfl (j_lconst (v := 1) dX6_keep_3 rfl (j_S3 dX6_keep_4 kX6_68 (c_inB 0 1 (by decide) rfl rfl ⟨fun _ _ _ _ => ?_, fun h => absurd rfl (h k (by omega) (by omega))⟩)))))
  refine j_if_ne (tgt := 12) dX6_keep_7 rfl (fun _ => (j_aload_n 0 dX6_keep_12 rfl (j_getR (b := 207) dX6_keep_13 fX6_34 rfl (by first | assumption | rfl) (by first | assumption | rfl) (j_iload_n 1 dX6_keep_16 rfl (j_iconst (v := 1) dX6_keep_17 rfl (j_bastore k dX6_keep_18 (by first | assumption | rfl) (by decide) (by first | assumption | rfl) (by omega) (j_iconst (v := 0) dX6_keep_19 rfl (j_istore_n (lv' := [(2, _), (0, _), (1, _)]) dX6_keep_20 rfl ?_)))))))) (fun h9 => absurd h9 (by decide))
  exact JW.locals [0, 1, 2] rfl h0

theorem q_keep_u {g : GT} {Z : ZT} {I : IT} {L : LT} {Post : PT} {t : Nat → Nat} {n : Nat} {c : CT} {w : Nat} {ρ : RT} {A : Nat × Nat × (Nat → RT)} {K : (Nat → RT) × (Nat → Bool)} {E : (Nat → Int32) × (Nat → Nat) × (Nat → Nat) × Nat} {sd : Int64} {x : Int32} (hM : isM Z) (hs : MSt t n c w ρ A K E sd I L) (ho : OKs c w ρ A K E) (hx : ∀ j, j < 2 → x ≠ nI j) (hp : Post (some (.int (-1))) Z I L) : CM g 1 0 0 mX6_keep [.ref 198, .int x] Z I L Post := by
  obtain ⟨m0, f0, f3, f6, f7, f10, f11, f12, f15, f16, f17, f18, f19, f22, f24, k199, l199, k200, l200, k201, l201, k202, l202, k203, l203, k204, l204, k205, l205, k206, l206, k207, l207, k208, l208, k209, l209, k210, l210, k211, l211, k212, l212⟩ := id hM
  have hMo : isMo Z := ⟨m0, f3, f6, f7, k200, l200, k201, l201, k202, l202⟩
  obtain ⟨sT, ⟨sC, s4, s8, s9⟩, sN, sA, sK, sE, sL, sZ⟩ := id hs
  obtain ⟨oC, oW, oN, oA, oK, oE⟩ := id ho
  refine CM_intro ?_
  refine j_iload_n 1 dX6_keep_0 rfl (j_i2l dX6_keep_1 (j_lconst (v := 0) dX6_keep_2 rfl (j_lconst (v := 1) dX6_keep_3 rfl (j_S3 dX6_keep_4 kX6_68 (c_inB 0 1 (by decide) rfl rfl ⟨fun j hj0 hj e => absurd e (hx j (by omega)), fun _ => ?_⟩)))))
  refine j_if_ne (tgt := 12) dX6_keep_7 rfl (fun h9 => absurd (by decide) h9) (fun _ => (j_iconst (v := -1) dX6_keep_10 rfl (j_iret dX6_keep_11 ?_)))
  exact hp

theorem q_again_u {g : GT} {Z : ZT} {I : IT} {L : LT} {Post : PT} {t : Nat → Nat} {n : Nat} {c : CT} {w : Nat} {ρ : RT} {A : Nat × Nat × (Nat → RT)} {K : (Nat → RT) × (Nat → Bool)} {E : (Nat → Int32) × (Nat → Nat) × (Nat → Nat) × Nat} {sd : Int64} {x : Int32} (hM : isM Z) (hs : MSt t n c w ρ A K E sd I L) (ho : OKs c w ρ A K E) (hx : ∀ j, j < 2 → x ≠ nI j) (hp : Post (some (.int (-1))) Z I L) : CM g 1 0 0 mX6_again [.ref 198, .int x] Z I L Post := by
  obtain ⟨m0, f0, f3, f6, f7, f10, f11, f12, f15, f16, f17, f18, f19, f22, f24, k199, l199, k200, l200, k201, l201, k202, l202, k203, l203, k204, l204, k205, l205, k206, l206, k207, l207, k208, l208, k209, l209, k210, l210, k211, l211, k212, l212⟩ := id hM
  have hMo : isMo Z := ⟨m0, f3, f6, f7, k200, l200, k201, l201, k202, l202⟩
  obtain ⟨sT, ⟨sC, s4, s8, s9⟩, sN, sA, sK, sE, sL, sZ⟩ := id hs
  obtain ⟨oC, oW, oN, oA, oK, oE⟩ := id ho
  refine CM_intro ?_
  refine j_iload_n 1 dX6_again_0 rfl (j_i2l dX6_again_1 (j_lconst (v := 0) dX6_again_2 rfl (j_lconst (v := 1) dX6_again_3 rfl (j_S3 dX6_again_4 kX6_68 (c_inB 0 1 (by decide) rfl rfl ⟨fun j hj0 hj e => absurd e (hx j (by omega)), fun _ => ?_⟩)))))
  refine j_if_ne (tgt := 12) dX6_again_7 rfl (fun h9 => absurd (by decide) h9) (fun _ => (j_iconst (v := -1) dX6_again_10 rfl (j_iret dX6_again_11 ?_)))
  exact hp

theorem q_again_l {g : GT} {Z : ZT} {I : IT} {L : LT} {Post : PT} {t : Nat → Nat} {n : Nat} {c : CT} {w : Nat} {ρ : RT} {A : Nat × Nat × (Nat → RT)} {K : (Nat → RT) × (Nat → Bool)} {E : (Nat → Int32) × (Nat → Nat) × (Nat → Nat) × Nat} {sd : Int64} {k : Nat} (hM : isM Z) (hs : MSt t n c w ρ A K E sd I L) (ho : OKs c w ρ A K E) (hk : k < 2) (hb : K.2 k = false) (hp : Post (some (.int (-3))) Z I L) : CM g 1 0 0 mX6_again [.ref 198, .int (nI k)] Z I L Post := by
  obtain ⟨m0, f0, f3, f6, f7, f10, f11, f12, f15, f16, f17, f18, f19, f22, f24, k199, l199, k200, l200, k201, l201, k202, l202, k203, l203, k204, l204, k205, l205, k206, l206, k207, l207, k208, l208, k209, l209, k210, l210, k211, l211, k212, l212⟩ := id hM
  have hMo : isMo Z := ⟨m0, f3, f6, f7, k200, l200, k201, l201, k202, l202⟩
  obtain ⟨sT, ⟨sC, s4, s8, s9⟩, sN, sA, sK, sE, sL, sZ⟩ := id hs
  obtain ⟨oC, oW, oN, oA, oK, oE⟩ := id ho
  refine CM_intro ?_
  have hKk := (sK k hk).1
  rw [hb, if_neg (by decide)] at hKk
  refine j_iload_n 1 dX6_again_0 rfl (j_i2l dX6_again_1 (j_lconst (v := 0) dX6_again_2 rfl (j_lconst (v := 1) dX6_again_3 rfl (j_S3 dX6_again_4 kX6_68 (c_inB 0 1 (by decide) rfl rfl ⟨fun _ _ _ _ => ?_, fun h => absurd rfl (h k (by omega) (by omega))⟩)))))
  refine j_if_ne (tgt := 12) dX6_again_7 rfl (fun _ => (j_aload_n 0 dX6_again_12 rfl (j_getR (b := 207) dX6_again_13 fX6_34 rfl (by first | assumption | rfl) (by first | assumption | rfl) (j_iload_n 1 dX6_again_16 rfl (j_baload k dX6_again_17 (by first | assumption | rfl) (by first | assumption | rfl) (by omega) (j_if_ne (tgt := 24) dX6_again_18 rfl (fun g1 => ?_) (fun g1 => ?_))))))) (fun h9 => absurd h9 (by decide))
  · exact absurd hKk g1
  · refine j_bipush (v := -3) dX6_again_21 rfl (j_iret dX6_again_23 ?_)
    exact hp

theorem q_again {g : GT} {Z : ZT} {I : IT} {L : LT} {Post : PT} {t : Nat → Nat} {n : Nat} {c : CT} {w : Nat} {ρ : RT} {A : Nat × Nat × (Nat → RT)} {K : (Nat → RT) × (Nat → Bool)} {E : (Nat → Int32) × (Nat → Nat) × (Nat → Nat) × Nat} {sd : Int64} {k : Nat} (hM : isM Z) (hs : MSt t n c w ρ A K E sd I L) (ho : OKs c w ρ A K E) (hk : k < 2) (hb : K.2 k = true) (hp : ∀ I', MSt t n c w (K.1 k) (A.1, 0, A.2.2) K E sd I' L → eqC I I' → Post (some (.int (K.1 k 0))) Z I' L) : CM g 1 0 0 mX6_again [.ref 198, .int (nI k)] Z I L Post := by
  obtain ⟨m0, f0, f3, f6, f7, f10, f11, f12, f15, f16, f17, f18, f19, f22, f24, k199, l199, k200, l200, k201, l201, k202, l202, k203, l203, k204, l204, k205, l205, k206, l206, k207, l207, k208, l208, k209, l209, k210, l210, k211, l211, k212, l212⟩ := id hM
  have hMo : isMo Z := ⟨m0, f3, f6, f7, k200, l200, k201, l201, k202, l202⟩
  obtain ⟨sT, ⟨sC, s4, s8, s9⟩, sN, sA, sK, sE, sL, sZ⟩ := id hs
  obtain ⟨oC, oW, oN, oA, oK, oE⟩ := id ho
  refine CM_intro ?_
  have hKk := (sK k hk).1
  rw [hb, if_pos rfl] at hKk
  have hKr := (sK k hk).2 hb
  have oz := oK k hk hb
  have loop : ∀ (m j : Nat), j + m = 47 → JW g mX6_again (rmO 1 0 0) (QM Post 0 0) 26 [(2, .int (nI j)), (0, .ref 198), (1, .int (nI k))] [] 0 0 Z (upR I 203 (fun q => if q < j then I 206 (47 * k + q) else ρ q)) L := by
    intro m
    induction m with
    | zero =>
      intro j hj
      have : j = 47 := by omega
      subst this
      rw [z_of (47 * k) hKr oN.2 oz.2]
      refine j_iload_n 0 dX6_again_26 rfl (j_bipush (v := 47) dX6_again_27 rfl (j_icmp_ge (tgt := 55) dX6_again_29 rfl (fun g1 => ?_) (fun g1 => ?_)))
      · refine j_aload_n 1 dX6_again_55 rfl (j_iconst (v := 0) dX6_again_56 rfl (j_putI dX6_again_57 fX6_118 (by first | assumption | rfl) (j_aload_n 1 dX6_again_60 rfl (j_getR (b := 203) dX6_again_61 fX6_22 rfl (by first | assumption | rfl) (by first | assumption | rfl) (j_iconst (v := 0) dX6_again_64 rfl (j_iaload 0 dX6_again_65 (by first | assumption | rfl) (by first | assumption | rfl) (by omega) (j_iret dX6_again_66 ?_)))))))
        rw [upI_n (show 203 ≠ 198 by decide), upR_s]
        exact hp _ ⟨sT.up (by rw [upI_s, upd_n (by decide), upR_n (by decide)]) (by rw [upI_n (by decide), upR_n (by decide)]), hs.2.1.fr (fun j hj => by rw [upI_s, upd_n (by omega), upR_n (by decide)]) (fun a _ _ => by rw [upI_n (by omega), upR_n (by omega)]), by rw [upI_n (by decide), upR_s], ⟨sA.1, Nat.zero_le _, by rw [upI_s, upd_n (by decide), upR_n (by decide)]; exact sA.2.2.1, by rw [upI_s, upd_s]; rfl, fun j hj => absurd hj (Nat.not_lt_zero _)⟩, sK.fr (by rw [upI_n (by decide), upR_n (by decide)]) (by rw [upI_n (by decide), upR_n (by decide)]), sE.fr (by rw [upI_s, upd_n (by decide), upR_n (by decide)]) (by rw [upI_n (by decide), upR_n (by decide)]) (by rw [upI_n (by decide), upR_n (by decide)]) (by rw [upI_n (by decide), upR_n (by decide)]), sL, by rw [upI_n (by decide), upR_n (by decide)]; exact sZ⟩ (fun a ha => by rw [upI_n (by omega), upR_n (by omega)])
      · exact absurd (by decide) g1
    | succ m ih =>
      intro j hj
      have hi := ih (j + 1) (by omega)
      rw [← mix_s] at hi
      refine j_iload_n 0 dX6_again_26 rfl (j_bipush (v := 47) dX6_again_27 rfl (j_icmp_ge (tgt := 55) dX6_again_29 rfl (fun g1 => ?_) (fun g1 => ?_)))
      · exact absurd g1 (nI_ge (b := 47) (by omega) (by decide))
      · refine j_aload_n 1 dX6_again_32 rfl (j_getR (b := 203) dX6_again_33 fX6_22 rfl (by first | assumption | rfl) (by first | assumption | rfl) (j_iload_n 0 dX6_again_36 rfl (j_aload_n 1 dX6_again_37 rfl (j_getR (b := 206) dX6_again_38 fX6_31 rfl (by first | assumption | rfl) (by first | assumption | rfl) (j_bipush (v := 47) dX6_again_41 rfl (j_iload_n 2 dX6_again_43 rfl (j_imul dX6_again_44 (j_iload_n 0 dX6_again_45 rfl (j_iadd dX6_again_46 ?_)))))))))
        rw [show (47 : Int32) = nI 47 from rfl, pk_mul, nI_add]
        refine j_iaload (47 * k + j) dX6_again_47 (by first | assumption | rfl) (by first | assumption | rfl) (by omega) (j_iastore j dX6_again_48 (by first | assumption | rfl) (by first | assumption | rfl) (by omega) (j_iinc (y := 1) (lv' := [(2, _), (0, _), (1, _)]) 0 dX6_again_49 rfl rfl rfl (j_goto (tgt := 26) dX6_again_52 rfl ?_)))
        rw [nI_1, upI, upR_R, upR_s, upR_n (show 206 ≠ 203 by decide)]
        exact JW.locals [0, 1, 2] rfl hi
  have h0' := loop 47 0 rfl
  rw [mix_0, show ρ = I 203 from sN.symm, fa_self] at h0'
  refine j_iload_n 1 dX6_again_0 rfl (j_i2l dX6_again_1 (j_lconst (v := 0) dX6_again_2 rfl (j_lconst (v := 1) dX6_again_3 rfl (j_S3 dX6_again_4 kX6_68 (c_inB 0 1 (by decide) rfl rfl ⟨fun _ _ _ _ => ?_, fun h => absurd rfl (h k (by omega) (by omega))⟩)))))
  refine j_if_ne (tgt := 12) dX6_again_7 rfl (fun _ => (j_aload_n 0 dX6_again_12 rfl (j_getR (b := 207) dX6_again_13 fX6_34 rfl (by first | assumption | rfl) (by first | assumption | rfl) (j_iload_n 1 dX6_again_16 rfl (j_baload k dX6_again_17 (by first | assumption | rfl) (by first | assumption | rfl) (by omega) (j_if_ne (tgt := 24) dX6_again_18 rfl (fun g1 => ?_) (fun g1 => ?_))))))) (fun h9 => absurd h9 (by decide))
  · refine j_iconst (v := 0) dX6_again_24 rfl (j_istore_n (lv' := [(2, _), (0, _), (1, _)]) dX6_again_25 rfl ?_)
    exact JW.locals [0, 1, 2] rfl h0'
  · rw [hKk] at g1
    exact absurd g1 (by decide)

