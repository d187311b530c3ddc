theorem og_lt {gn : Nat} (h : gn < 64) : 64 ||| gn < 128 := Nat.or_lt_two_pow (n := 7) (by decide) (by omega)
theorem c_left {g : GT} {Z : ZT} {I : IT} {L : LT} {Post : PT} {gn n : Nat} (hK : zK Z 198 = 6) (hg : I 198 2 = nI gn) (hgn : gn < 64) (hn : n < 16384) (hp : Post (some (.int (nI (lfN gn n)))) Z I L) : CM g 1 0 0 mX6_left [.ref 198, .int (nI n)] Z I L Post := by
  refine CM_intro ?_
  have loop : ∀ (j rest : Nat), j ≤ 8 → rest < 2 ^ (j + 6) → lfL gn j rest = lfN gn n → JW g mX6_left (rmO 1 0 0) (QM Post 0 0) 5 [(3, .int (nI (j + 5))), (2, .int (nI rest)), (0, .ref 198), (1, .int (nI n))] [] 0 0 Z I L := by
    intro j
    induction j with
    | zero =>
      intro rest _ hr e
      refine j_iload_n 0 dX6_left_5 rfl (j_iconst (v := 5) dX6_left_6 rfl (j_icmp_le (tgt := 39) dX6_left_7 rfl (fun h1 => ?_) (fun h1 => ?_)))
      · refine j_iload_n 1 dX6_left_39 rfl (j_iret dX6_left_40 ?_)
        rw [← e] at hp
        exact hp
      · exact absurd (by decide) h1
    | succ j ih =>
      intro rest hj hr e
      have hr2 : rest < 2 ^ 31 := Nat.lt_of_lt_of_le hr (Nat.pow_le_pow_right (by decide) (by omega))
      have e1 : nI (j + 1 + 5) + -1 = nI (j + 5) := pk_m1 (j + 5)
      have hlt : lfS gn (j + 6) rest < 2 ^ (j + 6) := lfS_lt hgn (by omega) (by rw [show j + 6 + 1 = j + 1 + 6 by omega]; exact hr)
      refine j_iload_n 0 dX6_left_5 rfl (j_iconst (v := 5) dX6_left_6 rfl (j_icmp_le (tgt := 39) dX6_left_7 rfl (fun h1 => ?_) (fun h1 => ?_)))
      · exact absurd h1 (nI_ge (show 5 < j + 1 + 5 by omega) (by omega))
      · refine j_iload_n 1 dX6_left_10 rfl (j_iload_n 0 dX6_left_11 rfl (j_S2 dX6_left_12 kX6_72 (c_has hr2 (by omega) (fun hb => ?_) (fun hb => ?_))))
        · refine j_if_eq (tgt := 33) dX6_left_15 rfl (fun h2 => ?_) (fun h2 => ?_)
          · exact absurd h2 (by decide)
          · refine j_iload_n 1 dX6_left_18 rfl (j_bipush (v := 64) dX6_left_19 rfl (j_aload_n 2 dX6_left_21 rfl (j_getI dX6_left_22 fX6_53 (by first | assumption | rfl) (j_ior dX6_left_25 (j_iload_n 0 dX6_left_26 rfl (j_bipush (v := 6) dX6_left_27 rfl (j_isub dX6_left_29 (j_ishl dX6_left_30 (j_ixor dX6_left_31 (j_istore_n (lv' := [(2, _), (3, _), (0, _), (1, _)]) dX6_left_32 rfl (j_iinc (y := -1) (lv' := [(3, _), (2, _), (0, _), (1, _)]) 1 dX6_left_33 rfl rfl rfl (j_goto (tgt := 5) dX6_left_36 rfl ?_))))))))))))
            have e2 : nI rest ^^^ ((64 ||| I 198 2) <<< ((nI (j + 1 + 5) - 6) &&& 31)) = nI (lfS gn (j + 6) rest) := by
              rw [hg, show (64 : Int32) = nI 64 from rfl, fa_or, show nI (j + 1 + 5) - 6 = nI j from pk_sub (a := j + 1 + 5) (b := 6) (by omega), shlI (Nat.lt_of_lt_of_le (Nat.mul_lt_mul_of_pos_right (og_lt hgn) (Nat.two_pow_pos j)) (by have : 2 ^ j ≤ 2 ^ 8 := Nat.pow_le_pow_right (by decide) (by omega); omega)) (by omega), fb_xorI]
              unfold lfS
              rw [show (j + 6) = j + 1 + 5 by omega, hb, if_pos rfl, Nat.shiftLeft_eq, show j + 1 + 5 - 6 = j by omega]
            rw [e1, e2]
            exact JW.locals [0, 1, 2, 3] rfl (ih _ (by omega) hlt e)
        · refine j_if_eq (tgt := 33) dX6_left_15 rfl (fun h2 => ?_) (fun h2 => ?_)
          · refine j_iinc (y := -1) (lv' := [(3, _), (2, _), (0, _), (1, _)]) 0 dX6_left_33 rfl rfl rfl (j_goto (tgt := 5) dX6_left_36 rfl ?_)
            have e2 : lfS gn (j + 6) rest = rest := by
              unfold lfS
              rw [show (j + 6) = j + 1 + 5 by omega, hb]
              rfl
            rw [e1]
            exact JW.locals [0, 1, 2, 3] rfl (ih rest (by omega) (e2 ▸ hlt) (by rw [← e]; show _ = lfL gn j (lfS gn (j + 6) rest); rw [e2]))
          · exact absurd rfl h2
  refine j_iload_n 1 dX6_left_0 rfl (j_istore_n (lv' := [(2, _), (0, _), (1, _)]) dX6_left_1 rfl (j_bipush (v := 13) dX6_left_2 rfl (j_istore_n (lv' := [(3, _), (2, _), (0, _), (1, _)]) dX6_left_4 rfl ?_)))
  exact JW.locals [0, 1, 2, 3] rfl (loop 8 n (by omega) hn rfl)
/-- THE WORD of d for OFFSET k -/
def wdN (c : CT) (k d : Nat) : Nat := 64 * d + (lfN c.1 (64 * d) ^^^ c.2.1 k)
theorem xor_lt64 {a b : Nat} (ha : a < 64) (hb : b < 64) : a ^^^ b < 64 := Nat.xor_lt_two_pow (n := 6) ha hb
theorem xor_lt14 {a b : Nat} (ha : a < 16384) (hb : b < 16384) : a ^^^ b < 16384 := Nat.xor_lt_two_pow (n := 14) ha hb
/-- the reference's cells of a station -/
def MC (I : IT) (c : CT) : Prop := I 198 2 = nI c.1 ∧ c.1 < 64 ∧ (∀ k, k < 4 → I 200 k = nI (c.2.1 k)) ∧ (∀ k, k < 4 → c.2.1 k < 64) ∧ I 198 5 = nI c.2.2.1 ∧ 1 ≤ c.2.2.1 ∧ c.2.2.1 ≤ 9 ∧ (∀ r, r < 64 → (if 0 < r ∧ I 201 r = 1 then I 202 r else 0) = nI (c.2.2.2 r)) ∧ (∀ r, r < 64 → c.2.2.2 r < 16384) ∧ (∀ i j, i < 4 → j < 4 → c.2.1 i = c.2.1 j → i = j)
theorem wdN_lt {c : CT} {k d : Nat} (h1 : c.1 < 64) (h2 : c.2.1 k < 64) (hd : d < 256) : wdN c k d < 16384 := by
  have := xor_lt64 (lfN_lt h1 (show 64 * d < 16384 by omega)) h2
  unfold wdN
  omega
def isMo (Z : ZT) : Prop := zK Z 198 = 6 ∧ zS Z 198 3 = true ∧ zS Z 198 6 = true ∧ zS Z 198 7 = true ∧ zK Z 200 = 7 ∧ zL Z 200 = 4 ∧ zK Z 201 = 7 ∧ zL Z 201 = 64 ∧ zK Z 202 = 7 ∧ zL Z 202 = 64
theorem c_mWord {g : GT} {Z : ZT} {I : IT} {L : LT} {Post : PT} {c : CT} {k d : Nat} (hZ : isMo Z) (hc : MC I c) (hk : k < 4) (hd : d < 256) (hp : Post (some (.int (nI (wdN c k d)))) Z I L) : CM g 2 0 0 mX6_wordOf [.ref 198, .int (nI k), .int (nI d)] Z I L Post := by
  obtain ⟨z1, z2, z3, z4, z5, z6, z7, z8, z9, z10⟩ := hZ
  obtain ⟨c1, c2, c3, c4, c5, c6, c7, c8, c9, c10⟩ := hc
  refine CM_intro ?_
  have e64 : (64 : Int32) * nI d = nI (64 * d) := pk_mul 64 d
  refine j_bipush (v := 64) dX6_wordOf_0 rfl (j_iload_n 2 dX6_wordOf_2 rfl (j_imul dX6_wordOf_3 (j_aload_n 0 dX6_wordOf_4 rfl (j_bipush (v := 64) dX6_wordOf_5 rfl (j_iload_n 2 dX6_wordOf_7 rfl (j_imul dX6_wordOf_8 ?_))))))
  rw [e64]
  refine j_V1 dX6_wordOf_9 kX6_89 (by first | assumption | rfl) (c_left z1 c1 c2 (by omega) (j_aload_n 0 dX6_wordOf_12 rfl (j_getR (b := 200) dX6_wordOf_13 fX6_13 rfl (by first | assumption | rfl) (by first | assumption | rfl) (j_iload_n 1 dX6_wordOf_16 rfl (j_iaload k dX6_wordOf_17 (by first | assumption | rfl) (by first | assumption | rfl) (by omega) (j_ixor dX6_wordOf_18 (j_iadd dX6_wordOf_19 (j_iret dX6_wordOf_20 ?_))))))))
  rw [c3 k hk, fb_xorI, nI_add]
  exact hp
theorem c_mRest {g : GT} {Z : ZT} {I : IT} {L : LT} {Post : PT} {c : CT} {k w : Nat} (hZ : isMo Z) (hc : MC I c) (hk : k < 4) (hw : w < 16384) (hp : Post (some (.int (nI (lfN c.1 (w ^^^ c.2.1 k))))) Z I L) : CM g 2 0 0 mX6_restOf [.ref 198, .int (nI k), .int (nI w)] Z I L Post := by
  obtain ⟨z1, z2, z3, z4, z5, z6, z7, z8, z9, z10⟩ := hZ
  obtain ⟨c1, c2, c3, c4, c5, c6, c7, c8, c9, c10⟩ := hc
  refine CM_intro ?_
  refine j_aload_n 0 dX6_restOf_0 rfl (j_iload_n 2 dX6_restOf_1 rfl (j_aload_n 0 dX6_restOf_2 rfl (j_getR (b := 200) dX6_restOf_3 fX6_13 rfl (by first | assumption | rfl) (by first | assumption | rfl) (j_iload_n 1 dX6_restOf_6 rfl (j_iaload k dX6_restOf_7 (by first | assumption | rfl) (by first | assumption | rfl) (by omega) (j_ixor dX6_restOf_8 ?_))))))
  rw [c3 k hk, fb_xorI]
  refine j_V1 dX6_restOf_9 kX6_89 (by first | assumption | rfl) (c_left z1 c1 c2 (xor_lt14 hw (Nat.lt_trans (c4 k hk) (by decide))) (j_iret dX6_restOf_12 ?_))
  exact hp
theorem c_mSure {g : GT} {Z : ZT} {I : IT} {L : LT} {Post : PT} {c : CT} {r : Nat} (hZ : isMo Z) (hc : MC I c) (hr : r < 64) (h0 : c.2.2.2 0 = 0) (hp : Post (some (.int (nI (c.2.2.2 r)))) Z I L) : CM g 0 0 0 mX6_sureOf [.ref 198, .int (nI r)] Z I L Post := by
  obtain ⟨z1, z2, z3, z4, z5, z6, z7, z8, z9, z10⟩ := hZ
  obtain ⟨c1, c2, c3, c4, c5, c6, c7, c8, c9, c10⟩ := hc
  have h8 := c8 r hr
  refine CM_intro ?_
  refine j_iload_n 1 dX6_sureOf_0 rfl (j_if_le (tgt := 23) dX6_sureOf_1 rfl (fun h1 => ?_) (fun h1 => ?_))
  · refine j_iconst (v := 0) dX6_sureOf_23 rfl (j_iret dX6_sureOf_24 ?_)
    have : r = 0 := by
      rcases Nat.eq_zero_or_pos r with h | h
      · exact h
      · exact absurd h1 (nI_nle h (by omega))
    subst this
    rw [h0] at hp
    exact hp
  · have hr0 : 0 < r := by
      rcases Nat.eq_zero_or_pos r with h | h
      · subst h; exact absurd (by decide) h1
      · exact h
    refine j_aload_n 0 dX6_sureOf_4 rfl (j_getR (b := 201) dX6_sureOf_5 fX6_16 rfl (by first | assumption | rfl) (by first | assumption | rfl) (j_iload_n 1 dX6_sureOf_8 rfl (j_iaload r dX6_sureOf_9 (by first | assumption | rfl) (by first | assumption | rfl) (by omega) (j_iconst (v := 1) dX6_sureOf_10 rfl (j_icmp_ne (tgt := 23) dX6_sureOf_11 rfl (fun h2 => ?_) (fun h2 => ?_))))))
    · refine j_iconst (v := 0) dX6_sureOf_23 rfl (j_iret dX6_sureOf_24 ?_)
      rw [if_neg (fun q => h2 q.2)] at h8
      rw [← h8] at hp
      exact hp
    · refine j_aload_n 0 dX6_sureOf_14 rfl (j_getR (b := 202) dX6_sureOf_15 fX6_19 rfl (by first | assumption | rfl) (by first | assumption | rfl) (j_iload_n 1 dX6_sureOf_18 rfl (j_iaload r dX6_sureOf_19 (by first | assumption | rfl) (by first | assumption | rfl) (by omega) (j_goto (tgt := 24) dX6_sureOf_20 rfl (j_iret dX6_sureOf_24 ?_)))))
      rw [if_pos ⟨hr0, h2⟩] at h8
      rw [h8]
      exact hp
/-- powers, factorials -/
theorem c_power {g : GT} {Z : ZT} {I : IT} {L : LT} {Post : PT} {x n : Nat} (hn : n < 100) (hp : Post (some (.int (nI (x ^ n)))) Z I L) : CM g 0 0 0 mX6_power [.int (nI x), .int (nI n)] Z I L Post := by
  refine CM_intro ?_
  have loop : ∀ (m k : Nat), k + m = n → JW g mX6_power (rmO 0 0 0) (QM Post 0 0) 4 [(3, .int (nI k)), (2, .int (nI (x ^ k))), (0, .int (nI x)), (1, .int (nI n))] [] 0 0 Z I L := by
    intro m
    induction m with
    | zero =>
      intro k hk
      have hk : k = n := by omega
      subst hk
      refine j_iload_n 0 dX6_power_4 rfl (j_iload_n 3 dX6_power_5 rfl (j_icmp_ge (tgt := 19) dX6_power_6 rfl (fun h1 => ?_) (fun h1 => ?_)))
      · refine j_iload_n 1 dX6_power_19 rfl (j_iret dX6_power_20 ?_)
        exact hp
      · exact absurd (Int32.le_refl _) h1
    | succ m ih =>
      intro k hk
      refine j_iload_n 0 dX6_power_4 rfl (j_iload_n 3 dX6_power_5 rfl (j_icmp_ge (tgt := 19) dX6_power_6 rfl (fun h1 => ?_) (fun h1 => ?_)))
      · exact absurd h1 (nI_ge (show k < n by omega) (by omega))
      · refine j_iload_n 1 dX6_power_9 rfl (j_iload_n 2 dX6_power_10 rfl (j_imul dX6_power_11 (j_istore_n (lv' := [(2, _), (3, _), (0, _), (1, _)]) dX6_power_12 rfl (j_iinc (y := 1) (lv' := [(3, _), (2, _), (0, _), (1, _)]) 1 dX6_power_13 rfl rfl rfl (j_goto (tgt := 4) dX6_power_16 rfl ?_)))))
        rw [pk_mul, nI_1, ← Nat.pow_succ]
        exact JW.locals [0, 1, 2, 3] rfl (ih (k + 1) (by omega))
  refine j_iconst (v := 1) dX6_power_0 rfl (j_istore_n (lv' := [(2, _), (0, _), (1, _)]) dX6_power_1 rfl (j_iconst (v := 0) dX6_power_2 rfl (j_istore_n (lv' := [(3, _), (2, _), (0, _), (1, _)]) dX6_power_3 rfl ?_)))
  exact JW.locals [0, 1, 2, 3] rfl (loop n 0 (by omega))
def facN : Nat → Nat
  | 0 => 1
  | n + 1 => facN n * (n + 1)
theorem c_factorial {g : GT} {Z : ZT} {I : IT} {L : LT} {Post : PT} {n : Nat} (hn : n < 100) (hp : Post (some (.int (nI (facN n)))) Z I L) : CM g 0 0 0 mX6_factorial [.int (nI n)] Z I L Post := by
  refine CM_intro ?_
  have loop : ∀ (m k : Nat), k + m = n + 1 → 1 ≤ k → JW g mX6_factorial (rmO 0 0 0) (QM Post 0 0) 4 [(2, .int (nI (k + 1))), (1, .int (nI (facN k))), (0, .int (nI n))] [] 0 0 Z I L ∨ k = n + 1 := by
    intro m
    induction m with
    | zero => intro k hk _; exact Or.inr (by omega)
    | succ m ih =>
      intro k hk h1
      left
      refine j_iload_n 0 dX6_factorial_4 rfl (j_iload_n 2 dX6_factorial_5 rfl (j_icmp_gt (tgt := 19) dX6_factorial_6 rfl (fun h1 => ?_) (fun h1 => ?_)))
      · have : k = n := by
          rcases Nat.lt_or_ge k n with q | q
          · exact absurd h1 (nI_nlt (show k + 1 ≤ n by omega) (by omega))
          · omega
        subst this
        refine j_iload_n 1 dX6_factorial_19 rfl (j_iret dX6_factorial_20 ?_)
        exact hp
      · have hkn : k < n := by
          rcases Nat.lt_or_ge k n with q | q
          · exact q
          · exact absurd (nI_lt (show n < k + 1 by omega) (by omega)) h1
        refine j_iload_n 1 dX6_factorial_9 rfl (j_iload_n 0 dX6_factorial_10 rfl (j_imul dX6_factorial_11 (j_istore_n (lv' := [(1, _), (2, _), (0, _)]) dX6_factorial_12 rfl (j_iinc (y := 1) (lv' := [(2, _), (1, _), (0, _)]) 1 dX6_factorial_13 rfl rfl rfl (j_goto (tgt := 4) dX6_factorial_16 rfl ?_)))))
        rw [pk_mul, nI_1]
        rcases ih (k + 1) (by omega) (by omega) with q | q
        · exact JW.locals [0, 1, 2] rfl q
        · omega
  refine j_iconst (v := 1) dX6_factorial_0 rfl (j_istore_n (lv' := [(1, _), (0, _)]) dX6_factorial_1 rfl (j_iconst (v := 2) dX6_factorial_2 rfl (j_istore_n (lv' := [(2, _), (1, _), (0, _)]) dX6_factorial_3 rfl ?_)))
  rcases Nat.eq_zero_or_pos n with h | h
  · subst h
    refine j_iload_n 0 dX6_factorial_4 rfl (j_iload_n 2 dX6_factorial_5 rfl (j_icmp_gt (tgt := 19) dX6_factorial_6 rfl (fun h1 => ?_) (fun h1 => ?_)))
    · refine j_iload_n 1 dX6_factorial_19 rfl (j_iret dX6_factorial_20 ?_)
      exact hp
    · exact absurd (by decide) h1
  · rcases loop n 1 (by omega) (by omega) with q | q
    · exact JW.locals [0, 1, 2] rfl q
    · omega
def htN (n : Nat) : Nat := 100000 ^ n
theorem c_hundredT {g : GT} {Z : ZT} {I : IT} {L : LT} {Post : PT} {n : Nat} (hn : n < 100) (hp : Post (some (.long (lN (htN n)))) Z I L) : CM g 0 0 0 mX6_hundredThousands [.int (nI n)] Z I L Post := by
  refine CM_intro ?_
  have loop : ∀ (m k : Nat), k + m = n → JW g mX6_hundredThousands (rmO 0 0 0) (QM Post 0 0) 4 [(3, .int (nI k)), (1, .long (lN (htN k))), (0, .int (nI n))] [] 0 0 Z I L := by
    intro m
    induction m with
    | zero =>
      intro k hk
      have hk : k = n := by omega
      subst hk
      refine j_iload_n 0 dX6_hundredThousands_4 rfl (j_iload_n 2 dX6_hundredThousands_5 rfl (j_icmp_ge (tgt := 21) dX6_hundredThousands_6 rfl (fun h1 => ?_) (fun h1 => ?_)))
      · refine j_lload_n 1 dX6_hundredThousands_21 rfl (j_lret dX6_hundredThousands_22 ?_)
        exact hp
      · exact absurd (Int32.le_refl _) h1
    | succ m ih =>
      intro k hk
      refine j_iload_n 0 dX6_hundredThousands_4 rfl (j_iload_n 2 dX6_hundredThousands_5 rfl (j_icmp_ge (tgt := 21) dX6_hundredThousands_6 rfl (fun h1 => ?_) (fun h1 => ?_)))
      · exact absurd h1 (nI_ge (show k < n by omega) (by omega))
      · refine j_lload_n 1 dX6_hundredThousands_9 rfl (j_ldc2 (v := 100000) dX6_hundredThousands_10 (List.mem_of_getElem? (i := 1022) (by decide +kernel)) (j_lmul dX6_hundredThousands_13 (j_lstore_n (lv' := [(1, _), (3, _), (0, _)]) dX6_hundredThousands_14 rfl (j_iinc (y := 1) (lv' := [(3, _), (1, _), (0, _)]) 1 dX6_hundredThousands_15 rfl rfl rfl (j_goto (tgt := 4) dX6_hundredThousands_18 rfl ?_)))))
        rw [show (100000 : Int64) = lN 100000 from rfl, lN_mul, nI_1, show htN k * 100000 = htN (k + 1) from (Nat.pow_succ _ _).symm]
        exact JW.locals [0, 1, 2] rfl (ih (k + 1) (by omega))
  refine j_lconst (v := 1) dX6_hundredThousands_0 rfl (j_lstore_n (lv' := [(1, _), (0, _)]) dX6_hundredThousands_1 rfl (j_iconst (v := 0) dX6_hundredThousands_2 rfl (j_istore_n (lv' := [(3, _), (1, _), (0, _)]) dX6_hundredThousands_3 rfl ?_)))
  exact JW.locals [0, 1, 2] rfl (loop n 0 (by omega))
