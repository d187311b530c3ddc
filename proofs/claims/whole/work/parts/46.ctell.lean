def tlF (ρ : RT) (w : Nat) : Int32 := if w = 3 then ρ 0 else if w = 4 then ρ 1 else if w = 5 then ρ 3 else if w = 6 then (if ρ 3 = 1 then ρ 4 else -9) else if w = 7 then (if ρ 3 = 1 then ρ 5 else -9) else if w = 8 then (if ρ 3 = 1 then ρ 6 else -9) else ρ (w + 1)
theorem c_tell {g : GT} {Z : ZT} {I : IT} {L : LT} {Post : PT} {r w : Nat} {V : IT} {ρ : RT} (hK : zK Z r = 2) (hV : REC V ρ) (h2 : ρ 3 = 0 ∨ ρ 3 = 1) (h3 : 3 ≤ w) (h12 : w ≤ 12) (hp : Post (some (.int (tlF ρ w))) Z (wr I r V) L) : CM g 1 0 0 mX2_tell [.ref r, .int (nI w)] Z (wr I r V) L Post := by
  obtain ⟨⟨v1, v2, v3, v4, v5, v6, v7, v8, v9, v10, v11, v12, v13⟩, hS, hT⟩ := id hV
  refine CM_intro ?_
  have hw : w = 3 ∨ w = 4 ∨ w = 5 ∨ w = 6 ∨ w = 7 ∨ w = 8 ∨ w = 9 ∨ w = 10 ∨ w = 11 ∨ w = 12 := by omega
  refine j_iload_n 1 dX2_tell_0 rfl ?_
  rcases hw with e | e | e | e | e | e | e | e | e | e <;> subst e
  · refine j_tsIn (tgt := 56) dX2_tell_1 (by decide) (by decide) rfl rfl ?_
    refine j_aload_n 0 dX2_tell_56 rfl (j_getI dX2_tell_57 fX2_29 (by first | assumption | rfl) (j_iret dX2_tell_60 ?_))
    rw [wr_0, v2]
    exact hp
  · refine j_tsIn (tgt := 61) dX2_tell_1 (by decide) (by decide) rfl rfl ?_
    refine j_aload_n 0 dX2_tell_61 rfl (j_getI dX2_tell_62 fX2_25 (by first | assumption | rfl) (j_iret dX2_tell_65 ?_))
    rw [wr_0, v1]
    exact hp
  · refine j_tsIn (tgt := 66) dX2_tell_1 (by decide) (by decide) rfl rfl ?_
    refine j_aload_n 0 dX2_tell_66 rfl (j_V0 dX2_tell_67 kX2_83 (by first | assumption | rfl) (c_syncBit hK hV h2 ?_))
    refine j_iret dX2_tell_70 ?_
    exact hp
  · refine j_tsIn (tgt := 71) dX2_tell_1 (by decide) (by decide) rfl rfl ?_
    refine j_aload_n 0 dX2_tell_71 rfl (j_getI dX2_tell_72 fX2_35 (by first | assumption | rfl) (j_if_eq (tgt := 85) dX2_tell_75 rfl (fun h1 => ?_) (fun h1 => ?_)))
    · rw [wr_0, v4] at h1
      have hp : Post (some (.int (if ρ 3 = 1 then ρ 4 else -9))) Z (wr I r V) L := hp
      rw [if_neg (by rw [h1]; decide)] at hp
      refine j_bipush (v := -9) dX2_tell_85 rfl (j_iret dX2_tell_87 ?_)
      exact hp
    · rw [wr_0, v4] at h1
      have hs : ρ 3 = 1 := h2.resolve_left h1
      have hp : Post (some (.int (if ρ 3 = 1 then ρ 4 else -9))) Z (wr I r V) L := hp
      rw [if_pos hs] at hp
      refine j_aload_n 0 dX2_tell_78 rfl (j_getI dX2_tell_79 fX2_39 (by first | assumption | rfl) (j_goto (tgt := 87) dX2_tell_82 rfl (j_iret dX2_tell_87 ?_)))
      rw [wr_0, v5]
      exact hp
  · refine j_tsIn (tgt := 88) dX2_tell_1 (by decide) (by decide) rfl rfl ?_
    refine j_aload_n 0 dX2_tell_88 rfl (j_getI dX2_tell_89 fX2_35 (by first | assumption | rfl) (j_if_eq (tgt := 102) dX2_tell_92 rfl (fun h1 => ?_) (fun h1 => ?_)))
    · rw [wr_0, v4] at h1
      have hp : Post (some (.int (if ρ 3 = 1 then ρ 5 else -9))) Z (wr I r V) L := hp
      rw [if_neg (by rw [h1]; decide)] at hp
      refine j_bipush (v := -9) dX2_tell_102 rfl (j_iret dX2_tell_104 ?_)
      exact hp
    · rw [wr_0, v4] at h1
      have hs : ρ 3 = 1 := h2.resolve_left h1
      have hp : Post (some (.int (if ρ 3 = 1 then ρ 5 else -9))) Z (wr I r V) L := hp
      rw [if_pos hs] at hp
      refine j_aload_n 0 dX2_tell_95 rfl (j_getI dX2_tell_96 fX2_42 (by first | assumption | rfl) (j_goto (tgt := 104) dX2_tell_99 rfl (j_iret dX2_tell_104 ?_)))
      rw [wr_0, v6]
      exact hp
  · refine j_tsIn (tgt := 105) dX2_tell_1 (by decide) (by decide) rfl rfl ?_
    refine j_aload_n 0 dX2_tell_105 rfl (j_getI dX2_tell_106 fX2_35 (by first | assumption | rfl) (j_if_eq (tgt := 119) dX2_tell_109 rfl (fun h1 => ?_) (fun h1 => ?_)))
    · rw [wr_0, v4] at h1
      have hp : Post (some (.int (if ρ 3 = 1 then ρ 6 else -9))) Z (wr I r V) L := hp
      rw [if_neg (by rw [h1]; decide)] at hp
      refine j_bipush (v := -9) dX2_tell_119 rfl (j_iret dX2_tell_121 ?_)
      exact hp
    · rw [wr_0, v4] at h1
      have hs : ρ 3 = 1 := h2.resolve_left h1
      have hp : Post (some (.int (if ρ 3 = 1 then ρ 6 else -9))) Z (wr I r V) L := hp
      rw [if_pos hs] at hp
      refine j_aload_n 0 dX2_tell_112 rfl (j_getI dX2_tell_113 fX2_45 (by first | assumption | rfl) (j_goto (tgt := 121) dX2_tell_116 rfl (j_iret dX2_tell_121 ?_)))
      rw [wr_0, v7 hs]
      exact hp
  · refine j_tsIn (tgt := 122) dX2_tell_1 (by decide) (by decide) rfl rfl ?_
    refine j_aload_n 0 dX2_tell_122 rfl (j_getI dX2_tell_123 fX2_48 (by first | assumption | rfl) (j_iret dX2_tell_126 ?_))
    rw [wr_0, v8]
    exact hp
  · refine j_tsIn (tgt := 127) dX2_tell_1 (by decide) (by decide) rfl rfl ?_
    refine j_aload_n 0 dX2_tell_127 rfl (j_getI dX2_tell_128 fX2_51 (by first | assumption | rfl) (j_iret dX2_tell_131 ?_))
    rw [wr_0, v9]
    exact hp
  · refine j_tsIn (tgt := 132) dX2_tell_1 (by decide) (by decide) rfl rfl ?_
    refine j_aload_n 0 dX2_tell_132 rfl (j_getI dX2_tell_133 fX2_54 (by first | assumption | rfl) (j_iret dX2_tell_136 ?_))
    rw [wr_0, v10]
    exact hp
  · refine j_tsIn (tgt := 137) dX2_tell_1 (by decide) (by decide) rfl rfl ?_
    refine j_aload_n 0 dX2_tell_137 rfl (j_getI dX2_tell_138 fX2_57 (by first | assumption | rfl) (j_iret dX2_tell_141 ?_))
    rw [wr_0, v11]
    exact hp
theorem c_tellBad {g : GT} {Z : ZT} {I : IT} {L : LT} {Post : PT} {r : Nat} {x : Int32} (hx : x.toInt < 3 ∨ 12 < x.toInt) (hp : Post (some (.int (-2))) Z I L) : CM g 1 0 0 mX2_tell [.ref r, .int x] Z I L Post := by
  refine CM_intro ?_
  refine j_iload_n 1 dX2_tell_0 rfl ?_
  refine j_tsOut (tgt := 142) dX2_tell_1 hx rfl ?_
  refine j_bipush (v := -2) dX2_tell_142 rfl (j_iret dX2_tell_144 ?_)
  exact hp
theorem c_countOf {g : GT} {Z : ZT} {I : IT} {L : LT} {Post : PT} {r w : Nat} {V : IT} {ρ : RT} (hK : zK Z r = 2) (hV : REC V ρ) (hw : w ≤ 2) (hp : Post (some (.int (ρ (10 + w)))) Z (wr I r V) L) : CM g 0 0 0 mX2_countOf [.ref r, .int (nI w)] Z (wr I r V) L Post := by
  obtain ⟨⟨v1, v2, v3, v4, v5, v6, v7, v8, v9, v10, v11, v12, v13⟩, hS, hT⟩ := id hV
  refine CM_intro ?_
  have hw : w = 0 ∨ w = 1 ∨ w = 2 := by omega
  refine j_iload_n 1 dX2_countOf_0 rfl ?_
  rcases hw with e | e | e <;> subst e
  · refine j_lsw (tgt := 28) dX2_countOf_1 (by decide) rfl rfl ?_
    refine j_aload_n 0 dX2_countOf_28 rfl (j_getI dX2_countOf_29 fX2_48 (by first | assumption | rfl) (j_iret dX2_countOf_32 ?_))
    rw [wr_0, v8]
    exact hp
  · refine j_lsw (tgt := 33) dX2_countOf_1 (by decide) rfl rfl ?_
    refine j_aload_n 0 dX2_countOf_33 rfl (j_getI dX2_countOf_34 fX2_51 (by first | assumption | rfl) (j_iret dX2_countOf_37 ?_))
    rw [wr_0, v9]
    exact hp
  · refine j_lsw (tgt := 38) dX2_countOf_1 (by decide) rfl rfl ?_
    refine j_aload_n 0 dX2_countOf_38 rfl (j_getI dX2_countOf_39 fX2_54 (by first | assumption | rfl) (j_iret dX2_countOf_42 ?_))
    rw [wr_0, v10]
    exact hp
def cbB (ρ : RT) (a b : Nat) : Bool := decide (ρ (39 + b) < ρ (39 + a)) || (decide (ρ (39 + a) = ρ (39 + b)) && decide (ρ (31 + a) < ρ (31 + b)))
theorem c_comesBefore {g : GT} {Z : ZT} {I : IT} {L : LT} {Post : PT} {r a b : Nat} {V : IT} {ρ : RT} (hZ : isR Z r) (hV : SHW V ρ) (ha : a < 8) (hb : b < 8) (hp : Post (some (.int (if cbB ρ a b = true then 1 else 0))) Z (wr I r V) L) : CM g 0 0 0 mX3_comesBefore [.ref (r + 1), .int (nI a), .int (nI b)] Z (wr I r V) L Post := by
  obtain ⟨z1, z2, z3, z4, z5, z6, z7, z8, z9, z10, z11, z12, z13, z14, z15, z16, z17, z18⟩ := id hZ
  obtain ⟨v1, v2, v3, v4, v5, v6, v7, v8, v9⟩ := id hV
  refine CM_intro ?_
  unfold cbB at hp
  refine j_aload_n 0 dX3_comesBefore_0 rfl (j_getR (b := r + 5) dX3_comesBefore_1 fX3_21 rfl (by first | assumption | rfl) (by first | assumption | rfl) (j_iload_n 1 dX3_comesBefore_4 rfl (j_iaload a dX3_comesBefore_5 (by first | assumption | rfl) (by first | assumption | rfl) (by omega) (j_aload_n 0 dX3_comesBefore_6 rfl (j_getR (b := r + 5) dX3_comesBefore_7 fX3_21 rfl (by first | assumption | rfl) (by first | assumption | rfl) (j_iload_n 2 dX3_comesBefore_10 rfl (j_iaload b dX3_comesBefore_11 (by first | assumption | rfl) (by first | assumption | rfl) (by omega) (j_icmp_eq (tgt := 36) dX3_comesBefore_12 rfl (fun h1 => ?_) (fun h1 => ?_)))))))))
  · rw [wr_5, v9 a ha, v9 b hb] at h1
    rw [h1, decide_eq_false (show ¬ ρ (39 + b) < ρ (39 + b) from Int32.lt_irrefl), Bool.false_or, decide_eq_true rfl, Bool.true_and] at hp
    refine j_aload_n 0 dX3_comesBefore_36 rfl (j_getR (b := r + 4) dX3_comesBefore_37 fX3_18 rfl (by first | assumption | rfl) (by first | assumption | rfl) (j_iload_n 1 dX3_comesBefore_40 rfl (j_iaload a dX3_comesBefore_41 (by first | assumption | rfl) (by first | assumption | rfl) (by omega) (j_aload_n 0 dX3_comesBefore_42 rfl (j_getR (b := r + 4) dX3_comesBefore_43 fX3_18 rfl (by first | assumption | rfl) (by first | assumption | rfl) (j_iload_n 2 dX3_comesBefore_46 rfl (j_iaload b dX3_comesBefore_47 (by first | assumption | rfl) (by first | assumption | rfl) (by omega) (j_icmp_ge (tgt := 55) dX3_comesBefore_48 rfl (fun h2 => ?_) (fun h2 => ?_)))))))))
    · rw [wr_4, v8 a ha, v8 b hb] at h2
      refine j_iconst (v := 0) dX3_comesBefore_55 rfl (j_zret dX3_comesBefore_56 (by decide) ?_)
      rw [decide_eq_false (fun z => absurd h2 (Int32.not_le.mpr z))] at hp
      exact hp
    · rw [wr_4, v8 a ha, v8 b hb] at h2
      refine j_iconst (v := 1) dX3_comesBefore_51 rfl (j_goto (tgt := 56) dX3_comesBefore_52 rfl (j_zret dX3_comesBefore_56 (by decide) ?_))
      rw [decide_eq_true (Int32.not_le.mp h2)] at hp
      exact hp
  · rw [wr_5, v9 a ha, v9 b hb] at h1
    rw [decide_eq_false h1, Bool.false_and, Bool.or_false] at hp
    refine j_aload_n 0 dX3_comesBefore_15 rfl (j_getR (b := r + 5) dX3_comesBefore_16 fX3_21 rfl (by first | assumption | rfl) (by first | assumption | rfl) (j_iload_n 1 dX3_comesBefore_19 rfl (j_iaload a dX3_comesBefore_20 (by first | assumption | rfl) (by first | assumption | rfl) (by omega) (j_aload_n 0 dX3_comesBefore_21 rfl (j_getR (b := r + 5) dX3_comesBefore_22 fX3_21 rfl (by first | assumption | rfl) (by first | assumption | rfl) (j_iload_n 2 dX3_comesBefore_25 rfl (j_iaload b dX3_comesBefore_26 (by first | assumption | rfl) (by first | assumption | rfl) (by omega) (j_icmp_le (tgt := 34) dX3_comesBefore_27 rfl (fun h2 => ?_) (fun h2 => ?_)))))))))
    · rw [wr_5, v9 a ha, v9 b hb] at h2
      refine j_iconst (v := 0) dX3_comesBefore_34 rfl (j_zret dX3_comesBefore_35 (by decide) ?_)
      rw [decide_eq_false (fun z => absurd h2 (Int32.not_le.mpr z))] at hp
      exact hp
    · rw [wr_5, v9 a ha, v9 b hb] at h2
      refine j_iconst (v := 1) dX3_comesBefore_30 rfl (j_goto (tgt := 35) dX3_comesBefore_31 rfl (j_zret dX3_comesBefore_35 (by decide) ?_))
      rw [decide_eq_true (Int32.not_le.mp h2)] at hp
      exact hp
def abN (ρ : RT) (k : Nat) : Nat → Nat
  | 0 => 0
  | n + 1 => abN ρ k n + (if cbB ρ n k = true then 1 else 0)
theorem abN_le (ρ : RT) (k : Nat) : ∀ n, abN ρ k n ≤ n
  | 0 => Nat.le_refl 0
  | n + 1 => by
    have := abN_le ρ k n
    show abN ρ k n + (if cbB ρ n k = true then 1 else 0) ≤ n + 1
    by_cases h : cbB ρ n k = true
    · rw [if_pos h]; omega
    · rw [if_neg h]; omega
theorem c_indexInOrder {g : GT} {Z : ZT} {I : IT} {L : LT} {Post : PT} {r m : Nat} {x : Int32} {V : IT} {ρ : RT} (hZ : isR Z r) (hV : SHW V ρ) (hm : ρ 30 = nI m) (hm8 : m ≤ 8) (hp : ∀ q, q < m → nI (abN ρ q m) = x → Post (some (.int (nI q))) Z (wr I r V) L) (hn : (∀ q, q < m → nI (abN ρ q m) ≠ x) → Post (some (.int (-1))) Z (wr I r V) L) : CM g 1 0 0 mX3_indexInOrder [.ref (r + 1), .int x] Z (wr I r V) L Post := by
  obtain ⟨z1, z2, z3, z4, z5, z6, z7, z8, z9, z10, z11, z12, z13, z14, z15, z16, z17, z18⟩ := id hZ
  obtain ⟨v1, v2, v3, v4, v5, v6, v7, v8, v9⟩ := id hV
  refine CM_intro ?_
  have loop : ∀ (n k : Nat), k + n = m → (∀ q, q < k → nI (abN ρ q m) ≠ x) → JW g mX3_indexInOrder (rmO 1 0 0) (QM Post 0 0) 2 [(2, .int (nI k)), (0, .ref (r + 1)), (1, .int x)] [] 0 0 Z (wr I r V) L := by
    intro n
    induction n with
    | zero =>
      intro k hk hq
      have : k = m := by omega
      subst this
      refine j_iload_n 0 dX3_indexInOrder_2 rfl (j_aload_n 1 dX3_indexInOrder_3 rfl (j_getI dX3_indexInOrder_4 fX3_30 (by first | assumption | rfl) (j_icmp_ge (tgt := 61) dX3_indexInOrder_7 rfl (fun h1 => ?_) (fun h1 => ?_))))
      · refine j_iconst (v := -1) dX3_indexInOrder_61 rfl (j_iret dX3_indexInOrder_62 ?_)
        exact hn hq
      · rw [wr_1, v1, hm] at h1
        exact absurd (nI_le (Nat.le_refl _) (by omega)) h1
    | succ n ih =>
      intro k hk hq
      have loop2 : ∀ (n2 o : Nat), o + n2 = m → JW g mX3_indexInOrder (rmO 1 0 0) (QM Post 0 0) 15 [(4, .int (nI o)), (3, .int (nI (abN ρ k o))), (2, .int (nI k)), (0, .ref (r + 1)), (1, .int x)] [] 0 0 Z (wr I r V) L := by
        intro n2
        induction n2 with
        | zero =>
          intro o ho
          have : o = m := by omega
          subst this
          refine j_iload 0 dX3_indexInOrder_15 rfl (j_aload_n 3 dX3_indexInOrder_17 rfl (j_getI dX3_indexInOrder_18 fX3_30 (by first | assumption | rfl) (j_icmp_ge (tgt := 48) dX3_indexInOrder_21 rfl (fun h2 => ?_) (fun h2 => ?_))))
          · refine j_iload_n 1 dX3_indexInOrder_48 rfl (j_iload_n 4 dX3_indexInOrder_49 rfl (j_icmp_ne (tgt := 55) dX3_indexInOrder_50 rfl (fun h3 => ?_) (fun h3 => ?_)))
            · refine j_iinc (y := 1) (lv' := [(2, _), (4, _), (3, _), (0, _), (1, _)]) 2 dX3_indexInOrder_55 rfl rfl rfl (j_goto (tgt := 2) dX3_indexInOrder_58 rfl ?_)
              rw [nI_1]
              refine JW.locals [0, 3, 4] rfl (ih (k + 1) (by omega) (fun q hqk => ?_))
              rcases Nat.lt_or_ge q k with z | z
              · exact hq q z
              · have : q = k := by omega
                subst this
                exact h3
            · refine j_iload_n 2 dX3_indexInOrder_53 rfl (j_iret dX3_indexInOrder_54 ?_)
              exact hp k (by omega) h3
          · rw [wr_1, v1, hm] at h2
            exact absurd (nI_le (Nat.le_refl _) (by omega)) h2
        | succ n2 ih2 =>
          intro o ho
          refine j_iload 0 dX3_indexInOrder_15 rfl (j_aload_n 3 dX3_indexInOrder_17 rfl (j_getI dX3_indexInOrder_18 fX3_30 (by first | assumption | rfl) (j_icmp_ge (tgt := 48) dX3_indexInOrder_21 rfl (fun h2 => ?_) (fun h2 => ?_))))
          · rw [wr_1, v1, hm] at h2
            exact absurd h2 (nI_ge (by omega) (by omega))
          · refine j_iload_n 1 dX3_indexInOrder_24 rfl (j_aload_n 3 dX3_indexInOrder_25 rfl (j_iload 0 dX3_indexInOrder_26 rfl (j_iload_n 2 dX3_indexInOrder_28 rfl (j_V2 dX3_indexInOrder_29 kX3_79 (by first | assumption | rfl) (c_comesBefore hZ hV (by omega) (by omega) ?_)))))
            have hih := ih2 (o + 1) (by omega)
            rw [show abN ρ k (o + 1) = abN ρ k o + (if cbB ρ o k = true then 1 else 0) from rfl] at hih
            by_cases hc : cbB ρ o k = true
            · rw [if_pos hc] at hih ⊢
              refine j_if_eq (tgt := 39) dX3_indexInOrder_32 rfl (fun h9 => absurd h9 (by decide)) (fun _ => (j_iconst (v := 1) dX3_indexInOrder_35 rfl (j_goto (tgt := 40) dX3_indexInOrder_36 rfl ?_)))
              refine j_iadd dX3_indexInOrder_40 ?_
              rw [nI_1]
              refine j_istore_n (lv' := [(3, _), (4, _), (2, _), (0, _), (1, _)]) dX3_indexInOrder_41 rfl (j_iinc (y := 1) (lv' := [(4, _), (3, _), (2, _), (0, _), (1, _)]) 1 dX3_indexInOrder_42 rfl rfl rfl (j_goto (tgt := 15) dX3_indexInOrder_45 rfl ?_))
              rw [nI_1]
              exact JW.locals [0, 1, 2, 3, 4] rfl hih
            · rw [if_neg hc] at hih ⊢
              refine j_if_eq (tgt := 39) dX3_indexInOrder_32 rfl (fun _ => (j_iconst (v := 0) dX3_indexInOrder_39 rfl (j_iadd dX3_indexInOrder_40 ?_))) (fun h9 => absurd (by decide) h9)
              rw [show nI (abN ρ k o) + (0 : Int32) = nI (abN ρ k o + 0) from nI_add _ 0]
              refine j_istore_n (lv' := [(3, _), (4, _), (2, _), (0, _), (1, _)]) dX3_indexInOrder_41 rfl (j_iinc (y := 1) (lv' := [(4, _), (3, _), (2, _), (0, _), (1, _)]) 1 dX3_indexInOrder_42 rfl rfl rfl (j_goto (tgt := 15) dX3_indexInOrder_45 rfl ?_))
              rw [nI_1]
              exact JW.locals [0, 1, 2, 3, 4] rfl hih
      refine j_iload_n 0 dX3_indexInOrder_2 rfl (j_aload_n 1 dX3_indexInOrder_3 rfl (j_getI dX3_indexInOrder_4 fX3_30 (by first | assumption | rfl) (j_icmp_ge (tgt := 61) dX3_indexInOrder_7 rfl (fun h1 => ?_) (fun h1 => ?_))))
      · rw [wr_1, v1, hm] at h1
        exact absurd h1 (nI_ge (by omega) (by omega))
      · refine j_iconst (v := 0) dX3_indexInOrder_10 rfl (j_istore_n (lv' := [(3, _), (2, _), (0, _), (1, _)]) dX3_indexInOrder_11 rfl (j_iconst (v := 0) dX3_indexInOrder_12 rfl (j_istore (lv' := [(4, _), (3, _), (2, _), (0, _), (1, _)]) dX3_indexInOrder_13 rfl ?_)))
        exact JW.locals [0, 1, 2, 3, 4] rfl (loop2 m 0 (by omega))
  refine j_iconst (v := 0) dX3_indexInOrder_0 rfl (j_istore_n (lv' := [(2, _), (0, _), (1, _)]) dX3_indexInOrder_1 rfl ?_)
  exact JW.locals [0, 1, 2] rfl (loop m 0 (by omega) (fun q hq => absurd hq (Nat.not_lt_zero _)))
