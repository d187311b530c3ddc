theorem c_in {g : GT} {Z : ZT} {I : IT} {L : LT} {Post : PT} {x y z : Int64} (ht : y ≤ x ∧ x ≤ z → Post (some (.int 1)) Z I L) (hf : ¬ (y ≤ x ∧ x ≤ z) → Post (some (.int 0)) Z I L) : CM g 0 0 0 mX6_in [.long x, .long y, .long z] Z I L Post := by
  refine CM_intro ?_
  refine j_lload_n 0 dX6_in_0 rfl (j_lload_n 1 dX6_in_1 rfl (j_lcmp dX6_in_2 (j_if_lt (tgt := 17) dX6_in_3 rfl (fun h3 => ?_) (fun h3 => ?_))))
  · refine j_iconst (v := 0) dX6_in_17 rfl (j_zret dX6_in_18 (by decide) ?_)
    first | exact ht ⟨Int64.not_lt.mp (fun q => h3 ((lg_cmp_lt _ _).mpr q)), Int64.not_lt.mp (fun q => h10 ((lg_cmp_gt _ _).mpr q))⟩ | exact hf (fun q => absurd ((lg_cmp_lt _ _).mp h3) (Int64.not_lt.mpr q.1)) | exact hf (fun q => absurd ((lg_cmp_gt _ _).mp h10) (Int64.not_lt.mpr q.2))
  · refine j_lload_n 0 dX6_in_6 rfl (j_lload 2 dX6_in_7 rfl (j_lcmp dX6_in_9 (j_if_gt (tgt := 17) dX6_in_10 rfl (fun h10 => ?_) (fun h10 => ?_))))
    · refine j_iconst (v := 0) dX6_in_17 rfl (j_zret dX6_in_18 (by decide) ?_)
      first | exact ht ⟨Int64.not_lt.mp (fun q => h3 ((lg_cmp_lt _ _).mpr q)), Int64.not_lt.mp (fun q => h10 ((lg_cmp_gt _ _).mpr q))⟩ | exact hf (fun q => absurd ((lg_cmp_lt _ _).mp h3) (Int64.not_lt.mpr q.1)) | exact hf (fun q => absurd ((lg_cmp_gt _ _).mp h10) (Int64.not_lt.mpr q.2))
    · refine j_iconst (v := 1) dX6_in_13 rfl (j_goto (tgt := 18) dX6_in_14 rfl (j_zret dX6_in_18 (by decide) ?_))
      first | exact ht ⟨Int64.not_lt.mp (fun q => h3 ((lg_cmp_lt _ _).mpr q)), Int64.not_lt.mp (fun q => h10 ((lg_cmp_gt _ _).mpr q))⟩ | exact hf (fun q => absurd ((lg_cmp_lt _ _).mp h3) (Int64.not_lt.mpr q.1)) | exact hf (fun q => absurd ((lg_cmp_gt _ _).mp h10) (Int64.not_lt.mpr q.2))
theorem c_inB {g : GT} {Z : ZT} {I : IT} {L : LT} {Post : PT} {x : Int32} {y z : Int64} (a b : Nat) (hb : b < 2 ^ 31) (hy : y.toInt = (a : Int)) (hz : z.toInt = (b : Int)) (hp : isBt a b x (Post (some (.int 1)) Z I L) (Post (some (.int 0)) Z I L)) : CM g 0 0 0 mX6_in [.long x.toInt64, .long y, .long z] Z I L Post := by
  refine c_in (fun h => ?_) (fun h => ?_)
  · rw [i64_le, i64_le, i32_64, hy, hz] at h
    exact isBt_t hp hb h.1 h.2
  · rw [i64_le, i64_le, i32_64, hy, hz] at h
    exact isBt_f hp hb h
theorem c_mIsOffset {g : GT} {Z : ZT} {I : IT} {L : LT} {Post : PT} {x : Int32} (hp : isBt 0 3 x (Post (some (.int 1)) Z I L) (Post (some (.int 0)) Z I L)) : CM g 1 0 0 mX6_isOffset [.int x] Z I L Post := by
  refine CM_intro ?_
  refine j_iload_n 0 dX6_isOffset_0 rfl (j_i2l dX6_isOffset_1 (j_lconst (v := 0) dX6_isOffset_2 rfl (j_ldc2 (v := 3) dX6_isOffset_3 (List.mem_of_getElem? (i := 853) (by decide +kernel)) (j_S3 dX6_isOffset_6 kX6_68 (c_inB 0 3 (by decide) rfl rfl ?_)))))
  refine ⟨fun j h1 h2 e => ?_, fun h => ?_⟩
  · refine j_zret dX6_isOffset_9 (by decide) ?_
    exact hp.1 j h1 h2 e
  · refine j_zret dX6_isOffset_9 (by decide) ?_
    exact hp.2 h
theorem c_has {g : GT} {Z : ZT} {I : IT} {L : LT} {Post : PT} {s j : Nat} (hs : s < 2 ^ 31) (hj : j < 31) (ht : s.testBit j = true → Post (some (.int 1)) Z I L) (hf : s.testBit j = false → Post (some (.int 0)) Z I L) : CM g 0 0 0 mX6_has [.int (nI s), .int (nI j)] Z I L Post := by
  refine CM_intro ?_
  have e := bitI hs (show j < 32 by omega)
  cases hb : s.testBit j with
  | true =>
    rw [hb] at e
    refine j_iload_n 0 dX6_has_0 rfl (j_iload_n 1 dX6_has_1 rfl (j_ishr dX6_has_2 (j_iconst (v := 1) dX6_has_3 rfl (j_iand dX6_has_4 (j_iconst (v := 1) dX6_has_5 rfl (j_icmp_ne (tgt := 13) dX6_has_6 rfl (fun h6 => ?_) (fun h6 => ?_)))))))
    · refine j_iconst (v := 0) dX6_has_13 rfl (j_zret dX6_has_14 (by decide) ?_)
      first | exact ht hb | exact absurd e h6
    · refine j_iconst (v := 1) dX6_has_9 rfl (j_goto (tgt := 14) dX6_has_10 rfl (j_zret dX6_has_14 (by decide) ?_))
      first | exact ht hb | exact absurd e h6
  | false =>
    rw [hb] at e
    refine j_iload_n 0 dX6_has_0 rfl (j_iload_n 1 dX6_has_1 rfl (j_ishr dX6_has_2 (j_iconst (v := 1) dX6_has_3 rfl (j_iand dX6_has_4 (j_iconst (v := 1) dX6_has_5 rfl (j_icmp_ne (tgt := 13) dX6_has_6 rfl (fun h6 => ?_) (fun h6 => ?_)))))))
    · refine j_iconst (v := 0) dX6_has_13 rfl (j_zret dX6_has_14 (by decide) ?_)
      first | exact hf hb | exact absurd (e.symm.trans h6) (by decide)
    · refine j_iconst (v := 1) dX6_has_9 rfl (j_goto (tgt := 14) dX6_has_10 rfl (j_zret dX6_has_14 (by decide) ?_))
      first | exact hf hb | exact absurd (e.symm.trans h6) (by decide)
def onF (s : Nat) : Nat → Nat
  | 0 => 0
  | k + 1 => onF s k + (if s.testBit k then 1 else 0)
theorem onF_le (s : Nat) : ∀ k, onF s k ≤ k
  | 0 => Nat.le_refl 0
  | k + 1 => by have := onF_le s k; unfold onF; split <;> omega
theorem c_ones {g : GT} {Z : ZT} {I : IT} {L : LT} {Post : PT} {s : Nat} (hs : s < 2 ^ 31) (hp : Post (some (.int (nI (onF s 14)))) Z I L) : CM g 0 0 0 mX6_ones [.int (nI s)] Z I L Post := by
  refine CM_intro ?_
  have loop : ∀ (m k : Nat), k + m = 14 → JW g mX6_ones (rmO 0 0 0) (QM Post 0 0) 4 [(2, .int (nI k)), (1, .int (nI (onF s k))), (0, .int (nI s))] [] 0 0 Z I L := by
    intro m
    induction m with
    | zero =>
      intro k hk
      have hk : k = 14 := by omega
      subst hk
      refine j_iload_n 0 dX6_ones_4 rfl (j_bipush (v := 14) dX6_ones_5 rfl (j_icmp_ge (tgt := 24) dX6_ones_7 rfl (fun h1 => ?_) (fun h1 => ?_)))
      · refine j_iload_n 1 dX6_ones_24 rfl (j_iret dX6_ones_25 ?_)
        exact hp
      · exact absurd (by decide) h1
    | succ m ih =>
      intro k hk
      refine j_iload_n 0 dX6_ones_4 rfl (j_bipush (v := 14) dX6_ones_5 rfl (j_icmp_ge (tgt := 24) dX6_ones_7 rfl (fun h1 => ?_) (fun h1 => ?_)))
      · exact absurd h1 (nI_ge (show k < 14 by omega) (by decide))
      · refine j_iload_n 1 dX6_ones_10 rfl (j_iload_n 2 dX6_ones_11 rfl (j_iload_n 0 dX6_ones_12 rfl (j_ishr dX6_ones_13 (j_iconst (v := 1) dX6_ones_14 rfl (j_iand dX6_ones_15 (j_iadd dX6_ones_16 (j_istore_n (lv' := [(1, _), (2, _), (0, _)]) dX6_ones_17 rfl (j_iinc (y := 1) (lv' := [(2, _), (1, _), (0, _)]) 1 dX6_ones_18 rfl rfl rfl (j_goto (tgt := 4) dX6_ones_21 rfl ?_)))))))))
        rw [bitI hs (show k < 32 by omega), nI_add, nI_1]
        exact JW.locals [0, 1, 2] rfl (ih (k + 1) (by omega))
  refine j_iconst (v := 0) dX6_ones_0 rfl (j_istore_n (lv' := [(1, _), (0, _)]) dX6_ones_1 rfl (j_iconst (v := 0) dX6_ones_2 rfl (j_istore_n (lv' := [(2, _), (1, _), (0, _)]) dX6_ones_3 rfl ?_)))
  exact loop 14 0 rfl
