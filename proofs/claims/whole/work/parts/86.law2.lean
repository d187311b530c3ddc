theorem wL110 : Cond.constantLong RL 110 4294967295 ∈ lw_tbl := List.mem_of_getElem? (i := 1081) (by decide +kernel)
theorem w_group {g : GT} {nm : String} {Qf : QF} {Z : ZT} {I : IT} {L : LT} {i : Nat} (hX : isX Z) (hM : isM Z) (hi : i + 5 ≤ g.2.1) (hg : g.2.1 < 2 ^ 31) (hs : RSt I L) (k : ∀ I' L', RSt I' L' → JW g (mLw nm) room_1 Qf 1205 [(3, .int (nI i)), (2, .ref 198), (1, .ref 0), (0, .ref 1001)] [] 213 2924 Z I' L') : JW g (mLw nm) room_1 Qf 696 [(3, .int (nI i)), (2, .ref 198), (1, .ref 0), (0, .ref 1001)] [] 213 2924 Z I L := by
  obtain ⟨t, n, c, w, ρ, A, K, E, sd, sc, sm, ho⟩ := hs
  have x0 := hX.1
  have m0 := hM.1
  by_cases h : ∃ j, 1 ≤ j ∧ j ≤ 9 ∧ g.2.2 (i + 2) = nI j
  · obtain ⟨j, h1, h9, e2⟩ := h
    refine j_aload_n 2 dL_law_696 rfl (j_aload_n 3 dL_law_697 rfl (j_iload_n 0 dL_law_698 rfl (j_iconst (v := 1) dL_law_699 rfl (j_iadd dL_law_700 (j_saload (i + 1) dL_law_701 (nI_add i 1) (by omega) (by omega) (j_aload_n 3 dL_law_702 rfl (j_iload_n 0 dL_law_703 rfl (j_iconst (v := 2) dL_law_704 rfl (j_iadd dL_law_705 (j_saload (i + 2) dL_law_706 (nI_add i 2) (by omega) (by omega) ?_))))))))))
    rw [e2]
    refine j_V2 dL_law_707 kL_90 (by first | assumption | rfl) (k_group hX sc ho h1 h9 (fun I1 c1 q1 => ?_))
    refine j_aload_n 1 dL_law_710 rfl (j_aload_n 3 dL_law_711 rfl (j_iload_n 0 dL_law_712 rfl (j_iconst (v := 1) dL_law_713 rfl (j_iadd dL_law_714 (j_saload (i + 1) dL_law_715 (nI_add i 1) (by omega) (by omega) (j_aload_n 3 dL_law_716 rfl (j_iload_n 0 dL_law_717 rfl (j_iconst (v := 2) dL_law_718 rfl (j_iadd dL_law_719 (j_saload (i + 2) dL_law_720 (nI_add i 2) (by omega) (by omega) ?_))))))))))
    rw [e2]
    refine j_V2 dL_law_721 kL_93 (by first | assumption | rfl) (q_group hM (sm.eqM q1 rfl) ho h1 h9 (fun I2 m2 q2 => ?_))
    refine j_icmp_eq (tgt := 1205) dL_law_724 rfl (fun gq => ?_) (fun gq => ?_)
    · exact k _ _ ⟨t, n, c, w, giF c (g.2.2 (i + 1)) j ρ, acA A ρ, K, E, sd, c1.eqC q2 rfl, m2, ho.act sc.2.2.2.1.1 (OKz.gi ho.1 _ ho.2.2.1 j)⟩
    · exact absurd rfl gq
  · have hx : ∀ j, 1 ≤ j → j ≤ 9 → g.2.2 (i + 2) ≠ nI j := fun j h1 h9 e => h ⟨j, h1, h9, e⟩
    refine j_aload_n 2 dL_law_696 rfl (j_aload_n 3 dL_law_697 rfl (j_iload_n 0 dL_law_698 rfl (j_iconst (v := 1) dL_law_699 rfl (j_iadd dL_law_700 (j_saload (i + 1) dL_law_701 (nI_add i 1) (by omega) (by omega) (j_aload_n 3 dL_law_702 rfl (j_iload_n 0 dL_law_703 rfl (j_iconst (v := 2) dL_law_704 rfl (j_iadd dL_law_705 (j_saload (i + 2) dL_law_706 (nI_add i 2) (by omega) (by omega) ?_))))))))))
    refine j_V2 dL_law_707 kL_90 (by first | assumption | rfl) (k_group_b hX sc ho hx ?_)
    refine j_aload_n 1 dL_law_710 rfl (j_aload_n 3 dL_law_711 rfl (j_iload_n 0 dL_law_712 rfl (j_iconst (v := 1) dL_law_713 rfl (j_iadd dL_law_714 (j_saload (i + 1) dL_law_715 (nI_add i 1) (by omega) (by omega) (j_aload_n 3 dL_law_716 rfl (j_iload_n 0 dL_law_717 rfl (j_iconst (v := 2) dL_law_718 rfl (j_iadd dL_law_719 (j_saload (i + 2) dL_law_720 (nI_add i 2) (by omega) (by omega) ?_))))))))))
    refine j_V2 dL_law_721 kL_93 (by first | assumption | rfl) (q_group_b hM sm ho hx ?_)
    refine j_icmp_eq (tgt := 1205) dL_law_724 rfl (fun gq => ?_) (fun gq => ?_)
    · exact k _ _ ⟨t, n, c, w, ρ, A, K, E, sd, sc, sm, ho⟩
    · exact absurd rfl gq
theorem w_reset {g : GT} {nm : String} {Qf : QF} {Z : ZT} {I : IT} {L : LT} {i : Nat} (hX : isX Z) (hM : isM Z) (hi : i + 5 ≤ g.2.1) (hg : g.2.1 < 2 ^ 31) (hs : RSt I L) (k : ∀ I' L', RSt I' L' → JW g (mLw nm) room_1 Qf 1205 [(3, .int (nI i)), (2, .ref 198), (1, .ref 0), (0, .ref 1001)] [] 213 2924 Z I' L') : JW g (mLw nm) room_1 Qf 729 [(3, .int (nI i)), (2, .ref 198), (1, .ref 0), (0, .ref 1001)] [] 213 2924 Z I L := by
  obtain ⟨t, n, c, w, ρ, A, K, E, sd, sc, sm, ho⟩ := hs
  have x0 := hX.1
  have m0 := hM.1
  refine j_aload_n 2 dL_law_729 rfl ?_
  refine j_V0 dL_law_730 kL_94 (by first | assumption | rfl) (k_reset hX sc ho (fun I1 c1 q1 => ?_))
  refine j_aload_n 1 dL_law_733 rfl ?_
  refine j_V0 dL_law_734 kL_97 (by first | assumption | rfl) (q_reset hM (sm.eqM q1 rfl) ho (fun I2 m2 q2 => ?_))
  refine j_icmp_eq (tgt := 1205) dL_law_737 rfl (fun gq => ?_) (fun gq => ?_)
  · exact k _ _ ⟨t, n, c, w, rsF ρ, acA A ρ, K, E, sd, c1.eqC q2 rfl, m2, ho.act sc.2.2.2.1.1 ho.2.2.1.rs⟩
  · exact absurd rfl gq
theorem w_undo {g : GT} {nm : String} {Qf : QF} {Z : ZT} {I : IT} {L : LT} {i : Nat} (hX : isX Z) (hM : isM Z) (hi : i + 5 ≤ g.2.1) (hg : g.2.1 < 2 ^ 31) (hs : RSt I L) (k : ∀ I' L', RSt I' L' → JW g (mLw nm) room_1 Qf 1205 [(3, .int (nI i)), (2, .ref 198), (1, .ref 0), (0, .ref 1001)] [] 213 2924 Z I' L') : JW g (mLw nm) room_1 Qf 742 [(3, .int (nI i)), (2, .ref 198), (1, .ref 0), (0, .ref 1001)] [] 213 2924 Z I L := by
  obtain ⟨t, n, c, w, ρ, A, K, E, sd, sc, sm, ho⟩ := hs
  have x0 := hX.1
  have m0 := hM.1
  by_cases h0 : A.2.1 = 0
  · skip
    refine j_aload_n 2 dL_law_742 rfl ?_
    refine j_V0 dL_law_743 kL_98 (by first | assumption | rfl) (k_undo_l hX sc ho h0 ?_)
    refine j_aload_n 1 dL_law_746 rfl ?_
    refine j_V0 dL_law_747 kL_101 (by first | assumption | rfl) (q_undo_l hM sm ho h0 ?_)
    refine j_icmp_eq (tgt := 1205) dL_law_750 rfl (fun gq => ?_) (fun gq => ?_)
    · exact k _ _ ⟨t, n, c, w, ρ, A, K, E, sd, sc, sm, ho⟩
    · exact absurd rfl gq
  · have h0 : 0 < A.2.1 := by omega
    refine j_aload_n 2 dL_law_742 rfl ?_
    refine j_V0 dL_law_743 kL_98 (by first | assumption | rfl) (k_undo hX sc ho h0 (fun I1 c1 q1 => ?_))
    refine j_aload_n 1 dL_law_746 rfl ?_
    refine j_V0 dL_law_747 kL_101 (by first | assumption | rfl) (q_undo hM (sm.eqM q1 rfl) ho h0 (fun I2 m2 q2 => ?_))
    refine j_icmp_eq (tgt := 1205) dL_law_750 rfl (fun gq => ?_) (fun gq => ?_)
    · exact k _ _ ⟨t, n, c, w, A.2.2 ((A.1 + 13) % 14), ((A.1 + 13) % 14, A.2.1 - 1, A.2.2), K, E, sd, c1.eqC q2 rfl, m2, ho.und sc.2.2.2.1.1 h0 sc.2.2.2.1.2.1⟩
    · exact absurd rfl gq
theorem w_ahead {g : GT} {nm : String} {Qf : QF} {Z : ZT} {I : IT} {L : LT} {i : Nat} (hX : isX Z) (hM : isM Z) (hi : i + 5 ≤ g.2.1) (hg : g.2.1 < 2 ^ 31) (hs : RSt I L) (k : ∀ I' L', RSt I' L' → JW g (mLw nm) room_1 Qf 1205 [(3, .int (nI i)), (2, .ref 198), (1, .ref 0), (0, .ref 1001)] [] 213 2924 Z I' L') : JW g (mLw nm) room_1 Qf 755 [(3, .int (nI i)), (2, .ref 198), (1, .ref 0), (0, .ref 1001)] [] 213 2924 Z I L := by
  obtain ⟨t, n, c, w, ρ, A, K, E, sd, sc, sm, ho⟩ := hs
  have x0 := hX.1
  have m0 := hM.1
  by_cases h : ∃ j v, j ≤ 9 ∧ 3 ≤ v ∧ v ≤ 12 ∧ g.2.2 (i + 2) = nI j ∧ g.2.2 (i + 3) = nI v
  · obtain ⟨j, v, h9, h3, h12, e2, e3⟩ := h
    refine j_aload_n 2 dL_law_755 rfl (j_aload_n 3 dL_law_756 rfl (j_iload_n 0 dL_law_757 rfl (j_iconst (v := 1) dL_law_758 rfl (j_iadd dL_law_759 (j_saload (i + 1) dL_law_760 (nI_add i 1) (by omega) (by omega) (j_aload_n 3 dL_law_761 rfl (j_iload_n 0 dL_law_762 rfl (j_iconst (v := 2) dL_law_763 rfl (j_iadd dL_law_764 (j_saload (i + 2) dL_law_765 (nI_add i 2) (by omega) (by omega) (j_aload_n 3 dL_law_766 rfl (j_iload_n 0 dL_law_767 rfl (j_iconst (v := 3) dL_law_768 rfl (j_iadd dL_law_769 (j_saload (i + 3) dL_law_770 (nI_add i 3) (by omega) (by omega) ?_)))))))))))))))
    rw [e2, e3]
    refine j_V3 dL_law_771 kL_102 (by first | assumption | rfl) (k_ahead hX sc ho h9 h3 h12 (fun I1 c1 q1 => ?_))
    refine j_aload_n 1 dL_law_774 rfl (j_aload_n 3 dL_law_775 rfl (j_iload_n 0 dL_law_776 rfl (j_iconst (v := 1) dL_law_777 rfl (j_iadd dL_law_778 (j_saload (i + 1) dL_law_779 (nI_add i 1) (by omega) (by omega) (j_aload_n 3 dL_law_780 rfl (j_iload_n 0 dL_law_781 rfl (j_iconst (v := 2) dL_law_782 rfl (j_iadd dL_law_783 (j_saload (i + 2) dL_law_784 (nI_add i 2) (by omega) (by omega) (j_aload_n 3 dL_law_785 rfl (j_iload_n 0 dL_law_786 rfl (j_iconst (v := 3) dL_law_787 rfl (j_iadd dL_law_788 (j_saload (i + 3) dL_law_789 (nI_add i 3) (by omega) (by omega) ?_)))))))))))))))
    rw [e2, e3]
    refine j_V3 dL_law_790 kL_105 (by first | assumption | rfl) (q_ahead hM (sm.eqM q1 rfl) ho h9 h3 h12 (fun I2 m2 q2 => ?_))
    refine j_icmp_eq (tgt := 1205) dL_law_793 rfl (fun gq => ?_) (fun gq => ?_)
    · exact k _ _ ⟨t, n, c, w, ρ, A, K, E, sd, c1.eqC q2 rfl, m2, ho⟩
    · exact absurd rfl gq
  · have hx : ∀ j v, j ≤ 9 → 3 ≤ v → v ≤ 12 → g.2.2 (i + 2) = nI j → g.2.2 (i + 3) = nI v → False := fun j v h1 h2 h3 h4 h5 => h ⟨j, v, h1, h2, h3, h4, h5⟩
    refine j_aload_n 2 dL_law_755 rfl (j_aload_n 3 dL_law_756 rfl (j_iload_n 0 dL_law_757 rfl (j_iconst (v := 1) dL_law_758 rfl (j_iadd dL_law_759 (j_saload (i + 1) dL_law_760 (nI_add i 1) (by omega) (by omega) (j_aload_n 3 dL_law_761 rfl (j_iload_n 0 dL_law_762 rfl (j_iconst (v := 2) dL_law_763 rfl (j_iadd dL_law_764 (j_saload (i + 2) dL_law_765 (nI_add i 2) (by omega) (by omega) (j_aload_n 3 dL_law_766 rfl (j_iload_n 0 dL_law_767 rfl (j_iconst (v := 3) dL_law_768 rfl (j_iadd dL_law_769 (j_saload (i + 3) dL_law_770 (nI_add i 3) (by omega) (by omega) ?_)))))))))))))))
    refine j_V3 dL_law_771 kL_102 (by first | assumption | rfl) (k_ahead_b hX sc ho hx ?_)
    refine j_aload_n 1 dL_law_774 rfl (j_aload_n 3 dL_law_775 rfl (j_iload_n 0 dL_law_776 rfl (j_iconst (v := 1) dL_law_777 rfl (j_iadd dL_law_778 (j_saload (i + 1) dL_law_779 (nI_add i 1) (by omega) (by omega) (j_aload_n 3 dL_law_780 rfl (j_iload_n 0 dL_law_781 rfl (j_iconst (v := 2) dL_law_782 rfl (j_iadd dL_law_783 (j_saload (i + 2) dL_law_784 (nI_add i 2) (by omega) (by omega) (j_aload_n 3 dL_law_785 rfl (j_iload_n 0 dL_law_786 rfl (j_iconst (v := 3) dL_law_787 rfl (j_iadd dL_law_788 (j_saload (i + 3) dL_law_789 (nI_add i 3) (by omega) (by omega) ?_)))))))))))))))
    refine j_V3 dL_law_790 kL_105 (by first | assumption | rfl) (q_ahead_b hM sm ho hx ?_)
    refine j_icmp_eq (tgt := 1205) dL_law_793 rfl (fun gq => ?_) (fun gq => ?_)
    · exact k _ _ ⟨t, n, c, w, ρ, A, K, E, sd, sc, sm, ho⟩
    · exact absurd rfl gq
theorem w_needs {g : GT} {nm : String} {Qf : QF} {Z : ZT} {I : IT} {L : LT} {i : Nat} (hX : isX Z) (hM : isM Z) (hi : i + 5 ≤ g.2.1) (hg : g.2.1 < 2 ^ 31) (hs : RSt I L) (k : ∀ I' L', RSt I' L' → JW g (mLw nm) room_1 Qf 1205 [(3, .int (nI i)), (2, .ref 198), (1, .ref 0), (0, .ref 1001)] [] 213 2924 Z I' L') : JW g (mLw nm) room_1 Qf 798 [(3, .int (nI i)), (2, .ref 198), (1, .ref 0), (0, .ref 1001)] [] 213 2924 Z I L := by
  obtain ⟨t, n, c, w, ρ, A, K, E, sd, sc, sm, ho⟩ := hs
  have x0 := hX.1
  have m0 := hM.1
  refine j_aload_n 2 dL_law_798 rfl (j_aload_n 3 dL_law_799 rfl (j_iload_n 0 dL_law_800 rfl (j_iconst (v := 1) dL_law_801 rfl (j_iadd dL_law_802 (j_saload (i + 1) dL_law_803 (nI_add i 1) (by omega) (by omega) ?_)))))
  refine j_V1 dL_law_804 kL_106 (by first | assumption | rfl) (k_needs hX sc ho (fun I1 c1 q1 => ?_))
  refine j_aload_n 1 dL_law_807 rfl (j_aload_n 3 dL_law_808 rfl (j_iload_n 0 dL_law_809 rfl (j_iconst (v := 1) dL_law_810 rfl (j_iadd dL_law_811 (j_saload (i + 1) dL_law_812 (nI_add i 1) (by omega) (by omega) ?_)))))
  refine j_V1 dL_law_813 kL_109 (by first | assumption | rfl) (q_needs hM (sm.eqM q1 rfl) ho (fun I2 m2 q2 => ?_))
  refine j_icmp_eq (tgt := 1205) dL_law_816 rfl (fun gq => ?_) (fun gq => ?_)
  · exact k _ _ ⟨t, n, c, w, ρ, A, K, E, sd, c1.eqC q2 rfl, m2, ho⟩
  · exact absurd rfl gq
theorem w_judge {g : GT} {nm : String} {Qf : QF} {Z : ZT} {I : IT} {L : LT} {i : Nat} (hX : isX Z) (hM : isM Z) (hi : i + 5 ≤ g.2.1) (hg : g.2.1 < 2 ^ 31) (hs : RSt I L) (k : ∀ I' L', RSt I' L' → JW g (mLw nm) room_1 Qf 1205 [(3, .int (nI i)), (2, .ref 198), (1, .ref 0), (0, .ref 1001)] [] 213 2924 Z I' L') : JW g (mLw nm) room_1 Qf 821 [(3, .int (nI i)), (2, .ref 198), (1, .ref 0), (0, .ref 1001)] [] 213 2924 Z I L := by
  obtain ⟨t, n, c, w, ρ, A, K, E, sd, sc, sm, ho⟩ := hs
  have x0 := hX.1
  have m0 := hM.1
  by_cases h : ∃ j R, 1 ≤ j ∧ j ≤ 3 ∧ R < htN j ∧ g.2.2 (i + 1) = nI j ∧ ((g.2.2 (i + 2)).toInt64 <<< ((32 : Int32).toInt64 &&& 63) ||| (g.2.2 (i + 3)).toInt64 &&& 4294967295) = lN R
  · obtain ⟨j, R, h1, h3, hR, e1, e2⟩ := h
    refine j_aload_n 2 dL_law_821 rfl (j_aload_n 3 dL_law_822 rfl (j_iload_n 0 dL_law_823 rfl (j_iconst (v := 1) dL_law_824 rfl (j_iadd dL_law_825 (j_saload (i + 1) dL_law_826 (nI_add i 1) (by omega) (by omega) (j_aload_n 3 dL_law_827 rfl (j_iload_n 0 dL_law_828 rfl (j_iconst (v := 2) dL_law_829 rfl (j_iadd dL_law_830 (j_saload (i + 2) dL_law_831 (nI_add i 2) (by omega) (by omega) (j_i2l dL_law_832 (j_bipush (v := 32) dL_law_833 rfl (j_lshl dL_law_835 (j_aload_n 3 dL_law_836 rfl (j_iload_n 0 dL_law_837 rfl (j_iconst (v := 3) dL_law_838 rfl (j_iadd dL_law_839 (j_saload (i + 3) dL_law_840 (nI_add i 3) (by omega) (by omega) (j_i2l dL_law_841 (j_ldc2 (v := 4294967295) dL_law_842 wL110 (j_land dL_law_845 (j_lor dL_law_846 ?_))))))))))))))))))))))
    rw [e1, e2]
    refine j_V2 dL_law_847 kL_112 (by first | assumption | rfl) (k_judge hX sc ho h1 h3 hR (fun I1 c1 q1 => ?_))
    refine j_aload_n 1 dL_law_850 rfl (j_aload_n 3 dL_law_851 rfl (j_iload_n 0 dL_law_852 rfl (j_iconst (v := 1) dL_law_853 rfl (j_iadd dL_law_854 (j_saload (i + 1) dL_law_855 (nI_add i 1) (by omega) (by omega) (j_aload_n 3 dL_law_856 rfl (j_iload_n 0 dL_law_857 rfl (j_iconst (v := 2) dL_law_858 rfl (j_iadd dL_law_859 (j_saload (i + 2) dL_law_860 (nI_add i 2) (by omega) (by omega) (j_i2l dL_law_861 (j_bipush (v := 32) dL_law_862 rfl (j_lshl dL_law_864 (j_aload_n 3 dL_law_865 rfl (j_iload_n 0 dL_law_866 rfl (j_iconst (v := 3) dL_law_867 rfl (j_iadd dL_law_868 (j_saload (i + 3) dL_law_869 (nI_add i 3) (by omega) (by omega) (j_i2l dL_law_870 (j_ldc2 (v := 4294967295) dL_law_871 wL110 (j_land dL_law_874 (j_lor dL_law_875 ?_))))))))))))))))))))))
    rw [e1, e2]
    refine j_V2 dL_law_876 kL_116 (by first | assumption | rfl) (q_judge hM (sm.eqM q1 rfl) ho h1 h3 hR (fun I2 m2 q2 => ?_))
    refine j_icmp_eq (tgt := 1205) dL_law_879 rfl (fun gq => ?_) (fun gq => ?_)
    · exact k _ _ ⟨t, n, c, w, ρ, A, K, E, sd, c1.eqC q2 rfl, m2, ho⟩
    · exact absurd rfl gq
  · have hx : ∀ j R, 1 ≤ j → j ≤ 3 → R < htN j → g.2.2 (i + 1) = nI j → ((g.2.2 (i + 2)).toInt64 <<< ((32 : Int32).toInt64 &&& 63) ||| (g.2.2 (i + 3)).toInt64 &&& 4294967295) = lN R → False := fun j R h1 h2 h3 h4 h5 => h ⟨j, R, h1, h2, h3, h4, h5⟩
    refine j_aload_n 2 dL_law_821 rfl (j_aload_n 3 dL_law_822 rfl (j_iload_n 0 dL_law_823 rfl (j_iconst (v := 1) dL_law_824 rfl (j_iadd dL_law_825 (j_saload (i + 1) dL_law_826 (nI_add i 1) (by omega) (by omega) (j_aload_n 3 dL_law_827 rfl (j_iload_n 0 dL_law_828 rfl (j_iconst (v := 2) dL_law_829 rfl (j_iadd dL_law_830 (j_saload (i + 2) dL_law_831 (nI_add i 2) (by omega) (by omega) (j_i2l dL_law_832 (j_bipush (v := 32) dL_law_833 rfl (j_lshl dL_law_835 (j_aload_n 3 dL_law_836 rfl (j_iload_n 0 dL_law_837 rfl (j_iconst (v := 3) dL_law_838 rfl (j_iadd dL_law_839 (j_saload (i + 3) dL_law_840 (nI_add i 3) (by omega) (by omega) (j_i2l dL_law_841 (j_ldc2 (v := 4294967295) dL_law_842 wL110 (j_land dL_law_845 (j_lor dL_law_846 ?_))))))))))))))))))))))
    refine j_V2 dL_law_847 kL_112 (by first | assumption | rfl) (k_judge_b hX sc ho hx ?_)
    refine j_aload_n 1 dL_law_850 rfl (j_aload_n 3 dL_law_851 rfl (j_iload_n 0 dL_law_852 rfl (j_iconst (v := 1) dL_law_853 rfl (j_iadd dL_law_854 (j_saload (i + 1) dL_law_855 (nI_add i 1) (by omega) (by omega) (j_aload_n 3 dL_law_856 rfl (j_iload_n 0 dL_law_857 rfl (j_iconst (v := 2) dL_law_858 rfl (j_iadd dL_law_859 (j_saload (i + 2) dL_law_860 (nI_add i 2) (by omega) (by omega) (j_i2l dL_law_861 (j_bipush (v := 32) dL_law_862 rfl (j_lshl dL_law_864 (j_aload_n 3 dL_law_865 rfl (j_iload_n 0 dL_law_866 rfl (j_iconst (v := 3) dL_law_867 rfl (j_iadd dL_law_868 (j_saload (i + 3) dL_law_869 (nI_add i 3) (by omega) (by omega) (j_i2l dL_law_870 (j_ldc2 (v := 4294967295) dL_law_871 wL110 (j_land dL_law_874 (j_lor dL_law_875 ?_))))))))))))))))))))))
    refine j_V2 dL_law_876 kL_116 (by first | assumption | rfl) (q_judge_b hM sm ho hx ?_)
    refine j_icmp_eq (tgt := 1205) dL_law_879 rfl (fun gq => ?_) (fun gq => ?_)
    · exact k _ _ ⟨t, n, c, w, ρ, A, K, E, sd, sc, sm, ho⟩
    · exact absurd rfl gq
theorem w_see {g : GT} {nm : String} {Qf : QF} {Z : ZT} {I : IT} {L : LT} {i : Nat} (hX : isX Z) (hM : isM Z) (hi : i + 5 ≤ g.2.1) (hg : g.2.1 < 2 ^ 31) (hs : RSt I L) (k : ∀ I' L', RSt I' L' → JW g (mLw nm) room_1 Qf 1205 [(3, .int (nI i)), (2, .ref 198), (1, .ref 0), (0, .ref 1001)] [] 213 2924 Z I' L') : JW g (mLw nm) room_1 Qf 884 [(3, .int (nI i)), (2, .ref 198), (1, .ref 0), (0, .ref 1001)] [] 213 2924 Z I L := by
  obtain ⟨t, n, c, w, ρ, A, K, E, sd, sc, sm, ho⟩ := hs
  have x0 := hX.1
  have m0 := hM.1
  by_cases h : ∃ j v, j ≤ 2 ∧ v ≤ 9 ∧ g.2.2 (i + 2) = nI j ∧ g.2.2 (i + 3) = nI v
  · obtain ⟨j, v, hj, hv, e2, e3⟩ := h
    by_cases hn : E.2.2.2 < 4
    · skip
      refine j_aload_n 2 dL_law_884 rfl (j_aload_n 3 dL_law_885 rfl (j_iload_n 0 dL_law_886 rfl (j_iconst (v := 1) dL_law_887 rfl (j_iadd dL_law_888 (j_saload (i + 1) dL_law_889 (nI_add i 1) (by omega) (by omega) (j_aload_n 3 dL_law_890 rfl (j_iload_n 0 dL_law_891 rfl (j_iconst (v := 2) dL_law_892 rfl (j_iadd dL_law_893 (j_saload (i + 2) dL_law_894 (nI_add i 2) (by omega) (by omega) (j_aload_n 3 dL_law_895 rfl (j_iload_n 0 dL_law_896 rfl (j_iconst (v := 3) dL_law_897 rfl (j_iadd dL_law_898 (j_saload (i + 3) dL_law_899 (nI_add i 3) (by omega) (by omega) ?_)))))))))))))))
      rw [e2, e3]
      refine j_V3 dL_law_900 kL_117 (by first | assumption | rfl) (k_see hX sc ho hj hv hn (fun I1 c1 q1 => ?_))
      refine j_aload_n 1 dL_law_903 rfl (j_aload_n 3 dL_law_904 rfl (j_iload_n 0 dL_law_905 rfl (j_iconst (v := 1) dL_law_906 rfl (j_iadd dL_law_907 (j_saload (i + 1) dL_law_908 (nI_add i 1) (by omega) (by omega) (j_aload_n 3 dL_law_909 rfl (j_iload_n 0 dL_law_910 rfl (j_iconst (v := 2) dL_law_911 rfl (j_iadd dL_law_912 (j_saload (i + 2) dL_law_913 (nI_add i 2) (by omega) (by omega) (j_aload_n 3 dL_law_914 rfl (j_iload_n 0 dL_law_915 rfl (j_iconst (v := 3) dL_law_916 rfl (j_iadd dL_law_917 (j_saload (i + 3) dL_law_918 (nI_add i 3) (by omega) (by omega) ?_)))))))))))))))
      rw [e2, e3]
      refine j_V3 dL_law_919 kL_120 (by first | assumption | rfl) (q_see hM (sm.eqM q1 rfl) ho hj hv hn (fun I2 m2 q2 => ?_))
      refine j_icmp_eq (tgt := 1205) dL_law_922 rfl (fun gq => ?_) (fun gq => ?_)
      · exact k _ _ ⟨t, n, c, w, ρ, A, K, seE E (g.2.2 (i + 1)) j v, sd, c1.eqC q2 rfl, m2, ho.sees hj hv hn⟩
      · exact absurd rfl gq
    · have hn : E.2.2.2 = 4 := by
        have := ho.2.2.2.2.2.1
        omega
      refine j_aload_n 2 dL_law_884 rfl (j_aload_n 3 dL_law_885 rfl (j_iload_n 0 dL_law_886 rfl (j_iconst (v := 1) dL_law_887 rfl (j_iadd dL_law_888 (j_saload (i + 1) dL_law_889 (nI_add i 1) (by omega) (by omega) (j_aload_n 3 dL_law_890 rfl (j_iload_n 0 dL_law_891 rfl (j_iconst (v := 2) dL_law_892 rfl (j_iadd dL_law_893 (j_saload (i + 2) dL_law_894 (nI_add i 2) (by omega) (by omega) (j_aload_n 3 dL_law_895 rfl (j_iload_n 0 dL_law_896 rfl (j_iconst (v := 3) dL_law_897 rfl (j_iadd dL_law_898 (j_saload (i + 3) dL_law_899 (nI_add i 3) (by omega) (by omega) ?_)))))))))))))))
      rw [e2, e3]
      refine j_V3 dL_law_900 kL_117 (by first | assumption | rfl) (k_see_f hX sc ho hj hv hn ?_)
      refine j_aload_n 1 dL_law_903 rfl (j_aload_n 3 dL_law_904 rfl (j_iload_n 0 dL_law_905 rfl (j_iconst (v := 1) dL_law_906 rfl (j_iadd dL_law_907 (j_saload (i + 1) dL_law_908 (nI_add i 1) (by omega) (by omega) (j_aload_n 3 dL_law_909 rfl (j_iload_n 0 dL_law_910 rfl (j_iconst (v := 2) dL_law_911 rfl (j_iadd dL_law_912 (j_saload (i + 2) dL_law_913 (nI_add i 2) (by omega) (by omega) (j_aload_n 3 dL_law_914 rfl (j_iload_n 0 dL_law_915 rfl (j_iconst (v := 3) dL_law_916 rfl (j_iadd dL_law_917 (j_saload (i + 3) dL_law_918 (nI_add i 3) (by omega) (by omega) ?_)))))))))))))))
      rw [e2, e3]
      refine j_V3 dL_law_919 kL_120 (by first | assumption | rfl) (q_see_f hM sm ho hj hv hn ?_)
      refine j_icmp_eq (tgt := 1205) dL_law_922 rfl (fun gq => ?_) (fun gq => ?_)
      · exact k _ _ ⟨t, n, c, w, ρ, A, K, E, sd, sc, sm, ho⟩
      · exact absurd rfl gq
  · have hx : ∀ j v, j ≤ 2 → v ≤ 9 → g.2.2 (i + 2) = nI j → g.2.2 (i + 3) = nI v → False := fun j v h1 h2 h3 h4 => h ⟨j, v, h1, h2, h3, h4⟩
    refine j_aload_n 2 dL_law_884 rfl (j_aload_n 3 dL_law_885 rfl (j_iload_n 0 dL_law_886 rfl (j_iconst (v := 1) dL_law_887 rfl (j_iadd dL_law_888 (j_saload (i + 1) dL_law_889 (nI_add i 1) (by omega) (by omega) (j_aload_n 3 dL_law_890 rfl (j_iload_n 0 dL_law_891 rfl (j_iconst (v := 2) dL_law_892 rfl (j_iadd dL_law_893 (j_saload (i + 2) dL_law_894 (nI_add i 2) (by omega) (by omega) (j_aload_n 3 dL_law_895 rfl (j_iload_n 0 dL_law_896 rfl (j_iconst (v := 3) dL_law_897 rfl (j_iadd dL_law_898 (j_saload (i + 3) dL_law_899 (nI_add i 3) (by omega) (by omega) ?_)))))))))))))))
    refine j_V3 dL_law_900 kL_117 (by first | assumption | rfl) (k_see_b hX sc ho hx ?_)
    refine j_aload_n 1 dL_law_903 rfl (j_aload_n 3 dL_law_904 rfl (j_iload_n 0 dL_law_905 rfl (j_iconst (v := 1) dL_law_906 rfl (j_iadd dL_law_907 (j_saload (i + 1) dL_law_908 (nI_add i 1) (by omega) (by omega) (j_aload_n 3 dL_law_909 rfl (j_iload_n 0 dL_law_910 rfl (j_iconst (v := 2) dL_law_911 rfl (j_iadd dL_law_912 (j_saload (i + 2) dL_law_913 (nI_add i 2) (by omega) (by omega) (j_aload_n 3 dL_law_914 rfl (j_iload_n 0 dL_law_915 rfl (j_iconst (v := 3) dL_law_916 rfl (j_iadd dL_law_917 (j_saload (i + 3) dL_law_918 (nI_add i 3) (by omega) (by omega) ?_)))))))))))))))
    refine j_V3 dL_law_919 kL_120 (by first | assumption | rfl) (q_see_b hM sm ho hx ?_)
    refine j_icmp_eq (tgt := 1205) dL_law_922 rfl (fun gq => ?_) (fun gq => ?_)
    · exact k _ _ ⟨t, n, c, w, ρ, A, K, E, sd, sc, sm, ho⟩
    · exact absurd rfl gq
theorem w_unsee {g : GT} {nm : String} {Qf : QF} {Z : ZT} {I : IT} {L : LT} {i : Nat} (hX : isX Z) (hM : isM Z) (hi : i + 5 ≤ g.2.1) (hg : g.2.1 < 2 ^ 31) (hs : RSt I L) (k : ∀ I' L', RSt I' L' → JW g (mLw nm) room_1 Qf 1205 [(3, .int (nI i)), (2, .ref 198), (1, .ref 0), (0, .ref 1001)] [] 213 2924 Z I' L') : JW g (mLw nm) room_1 Qf 927 [(3, .int (nI i)), (2, .ref 198), (1, .ref 0), (0, .ref 1001)] [] 213 2924 Z I L := by
  obtain ⟨t, n, c, w, ρ, A, K, E, sd, sc, sm, ho⟩ := hs
  have x0 := hX.1
  have m0 := hM.1
  refine j_aload_n 2 dL_law_927 rfl ?_
  refine j_V0 dL_law_928 kL_121 (by first | assumption | rfl) (k_unsee hX sc ho (fun I1 c1 q1 => ?_))
  refine j_aload_n 1 dL_law_931 rfl ?_
  refine j_V0 dL_law_932 kL_124 (by first | assumption | rfl) (q_unsee hM (sm.eqM q1 rfl) ho (fun I2 m2 q2 => ?_))
  refine j_icmp_eq (tgt := 1205) dL_law_935 rfl (fun gq => ?_) (fun gq => ?_)
  · exact k _ _ ⟨t, n, c, w, ρ, A, K, (E.1, E.2.1, E.2.2.1, 0), sd, c1.eqC q2 rfl, m2, ho.uns⟩
  · exact absurd rfl gq
theorem w_which {g : GT} {nm : String} {Qf : QF} {Z : ZT} {I : IT} {L : LT} {i : Nat} (hX : isX Z) (hM : isM Z) (hi : i + 5 ≤ g.2.1) (hg : g.2.1 < 2 ^ 31) (hs : RSt I L) (k : ∀ I' L', RSt I' L' → JW g (mLw nm) room_1 Qf 1205 [(3, .int (nI i)), (2, .ref 198), (1, .ref 0), (0, .ref 1001)] [] 213 2924 Z I' L') : JW g (mLw nm) room_1 Qf 940 [(3, .int (nI i)), (2, .ref 198), (1, .ref 0), (0, .ref 1001)] [] 213 2924 Z I L := by
  obtain ⟨t, n, c, w, ρ, A, K, E, sd, sc, sm, ho⟩ := hs
  have x0 := hX.1
  have m0 := hM.1
  refine j_aload_n 2 dL_law_940 rfl ?_
  refine j_V0 dL_law_941 kL_125 (by first | assumption | rfl) (k_which hX sc ho (fun I1 c1 q1 => ?_))
  refine j_aload_n 1 dL_law_944 rfl ?_
  refine j_V0 dL_law_945 kL_129 (by first | assumption | rfl) (q_which hM (sm.eqM q1 rfl) ho (fun I2 m2 q2 => ?_))
  refine j_lcmp dL_law_948 (j_if_eq (tgt := 1205) dL_law_949 rfl (fun gq => ?_) (fun gq => ?_))
  · exact k _ _ ⟨t, n, c, w, ρ, A, K, E, sd, c1.eqC q2 rfl, m2, ho⟩
  · exact absurd ((lg_cmp_eq _ _).mpr rfl) gq
theorem w_share {g : GT} {nm : String} {Qf : QF} {Z : ZT} {I : IT} {L : LT} {i : Nat} (hX : isX Z) (hM : isM Z) (hi : i + 5 ≤ g.2.1) (hg : g.2.1 < 2 ^ 31) (hs : RSt I L) (k : ∀ I' L', RSt I' L' → JW g (mLw nm) room_1 Qf 1205 [(3, .int (nI i)), (2, .ref 198), (1, .ref 0), (0, .ref 1001)] [] 213 2924 Z I' L') : JW g (mLw nm) room_1 Qf 954 [(3, .int (nI i)), (2, .ref 198), (1, .ref 0), (0, .ref 1001)] [] 213 2924 Z I L := by
  obtain ⟨t, n, c, w, ρ, A, K, E, sd, sc, sm, ho⟩ := hs
  have x0 := hX.1
  have m0 := hM.1
  by_cases hb : g.2.2 (i + 3) = 0
  · by_cases h : ∃ j, j < 4 ∧ g.2.2 (i + 2) = nI j
    · obtain ⟨j, hj, e2⟩ := h
      refine j_aload_n 2 dL_law_954 rfl (j_aload_n 3 dL_law_955 rfl (j_iload_n 0 dL_law_956 rfl (j_iconst (v := 1) dL_law_957 rfl (j_iadd dL_law_958 (j_saload (i + 1) dL_law_959 (nI_add i 1) (by omega) (by omega) (j_aload_n 3 dL_law_960 rfl (j_iload_n 0 dL_law_961 rfl (j_iconst (v := 2) dL_law_962 rfl (j_iadd dL_law_963 (j_saload (i + 2) dL_law_964 (nI_add i 2) (by omega) (by omega) (j_aload_n 3 dL_law_965 rfl (j_iload_n 0 dL_law_966 rfl (j_iconst (v := 3) dL_law_967 rfl (j_iadd dL_law_968 (j_saload (i + 3) dL_law_969 (nI_add i 3) (by omega) (by omega) (j_if_eq (tgt := 977) dL_law_970 rfl (fun gb => ?_) (fun gb => ?_)))))))))))))))))
      rotate_left
      · exact absurd hb gb
      refine j_iconst (v := 0) dL_law_977 rfl ?_
      rw [e2]
      refine j_V3 dL_law_978 kL_130 (by first | assumption | rfl) (k_share hX sc ho hj (fun I1 c1 q1 => ?_))
      refine j_aload_n 1 dL_law_981 rfl (j_aload_n 3 dL_law_982 rfl (j_iload_n 0 dL_law_983 rfl (j_iconst (v := 1) dL_law_984 rfl (j_iadd dL_law_985 (j_saload (i + 1) dL_law_986 (nI_add i 1) (by omega) (by omega) (j_aload_n 3 dL_law_987 rfl (j_iload_n 0 dL_law_988 rfl (j_iconst (v := 2) dL_law_989 rfl (j_iadd dL_law_990 (j_saload (i + 2) dL_law_991 (nI_add i 2) (by omega) (by omega) (j_aload_n 3 dL_law_992 rfl (j_iload_n 0 dL_law_993 rfl (j_iconst (v := 3) dL_law_994 rfl (j_iadd dL_law_995 (j_saload (i + 3) dL_law_996 (nI_add i 3) (by omega) (by omega) (j_if_eq (tgt := 1004) dL_law_997 rfl (fun gb => ?_) (fun gb => ?_)))))))))))))))))
      rotate_left
      · exact absurd hb gb
      refine j_iconst (v := 0) dL_law_1004 rfl ?_
      rw [e2]
      refine j_V3 dL_law_1005 kL_134 (by first | assumption | rfl) (q_share hM (sm.eqM q1 rfl) ho hj (fun I2 m2 q2 => ?_))
      refine j_icmp_eq (tgt := 1205) dL_law_1008 rfl (fun gq => ?_) (fun gq => ?_)
      · exact k _ _ ⟨t, n, c, w, ρ, A, K, E, sd, c1.eqC q2 rfl, m2, ho⟩
      · exact absurd rfl gq
    · have hx : ∀ j, j < 4 → g.2.2 (i + 2) ≠ nI j := fun j hj e => h ⟨j, hj, e⟩
      refine j_aload_n 2 dL_law_954 rfl (j_aload_n 3 dL_law_955 rfl (j_iload_n 0 dL_law_956 rfl (j_iconst (v := 1) dL_law_957 rfl (j_iadd dL_law_958 (j_saload (i + 1) dL_law_959 (nI_add i 1) (by omega) (by omega) (j_aload_n 3 dL_law_960 rfl (j_iload_n 0 dL_law_961 rfl (j_iconst (v := 2) dL_law_962 rfl (j_iadd dL_law_963 (j_saload (i + 2) dL_law_964 (nI_add i 2) (by omega) (by omega) (j_aload_n 3 dL_law_965 rfl (j_iload_n 0 dL_law_966 rfl (j_iconst (v := 3) dL_law_967 rfl (j_iadd dL_law_968 (j_saload (i + 3) dL_law_969 (nI_add i 3) (by omega) (by omega) (j_if_eq (tgt := 977) dL_law_970 rfl (fun gb => ?_) (fun gb => ?_)))))))))))))))))
      rotate_left
      · exact absurd hb gb
      refine j_iconst (v := 0) dL_law_977 rfl ?_
      refine j_V3 dL_law_978 kL_130 (by first | assumption | rfl) (k_share_u hx ?_)
      refine j_aload_n 1 dL_law_981 rfl (j_aload_n 3 dL_law_982 rfl (j_iload_n 0 dL_law_983 rfl (j_iconst (v := 1) dL_law_984 rfl (j_iadd dL_law_985 (j_saload (i + 1) dL_law_986 (nI_add i 1) (by omega) (by omega) (j_aload_n 3 dL_law_987 rfl (j_iload_n 0 dL_law_988 rfl (j_iconst (v := 2) dL_law_989 rfl (j_iadd dL_law_990 (j_saload (i + 2) dL_law_991 (nI_add i 2) (by omega) (by omega) (j_aload_n 3 dL_law_992 rfl (j_iload_n 0 dL_law_993 rfl (j_iconst (v := 3) dL_law_994 rfl (j_iadd dL_law_995 (j_saload (i + 3) dL_law_996 (nI_add i 3) (by omega) (by omega) (j_if_eq (tgt := 1004) dL_law_997 rfl (fun gb => ?_) (fun gb => ?_)))))))))))))))))
      rotate_left
      · exact absurd hb gb
      refine j_iconst (v := 0) dL_law_1004 rfl ?_
      refine j_V3 dL_law_1005 kL_134 (by first | assumption | rfl) (q_share_u hM sm ho hx ?_)
      refine j_icmp_eq (tgt := 1205) dL_law_1008 rfl (fun gq => ?_) (fun gq => ?_)
      · exact k _ _ ⟨t, n, c, w, ρ, A, K, E, sd, sc, sm, ho⟩
      · exact absurd rfl gq
  · by_cases h : ∃ j, j < 4 ∧ g.2.2 (i + 2) = nI j
    · obtain ⟨j, hj, e2⟩ := h
      refine j_aload_n 2 dL_law_954 rfl (j_aload_n 3 dL_law_955 rfl (j_iload_n 0 dL_law_956 rfl (j_iconst (v := 1) dL_law_957 rfl (j_iadd dL_law_958 (j_saload (i + 1) dL_law_959 (nI_add i 1) (by omega) (by omega) (j_aload_n 3 dL_law_960 rfl (j_iload_n 0 dL_law_961 rfl (j_iconst (v := 2) dL_law_962 rfl (j_iadd dL_law_963 (j_saload (i + 2) dL_law_964 (nI_add i 2) (by omega) (by omega) (j_aload_n 3 dL_law_965 rfl (j_iload_n 0 dL_law_966 rfl (j_iconst (v := 3) dL_law_967 rfl (j_iadd dL_law_968 (j_saload (i + 3) dL_law_969 (nI_add i 3) (by omega) (by omega) (j_if_eq (tgt := 977) dL_law_970 rfl (fun gb => ?_) (fun gb => ?_)))))))))))))))))
      · exact absurd gb hb
      refine j_iconst (v := 1) dL_law_973 rfl (j_goto (tgt := 978) dL_law_974 rfl ?_)
      rw [e2]
      refine j_V3 dL_law_978 kL_130 (by first | assumption | rfl) (k_share hX sc ho hj (fun I1 c1 q1 => ?_))
      refine j_aload_n 1 dL_law_981 rfl (j_aload_n 3 dL_law_982 rfl (j_iload_n 0 dL_law_983 rfl (j_iconst (v := 1) dL_law_984 rfl (j_iadd dL_law_985 (j_saload (i + 1) dL_law_986 (nI_add i 1) (by omega) (by omega) (j_aload_n 3 dL_law_987 rfl (j_iload_n 0 dL_law_988 rfl (j_iconst (v := 2) dL_law_989 rfl (j_iadd dL_law_990 (j_saload (i + 2) dL_law_991 (nI_add i 2) (by omega) (by omega) (j_aload_n 3 dL_law_992 rfl (j_iload_n 0 dL_law_993 rfl (j_iconst (v := 3) dL_law_994 rfl (j_iadd dL_law_995 (j_saload (i + 3) dL_law_996 (nI_add i 3) (by omega) (by omega) (j_if_eq (tgt := 1004) dL_law_997 rfl (fun gb => ?_) (fun gb => ?_)))))))))))))))))
      · exact absurd gb hb
      refine j_iconst (v := 1) dL_law_1000 rfl (j_goto (tgt := 1005) dL_law_1001 rfl ?_)
      rw [e2]
      refine j_V3 dL_law_1005 kL_134 (by first | assumption | rfl) (q_share hM (sm.eqM q1 rfl) ho hj (fun I2 m2 q2 => ?_))
      refine j_icmp_eq (tgt := 1205) dL_law_1008 rfl (fun gq => ?_) (fun gq => ?_)
      · exact k _ _ ⟨t, n, c, w, ρ, A, K, E, sd, c1.eqC q2 rfl, m2, ho⟩
      · exact absurd rfl gq
    · have hx : ∀ j, j < 4 → g.2.2 (i + 2) ≠ nI j := fun j hj e => h ⟨j, hj, e⟩
      refine j_aload_n 2 dL_law_954 rfl (j_aload_n 3 dL_law_955 rfl (j_iload_n 0 dL_law_956 rfl (j_iconst (v := 1) dL_law_957 rfl (j_iadd dL_law_958 (j_saload (i + 1) dL_law_959 (nI_add i 1) (by omega) (by omega) (j_aload_n 3 dL_law_960 rfl (j_iload_n 0 dL_law_961 rfl (j_iconst (v := 2) dL_law_962 rfl (j_iadd dL_law_963 (j_saload (i + 2) dL_law_964 (nI_add i 2) (by omega) (by omega) (j_aload_n 3 dL_law_965 rfl (j_iload_n 0 dL_law_966 rfl (j_iconst (v := 3) dL_law_967 rfl (j_iadd dL_law_968 (j_saload (i + 3) dL_law_969 (nI_add i 3) (by omega) (by omega) (j_if_eq (tgt := 977) dL_law_970 rfl (fun gb => ?_) (fun gb => ?_)))))))))))))))))
      · exact absurd gb hb
      refine j_iconst (v := 1) dL_law_973 rfl (j_goto (tgt := 978) dL_law_974 rfl ?_)
      refine j_V3 dL_law_978 kL_130 (by first | assumption | rfl) (k_share_u hx ?_)
      refine j_aload_n 1 dL_law_981 rfl (j_aload_n 3 dL_law_982 rfl (j_iload_n 0 dL_law_983 rfl (j_iconst (v := 1) dL_law_984 rfl (j_iadd dL_law_985 (j_saload (i + 1) dL_law_986 (nI_add i 1) (by omega) (by omega) (j_aload_n 3 dL_law_987 rfl (j_iload_n 0 dL_law_988 rfl (j_iconst (v := 2) dL_law_989 rfl (j_iadd dL_law_990 (j_saload (i + 2) dL_law_991 (nI_add i 2) (by omega) (by omega) (j_aload_n 3 dL_law_992 rfl (j_iload_n 0 dL_law_993 rfl (j_iconst (v := 3) dL_law_994 rfl (j_iadd dL_law_995 (j_saload (i + 3) dL_law_996 (nI_add i 3) (by omega) (by omega) (j_if_eq (tgt := 1004) dL_law_997 rfl (fun gb => ?_) (fun gb => ?_)))))))))))))))))
      · exact absurd gb hb
      refine j_iconst (v := 1) dL_law_1000 rfl (j_goto (tgt := 1005) dL_law_1001 rfl ?_)
      refine j_V3 dL_law_1005 kL_134 (by first | assumption | rfl) (q_share_u hM sm ho hx ?_)
      refine j_icmp_eq (tgt := 1205) dL_law_1008 rfl (fun gq => ?_) (fun gq => ?_)
      · exact k _ _ ⟨t, n, c, w, ρ, A, K, E, sd, sc, sm, ho⟩
      · exact absurd rfl gq
theorem w_chance {g : GT} {nm : String} {Qf : QF} {Z : ZT} {I : IT} {L : LT} {i : Nat} (hX : isX Z) (hM : isM Z) (hi : i + 5 ≤ g.2.1) (hg : g.2.1 < 2 ^ 31) (hs : RSt I L) (k : ∀ I' L', RSt I' L' → JW g (mLw nm) room_1 Qf 1205 [(3, .int (nI i)), (2, .ref 198), (1, .ref 0), (0, .ref 1001)] [] 213 2924 Z I' L') : JW g (mLw nm) room_1 Qf 1013 [(3, .int (nI i)), (2, .ref 198), (1, .ref 0), (0, .ref 1001)] [] 213 2924 Z I L := by
  obtain ⟨t, n, c, w, ρ, A, K, E, sd, sc, sm, ho⟩ := hs
  have x0 := hX.1
  have m0 := hM.1
  by_cases hb : g.2.2 (i + 4) = 0
  · by_cases h : ∃ j v, 1 ≤ j ∧ j ≤ 2 ∧ v ≤ 10 ∧ g.2.2 (i + 2) = nI j ∧ g.2.2 (i + 3) = nI v
    · obtain ⟨j, v, h1, h2, hv, e2, e3⟩ := h
      refine j_aload_n 2 dL_law_1013 rfl (j_aload_n 3 dL_law_1014 rfl (j_iload_n 0 dL_law_1015 rfl (j_iconst (v := 1) dL_law_1016 rfl (j_iadd dL_law_1017 (j_saload (i + 1) dL_law_1018 (nI_add i 1) (by omega) (by omega) (j_aload_n 3 dL_law_1019 rfl (j_iload_n 0 dL_law_1020 rfl (j_iconst (v := 2) dL_law_1021 rfl (j_iadd dL_law_1022 (j_saload (i + 2) dL_law_1023 (nI_add i 2) (by omega) (by omega) (j_aload_n 3 dL_law_1024 rfl (j_iload_n 0 dL_law_1025 rfl (j_iconst (v := 3) dL_law_1026 rfl (j_iadd dL_law_1027 (j_saload (i + 3) dL_law_1028 (nI_add i 3) (by omega) (by omega) (j_aload_n 3 dL_law_1029 rfl (j_iload_n 0 dL_law_1030 rfl (j_iconst (v := 4) dL_law_1031 rfl (j_iadd dL_law_1032 (j_saload (i + 4) dL_law_1033 (nI_add i 4) (by omega) (by omega) (j_if_eq (tgt := 1041) dL_law_1034 rfl (fun gb => ?_) (fun gb => ?_))))))))))))))))))))))
      rotate_left
      · exact absurd hb gb
      refine j_iconst (v := 0) dL_law_1041 rfl ?_
      rw [e2, e3]
      refine j_V4 dL_law_1042 kL_135 (by first | assumption | rfl) (k_chance hX sc ho h1 h2 hv (fun I1 c1 q1 => ?_))
      refine j_aload_n 1 dL_law_1045 rfl (j_aload_n 3 dL_law_1046 rfl (j_iload_n 0 dL_law_1047 rfl (j_iconst (v := 1) dL_law_1048 rfl (j_iadd dL_law_1049 (j_saload (i + 1) dL_law_1050 (nI_add i 1) (by omega) (by omega) (j_aload_n 3 dL_law_1051 rfl (j_iload_n 0 dL_law_1052 rfl (j_iconst (v := 2) dL_law_1053 rfl (j_iadd dL_law_1054 (j_saload (i + 2) dL_law_1055 (nI_add i 2) (by omega) (by omega) (j_aload_n 3 dL_law_1056 rfl (j_iload_n 0 dL_law_1057 rfl (j_iconst (v := 3) dL_law_1058 rfl (j_iadd dL_law_1059 (j_saload (i + 3) dL_law_1060 (nI_add i 3) (by omega) (by omega) (j_aload_n 3 dL_law_1061 rfl (j_iload_n 0 dL_law_1062 rfl (j_iconst (v := 4) dL_law_1063 rfl (j_iadd dL_law_1064 (j_saload (i + 4) dL_law_1065 (nI_add i 4) (by omega) (by omega) (j_if_eq (tgt := 1073) dL_law_1066 rfl (fun gb => ?_) (fun gb => ?_))))))))))))))))))))))
      rotate_left
      · exact absurd hb gb
      refine j_iconst (v := 0) dL_law_1073 rfl ?_
      rw [e2, e3]
      refine j_V4 dL_law_1074 kL_139 (by first | assumption | rfl) (q_chance hM (sm.eqM q1 rfl) ho h1 h2 hv (fun I2 m2 q2 => ?_))
      refine j_icmp_eq (tgt := 1205) dL_law_1077 rfl (fun gq => ?_) (fun gq => ?_)
      · exact k _ _ ⟨t, n, c, w, ρ, A, K, E, sd, c1.eqC q2 rfl, m2, ho⟩
      · exact absurd rfl gq
    · have hx : ∀ j v, 1 ≤ j → j ≤ 2 → v ≤ 10 → g.2.2 (i + 2) = nI j → g.2.2 (i + 3) = nI v → False := fun j v h1 h2 h3 h4 h5 => h ⟨j, v, h1, h2, h3, h4, h5⟩
      refine j_aload_n 2 dL_law_1013 rfl (j_aload_n 3 dL_law_1014 rfl (j_iload_n 0 dL_law_1015 rfl (j_iconst (v := 1) dL_law_1016 rfl (j_iadd dL_law_1017 (j_saload (i + 1) dL_law_1018 (nI_add i 1) (by omega) (by omega) (j_aload_n 3 dL_law_1019 rfl (j_iload_n 0 dL_law_1020 rfl (j_iconst (v := 2) dL_law_1021 rfl (j_iadd dL_law_1022 (j_saload (i + 2) dL_law_1023 (nI_add i 2) (by omega) (by omega) (j_aload_n 3 dL_law_1024 rfl (j_iload_n 0 dL_law_1025 rfl (j_iconst (v := 3) dL_law_1026 rfl (j_iadd dL_law_1027 (j_saload (i + 3) dL_law_1028 (nI_add i 3) (by omega) (by omega) (j_aload_n 3 dL_law_1029 rfl (j_iload_n 0 dL_law_1030 rfl (j_iconst (v := 4) dL_law_1031 rfl (j_iadd dL_law_1032 (j_saload (i + 4) dL_law_1033 (nI_add i 4) (by omega) (by omega) (j_if_eq (tgt := 1041) dL_law_1034 rfl (fun gb => ?_) (fun gb => ?_))))))))))))))))))))))
      rotate_left
      · exact absurd hb gb
      refine j_iconst (v := 0) dL_law_1041 rfl ?_
      refine j_V4 dL_law_1042 kL_135 (by first | assumption | rfl) (k_chance_b hx ?_)
      refine j_aload_n 1 dL_law_1045 rfl (j_aload_n 3 dL_law_1046 rfl (j_iload_n 0 dL_law_1047 rfl (j_iconst (v := 1) dL_law_1048 rfl (j_iadd dL_law_1049 (j_saload (i + 1) dL_law_1050 (nI_add i 1) (by omega) (by omega) (j_aload_n 3 dL_law_1051 rfl (j_iload_n 0 dL_law_1052 rfl (j_iconst (v := 2) dL_law_1053 rfl (j_iadd dL_law_1054 (j_saload (i + 2) dL_law_1055 (nI_add i 2) (by omega) (by omega) (j_aload_n 3 dL_law_1056 rfl (j_iload_n 0 dL_law_1057 rfl (j_iconst (v := 3) dL_law_1058 rfl (j_iadd dL_law_1059 (j_saload (i + 3) dL_law_1060 (nI_add i 3) (by omega) (by omega) (j_aload_n 3 dL_law_1061 rfl (j_iload_n 0 dL_law_1062 rfl (j_iconst (v := 4) dL_law_1063 rfl (j_iadd dL_law_1064 (j_saload (i + 4) dL_law_1065 (nI_add i 4) (by omega) (by omega) (j_if_eq (tgt := 1073) dL_law_1066 rfl (fun gb => ?_) (fun gb => ?_))))))))))))))))))))))
      rotate_left
      · exact absurd hb gb
      refine j_iconst (v := 0) dL_law_1073 rfl ?_
      refine j_V4 dL_law_1074 kL_139 (by first | assumption | rfl) (q_chance_b hM sm ho hx ?_)
      refine j_icmp_eq (tgt := 1205) dL_law_1077 rfl (fun gq => ?_) (fun gq => ?_)
      · exact k _ _ ⟨t, n, c, w, ρ, A, K, E, sd, sc, sm, ho⟩
      · exact absurd rfl gq
  · by_cases h : ∃ j v, 1 ≤ j ∧ j ≤ 2 ∧ v ≤ 10 ∧ g.2.2 (i + 2) = nI j ∧ g.2.2 (i + 3) = nI v
    · obtain ⟨j, v, h1, h2, hv, e2, e3⟩ := h
      refine j_aload_n 2 dL_law_1013 rfl (j_aload_n 3 dL_law_1014 rfl (j_iload_n 0 dL_law_1015 rfl (j_iconst (v := 1) dL_law_1016 rfl (j_iadd dL_law_1017 (j_saload (i + 1) dL_law_1018 (nI_add i 1) (by omega) (by omega) (j_aload_n 3 dL_law_1019 rfl (j_iload_n 0 dL_law_1020 rfl (j_iconst (v := 2) dL_law_1021 rfl (j_iadd dL_law_1022 (j_saload (i + 2) dL_law_1023 (nI_add i 2) (by omega) (by omega) (j_aload_n 3 dL_law_1024 rfl (j_iload_n 0 dL_law_1025 rfl (j_iconst (v := 3) dL_law_1026 rfl (j_iadd dL_law_1027 (j_saload (i + 3) dL_law_1028 (nI_add i 3) (by omega) (by omega) (j_aload_n 3 dL_law_1029 rfl (j_iload_n 0 dL_law_1030 rfl (j_iconst (v := 4) dL_law_1031 rfl (j_iadd dL_law_1032 (j_saload (i + 4) dL_law_1033 (nI_add i 4) (by omega) (by omega) (j_if_eq (tgt := 1041) dL_law_1034 rfl (fun gb => ?_) (fun gb => ?_))))))))))))))))))))))
      · exact absurd gb hb
      refine j_iconst (v := 1) dL_law_1037 rfl (j_goto (tgt := 1042) dL_law_1038 rfl ?_)
      rw [e2, e3]
      refine j_V4 dL_law_1042 kL_135 (by first | assumption | rfl) (k_chance hX sc ho h1 h2 hv (fun I1 c1 q1 => ?_))
      refine j_aload_n 1 dL_law_1045 rfl (j_aload_n 3 dL_law_1046 rfl (j_iload_n 0 dL_law_1047 rfl (j_iconst (v := 1) dL_law_1048 rfl (j_iadd dL_law_1049 (j_saload (i + 1) dL_law_1050 (nI_add i 1) (by omega) (by omega) (j_aload_n 3 dL_law_1051 rfl (j_iload_n 0 dL_law_1052 rfl (j_iconst (v := 2) dL_law_1053 rfl (j_iadd dL_law_1054 (j_saload (i + 2) dL_law_1055 (nI_add i 2) (by omega) (by omega) (j_aload_n 3 dL_law_1056 rfl (j_iload_n 0 dL_law_1057 rfl (j_iconst (v := 3) dL_law_1058 rfl (j_iadd dL_law_1059 (j_saload (i + 3) dL_law_1060 (nI_add i 3) (by omega) (by omega) (j_aload_n 3 dL_law_1061 rfl (j_iload_n 0 dL_law_1062 rfl (j_iconst (v := 4) dL_law_1063 rfl (j_iadd dL_law_1064 (j_saload (i + 4) dL_law_1065 (nI_add i 4) (by omega) (by omega) (j_if_eq (tgt := 1073) dL_law_1066 rfl (fun gb => ?_) (fun gb => ?_))))))))))))))))))))))
      · exact absurd gb hb
      refine j_iconst (v := 1) dL_law_1069 rfl (j_goto (tgt := 1074) dL_law_1070 rfl ?_)
      rw [e2, e3]
      refine j_V4 dL_law_1074 kL_139 (by first | assumption | rfl) (q_chance hM (sm.eqM q1 rfl) ho h1 h2 hv (fun I2 m2 q2 => ?_))
      refine j_icmp_eq (tgt := 1205) dL_law_1077 rfl (fun gq => ?_) (fun gq => ?_)
      · exact k _ _ ⟨t, n, c, w, ρ, A, K, E, sd, c1.eqC q2 rfl, m2, ho⟩
      · exact absurd rfl gq
    · have hx : ∀ j v, 1 ≤ j → j ≤ 2 → v ≤ 10 → g.2.2 (i + 2) = nI j → g.2.2 (i + 3) = nI v → False := fun j v h1 h2 h3 h4 h5 => h ⟨j, v, h1, h2, h3, h4, h5⟩
      refine j_aload_n 2 dL_law_1013 rfl (j_aload_n 3 dL_law_1014 rfl (j_iload_n 0 dL_law_1015 rfl (j_iconst (v := 1) dL_law_1016 rfl (j_iadd dL_law_1017 (j_saload (i + 1) dL_law_1018 (nI_add i 1) (by omega) (by omega) (j_aload_n 3 dL_law_1019 rfl (j_iload_n 0 dL_law_1020 rfl (j_iconst (v := 2) dL_law_1021 rfl (j_iadd dL_law_1022 (j_saload (i + 2) dL_law_1023 (nI_add i 2) (by omega) (by omega) (j_aload_n 3 dL_law_1024 rfl (j_iload_n 0 dL_law_1025 rfl (j_iconst (v := 3) dL_law_1026 rfl (j_iadd dL_law_1027 (j_saload (i + 3) dL_law_1028 (nI_add i 3) (by omega) (by omega) (j_aload_n 3 dL_law_1029 rfl (j_iload_n 0 dL_law_1030 rfl (j_iconst (v := 4) dL_law_1031 rfl (j_iadd dL_law_1032 (j_saload (i + 4) dL_law_1033 (nI_add i 4) (by omega) (by omega) (j_if_eq (tgt := 1041) dL_law_1034 rfl (fun gb => ?_) (fun gb => ?_))))))))))))))))))))))
      · exact absurd gb hb
      refine j_iconst (v := 1) dL_law_1037 rfl (j_goto (tgt := 1042) dL_law_1038 rfl ?_)
      refine j_V4 dL_law_1042 kL_135 (by first | assumption | rfl) (k_chance_b hx ?_)
      refine j_aload_n 1 dL_law_1045 rfl (j_aload_n 3 dL_law_1046 rfl (j_iload_n 0 dL_law_1047 rfl (j_iconst (v := 1) dL_law_1048 rfl (j_iadd dL_law_1049 (j_saload (i + 1) dL_law_1050 (nI_add i 1) (by omega) (by omega) (j_aload_n 3 dL_law_1051 rfl (j_iload_n 0 dL_law_1052 rfl (j_iconst (v := 2) dL_law_1053 rfl (j_iadd dL_law_1054 (j_saload (i + 2) dL_law_1055 (nI_add i 2) (by omega) (by omega) (j_aload_n 3 dL_law_1056 rfl (j_iload_n 0 dL_law_1057 rfl (j_iconst (v := 3) dL_law_1058 rfl (j_iadd dL_law_1059 (j_saload (i + 3) dL_law_1060 (nI_add i 3) (by omega) (by omega) (j_aload_n 3 dL_law_1061 rfl (j_iload_n 0 dL_law_1062 rfl (j_iconst (v := 4) dL_law_1063 rfl (j_iadd dL_law_1064 (j_saload (i + 4) dL_law_1065 (nI_add i 4) (by omega) (by omega) (j_if_eq (tgt := 1073) dL_law_1066 rfl (fun gb => ?_) (fun gb => ?_))))))))))))))))))))))
      · exact absurd gb hb
      refine j_iconst (v := 1) dL_law_1069 rfl (j_goto (tgt := 1074) dL_law_1070 rfl ?_)
      refine j_V4 dL_law_1074 kL_139 (by first | assumption | rfl) (q_chance_b hM sm ho hx ?_)
      refine j_icmp_eq (tgt := 1205) dL_law_1077 rfl (fun gq => ?_) (fun gq => ?_)
      · exact k _ _ ⟨t, n, c, w, ρ, A, K, E, sd, sc, sm, ho⟩
      · exact absurd rfl gq
theorem w_seed {g : GT} {nm : String} {Qf : QF} {Z : ZT} {I : IT} {L : LT} {i : Nat} (hX : isX Z) (hM : isM Z) (hi : i + 5 ≤ g.2.1) (hg : g.2.1 < 2 ^ 31) (hs : RSt I L) (k : ∀ I' L', RSt I' L' → JW g (mLw nm) room_1 Qf 1205 [(3, .int (nI i)), (2, .ref 198), (1, .ref 0), (0, .ref 1001)] [] 213 2924 Z I' L') : JW g (mLw nm) room_1 Qf 1082 [(3, .int (nI i)), (2, .ref 198), (1, .ref 0), (0, .ref 1001)] [] 213 2924 Z I L := by
  obtain ⟨t, n, c, w, ρ, A, K, E, sd, sc, sm, ho⟩ := hs
  have x0 := hX.1
  have m0 := hM.1
  refine j_aload_n 2 dL_law_1082 rfl (j_aload_n 3 dL_law_1083 rfl (j_iload_n 0 dL_law_1084 rfl (j_iconst (v := 1) dL_law_1085 rfl (j_iadd dL_law_1086 (j_saload (i + 1) dL_law_1087 (nI_add i 1) (by omega) (by omega) (j_i2l dL_law_1088 (j_bipush (v := 32) dL_law_1089 rfl (j_lshl dL_law_1091 (j_aload_n 3 dL_law_1092 rfl (j_iload_n 0 dL_law_1093 rfl (j_iconst (v := 2) dL_law_1094 rfl (j_iadd dL_law_1095 (j_saload (i + 2) dL_law_1096 (nI_add i 2) (by omega) (by omega) (j_i2l dL_law_1097 (j_ldc2 (v := 4294967295) dL_law_1098 wL110 (j_land dL_law_1101 (j_lor dL_law_1102 ?_)))))))))))))))))
  refine j_V1 dL_law_1103 kL_140 (by first | assumption | rfl) (k_seed hX sc ho (fun L1 c1 q1 => ?_))
  refine j_aload_n 1 dL_law_1106 rfl (j_aload_n 3 dL_law_1107 rfl (j_iload_n 0 dL_law_1108 rfl (j_iconst (v := 1) dL_law_1109 rfl (j_iadd dL_law_1110 (j_saload (i + 1) dL_law_1111 (nI_add i 1) (by omega) (by omega) (j_i2l dL_law_1112 (j_bipush (v := 32) dL_law_1113 rfl (j_lshl dL_law_1115 (j_aload_n 3 dL_law_1116 rfl (j_iload_n 0 dL_law_1117 rfl (j_iconst (v := 2) dL_law_1118 rfl (j_iadd dL_law_1119 (j_saload (i + 2) dL_law_1120 (nI_add i 2) (by omega) (by omega) (j_i2l dL_law_1121 (j_ldc2 (v := 4294967295) dL_law_1122 wL110 (j_land dL_law_1125 (j_lor dL_law_1126 ?_)))))))))))))))))
  refine j_V1 dL_law_1127 kL_144 (by first | assumption | rfl) (q_seed hM (sm.eqM eqM.rfl' (q1 198 (by decide))) ho (fun L2 m2 q2 => ?_))
  refine j_lcmp dL_law_1130 (j_if_eq (tgt := 1205) dL_law_1131 rfl (fun gq => ?_) (fun gq => ?_))
  · exact k _ _ ⟨t, n, c, w, ρ, A, K, E, ((g.2.2 (i + 1)).toInt64 <<< ((32 : Int32).toInt64 &&& 63) ||| (g.2.2 (i + 2)).toInt64 &&& 4294967295), c1.eqC eqC.rfl' (q2 0 (by decide)), m2, ho⟩
  · exact absurd ((lg_cmp_eq _ _).mpr rfl) gq
theorem w_drawn {g : GT} {nm : String} {Qf : QF} {Z : ZT} {I : IT} {L : LT} {i : Nat} (hX : isX Z) (hM : isM Z) (hi : i + 5 ≤ g.2.1) (hg : g.2.1 < 2 ^ 31) (hs : RSt I L) (k : ∀ I' L', RSt I' L' → JW g (mLw nm) room_1 Qf 1205 [(3, .int (nI i)), (2, .ref 198), (1, .ref 0), (0, .ref 1001)] [] 213 2924 Z I' L') : JW g (mLw nm) room_1 Qf 1136 [(3, .int (nI i)), (2, .ref 198), (1, .ref 0), (0, .ref 1001)] [] 213 2924 Z I L := by
  obtain ⟨t, n, c, w, ρ, A, K, E, sd, sc, sm, ho⟩ := hs
  have x0 := hX.1
  have m0 := hM.1
  by_cases h : ∃ j, 1 ≤ j ∧ j ≤ 40 ∧ g.2.2 (i + 1) = nI j
  · obtain ⟨j, h1, h40, e1⟩ := h
    refine j_aload_n 2 dL_law_1136 rfl (j_aload_n 3 dL_law_1137 rfl (j_iload_n 0 dL_law_1138 rfl (j_iconst (v := 1) dL_law_1139 rfl (j_iadd dL_law_1140 (j_saload (i + 1) dL_law_1141 (nI_add i 1) (by omega) (by omega) ?_)))))
    rw [e1]
    refine j_V1 dL_law_1142 kL_145 (by first | assumption | rfl) (k_drawn hX sc ho h1 h40 (fun I1 L1 c1 q1 l1 => ?_))
    refine j_aload_n 1 dL_law_1145 rfl (j_aload_n 3 dL_law_1146 rfl (j_iload_n 0 dL_law_1147 rfl (j_iconst (v := 1) dL_law_1148 rfl (j_iadd dL_law_1149 (j_saload (i + 1) dL_law_1150 (nI_add i 1) (by omega) (by omega) ?_)))))
    rw [e1]
    refine j_V1 dL_law_1151 kL_148 (by first | assumption | rfl) (q_drawn hM (sm.eqM q1 (l1 198 (by decide))) ho h1 h40 (fun I2 L2 m2 q2 l2 => ?_))
    refine j_icmp_eq (tgt := 1205) dL_law_1154 rfl (fun gq => ?_) (fun gq => ?_)
    · exact k _ _ ⟨t, n, c, w, ρ, A, K, E, sdF sd j, c1.eqC q2 (l2 0 (by decide)), m2, ho⟩
    · exact absurd rfl gq
  · have hx : ∀ j, 1 ≤ j → j ≤ 40 → g.2.2 (i + 1) ≠ nI j := fun j h1 h9 e => h ⟨j, h1, h9, e⟩
    refine j_aload_n 2 dL_law_1136 rfl (j_aload_n 3 dL_law_1137 rfl (j_iload_n 0 dL_law_1138 rfl (j_iconst (v := 1) dL_law_1139 rfl (j_iadd dL_law_1140 (j_saload (i + 1) dL_law_1141 (nI_add i 1) (by omega) (by omega) ?_)))))
    refine j_V1 dL_law_1142 kL_145 (by first | assumption | rfl) (k_drawn_b hX sc ho hx ?_)
    refine j_aload_n 1 dL_law_1145 rfl (j_aload_n 3 dL_law_1146 rfl (j_iload_n 0 dL_law_1147 rfl (j_iconst (v := 1) dL_law_1148 rfl (j_iadd dL_law_1149 (j_saload (i + 1) dL_law_1150 (nI_add i 1) (by omega) (by omega) ?_)))))
    refine j_V1 dL_law_1151 kL_148 (by first | assumption | rfl) (q_drawn_b hM sm ho hx ?_)
    refine j_icmp_eq (tgt := 1205) dL_law_1154 rfl (fun gq => ?_) (fun gq => ?_)
    · exact k _ _ ⟨t, n, c, w, ρ, A, K, E, sd, sc, sm, ho⟩
    · exact absurd rfl gq
theorem w_keep {g : GT} {nm : String} {Qf : QF} {Z : ZT} {I : IT} {L : LT} {i : Nat} (hX : isX Z) (hM : isM Z) (hi : i + 5 ≤ g.2.1) (hg : g.2.1 < 2 ^ 31) (hs : RSt I L) (k : ∀ I' L', RSt I' L' → JW g (mLw nm) room_1 Qf 1205 [(3, .int (nI i)), (2, .ref 198), (1, .ref 0), (0, .ref 1001)] [] 213 2924 Z I' L') : JW g (mLw nm) room_1 Qf 1159 [(3, .int (nI i)), (2, .ref 198), (1, .ref 0), (0, .ref 1001)] [] 213 2924 Z I L := by
  obtain ⟨t, n, c, w, ρ, A, K, E, sd, sc, sm, ho⟩ := hs
  have x0 := hX.1
  have m0 := hM.1
  by_cases h : ∃ j, j < 2 ∧ g.2.2 (i + 1) = nI j
  · obtain ⟨j, hj, e1⟩ := h
    refine j_aload_n 2 dL_law_1159 rfl (j_aload_n 3 dL_law_1160 rfl (j_iload_n 0 dL_law_1161 rfl (j_iconst (v := 1) dL_law_1162 rfl (j_iadd dL_law_1163 (j_saload (i + 1) dL_law_1164 (nI_add i 1) (by omega) (by omega) ?_)))))
    rw [e1]
    refine j_V1 dL_law_1165 kL_149 (by first | assumption | rfl) (k_keep hX sc ho hj (fun I1 c1 q1 => ?_))
    refine j_aload_n 1 dL_law_1168 rfl (j_aload_n 3 dL_law_1169 rfl (j_iload_n 0 dL_law_1170 rfl (j_iconst (v := 1) dL_law_1171 rfl (j_iadd dL_law_1172 (j_saload (i + 1) dL_law_1173 (nI_add i 1) (by omega) (by omega) ?_)))))
    rw [e1]
    refine j_V1 dL_law_1174 kL_152 (by first | assumption | rfl) (q_keep hM (sm.eqM q1 rfl) ho hj (fun I2 m2 q2 => ?_))
    refine j_icmp_eq (tgt := 1205) dL_law_1177 rfl (fun gq => ?_) (fun gq => ?_)
    · exact k _ _ ⟨t, n, c, w, ρ, A, kpK K j ρ, E, sd, c1.eqC q2 rfl, m2, ho.kee j⟩
    · exact absurd rfl gq
  · have hx : ∀ j, j < 2 → g.2.2 (i + 1) ≠ nI j := fun j hj e => h ⟨j, hj, e⟩
    refine j_aload_n 2 dL_law_1159 rfl (j_aload_n 3 dL_law_1160 rfl (j_iload_n 0 dL_law_1161 rfl (j_iconst (v := 1) dL_law_1162 rfl (j_iadd dL_law_1163 (j_saload (i + 1) dL_law_1164 (nI_add i 1) (by omega) (by omega) ?_)))))
    refine j_V1 dL_law_1165 kL_149 (by first | assumption | rfl) (k_keep_u hX sc ho hx ?_)
    refine j_aload_n 1 dL_law_1168 rfl (j_aload_n 3 dL_law_1169 rfl (j_iload_n 0 dL_law_1170 rfl (j_iconst (v := 1) dL_law_1171 rfl (j_iadd dL_law_1172 (j_saload (i + 1) dL_law_1173 (nI_add i 1) (by omega) (by omega) ?_)))))
    refine j_V1 dL_law_1174 kL_152 (by first | assumption | rfl) (q_keep_u hM sm ho hx ?_)
    refine j_icmp_eq (tgt := 1205) dL_law_1177 rfl (fun gq => ?_) (fun gq => ?_)
    · exact k _ _ ⟨t, n, c, w, ρ, A, K, E, sd, sc, sm, ho⟩
    · exact absurd rfl gq
theorem w_again {g : GT} {nm : String} {Qf : QF} {Z : ZT} {I : IT} {L : LT} {i : Nat} (hX : isX Z) (hM : isM Z) (hi : i + 5 ≤ g.2.1) (hg : g.2.1 < 2 ^ 31) (hs : RSt I L) (k : ∀ I' L', RSt I' L' → JW g (mLw nm) room_1 Qf 1205 [(3, .int (nI i)), (2, .ref 198), (1, .ref 0), (0, .ref 1001)] [] 213 2924 Z I' L') : JW g (mLw nm) room_1 Qf 1182 [(3, .int (nI i)), (2, .ref 198), (1, .ref 0), (0, .ref 1001)] [] 213 2924 Z I L := by
  obtain ⟨t, n, c, w, ρ, A, K, E, sd, sc, sm, ho⟩ := hs
  have x0 := hX.1
  have m0 := hM.1
  by_cases h : ∃ j, j < 2 ∧ g.2.2 (i + 1) = nI j
  · obtain ⟨j, hj, e1⟩ := h
    cases hb : K.2 j with
    | true =>
      refine j_aload_n 2 dL_law_1182 rfl (j_aload_n 3 dL_law_1183 rfl (j_iload_n 0 dL_law_1184 rfl (j_iconst (v := 1) dL_law_1185 rfl (j_iadd dL_law_1186 (j_saload (i + 1) dL_law_1187 (nI_add i 1) (by omega) (by omega) ?_)))))
      rw [e1]
      refine j_V1 dL_law_1188 kL_153 (by first | assumption | rfl) (k_again hX sc ho hj hb (fun I1 c1 q1 => ?_))
      refine j_aload_n 1 dL_law_1191 rfl (j_aload_n 3 dL_law_1192 rfl (j_iload_n 0 dL_law_1193 rfl (j_iconst (v := 1) dL_law_1194 rfl (j_iadd dL_law_1195 (j_saload (i + 1) dL_law_1196 (nI_add i 1) (by omega) (by omega) ?_)))))
      rw [e1]
      refine j_V1 dL_law_1197 kL_156 (by first | assumption | rfl) (q_again hM (sm.eqM q1 rfl) ho hj hb (fun I2 m2 q2 => ?_))
      refine j_icmp_eq (tgt := 1205) dL_law_1200 rfl (fun gq => ?_) (fun gq => ?_)
      · exact k _ _ ⟨t, n, c, w, K.1 j, (A.1, 0, A.2.2), K, E, sd, c1.eqC q2 rfl, m2, ho.aga hj hb⟩
      · exact absurd rfl gq
    | false =>
      refine j_aload_n 2 dL_law_1182 rfl (j_aload_n 3 dL_law_1183 rfl (j_iload_n 0 dL_law_1184 rfl (j_iconst (v := 1) dL_law_1185 rfl (j_iadd dL_law_1186 (j_saload (i + 1) dL_law_1187 (nI_add i 1) (by omega) (by omega) ?_)))))
      rw [e1]
      refine j_V1 dL_law_1188 kL_153 (by first | assumption | rfl) (k_again_l hX sc ho hj hb ?_)
      refine j_aload_n 1 dL_law_1191 rfl (j_aload_n 3 dL_law_1192 rfl (j_iload_n 0 dL_law_1193 rfl (j_iconst (v := 1) dL_law_1194 rfl (j_iadd dL_law_1195 (j_saload (i + 1) dL_law_1196 (nI_add i 1) (by omega) (by omega) ?_)))))
      rw [e1]
      refine j_V1 dL_law_1197 kL_156 (by first | assumption | rfl) (q_again_l hM sm ho hj hb ?_)
      refine j_icmp_eq (tgt := 1205) dL_law_1200 rfl (fun gq => ?_) (fun gq => ?_)
      · exact k _ _ ⟨t, n, c, w, ρ, A, K, E, sd, sc, sm, ho⟩
      · exact absurd rfl gq
  · have hx : ∀ j, j < 2 → g.2.2 (i + 1) ≠ nI j := fun j hj e => h ⟨j, hj, e⟩
    refine j_aload_n 2 dL_law_1182 rfl (j_aload_n 3 dL_law_1183 rfl (j_iload_n 0 dL_law_1184 rfl (j_iconst (v := 1) dL_law_1185 rfl (j_iadd dL_law_1186 (j_saload (i + 1) dL_law_1187 (nI_add i 1) (by omega) (by omega) ?_)))))
    refine j_V1 dL_law_1188 kL_153 (by first | assumption | rfl) (k_again_u hX sc ho hx ?_)
    refine j_aload_n 1 dL_law_1191 rfl (j_aload_n 3 dL_law_1192 rfl (j_iload_n 0 dL_law_1193 rfl (j_iconst (v := 1) dL_law_1194 rfl (j_iadd dL_law_1195 (j_saload (i + 1) dL_law_1196 (nI_add i 1) (by omega) (by omega) ?_)))))
    refine j_V1 dL_law_1197 kL_156 (by first | assumption | rfl) (q_again_u hM sm ho hx ?_)
    refine j_icmp_eq (tgt := 1205) dL_law_1200 rfl (fun gq => ?_) (fun gq => ?_)
    · exact k _ _ ⟨t, n, c, w, ρ, A, K, E, sd, sc, sm, ho⟩
    · exact absurd rfl gq
