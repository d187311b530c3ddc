theorem fa_self (I : IT) (a : Nat) : upR I a (I a) = I := by
  funext b
  unfold upR
  split
  · rename_i h; rw [h]
  · rfl
theorem upR_R (I : IT) (a : Nat) (f h : Nat → Int32) : upR (upR I a f) a h = upR I a h := by funext b; unfold upR; split <;> rfl
theorem upd_app (f : Nat → Int32) (k : Nat) (v : Int32) (j : Nat) : upd f k v j = if j = k then v else f j := rfl
theorem c_noParts {g : GT} {Z : ZT} {I : IT} {L : LT} {Post : PT} {a : Nat} (hK : zK Z a = 7) (hL : zL Z a = 47) (hp : Post none Z (upR I a (npF (I a))) L) : CM g 0 0 0 mX6_noParts [.ref a] Z I L Post := by
  refine CM_intro ?_
  refine j_iconst (v := 0) dX6_noParts_0 rfl (j_istore_n (lv' := [(1, _), (0, _)]) dX6_noParts_1 rfl (j_iload_n 0 dX6_noParts_2 rfl (j_iconst (v := 4) dX6_noParts_3 rfl (j_icmp_ge (tgt := 21) dX6_noParts_4 rfl (fun h9 => absurd h9 (by decide)) (fun _ => (j_aload_n 1 dX6_noParts_7 rfl (j_bipush (v := 18) dX6_noParts_8 rfl (j_iload_n 0 dX6_noParts_10 rfl (j_iadd dX6_noParts_11 (j_bipush (v := -9) dX6_noParts_12 rfl (j_iastore 18 dX6_noParts_14 (by first | assumption | rfl) (by first | assumption | rfl) (by omega) (j_iinc (y := 1) (lv' := [(1, _), (0, _)]) 0 dX6_noParts_15 rfl rfl rfl (j_goto (tgt := 2) dX6_noParts_18 rfl (j_iload_n 0 dX6_noParts_2 rfl (j_iconst (v := 4) dX6_noParts_3 rfl (j_icmp_ge (tgt := 21) dX6_noParts_4 rfl (fun h9 => absurd h9 (by decide)) (fun _ => (j_aload_n 1 dX6_noParts_7 rfl (j_bipush (v := 18) dX6_noParts_8 rfl (j_iload_n 0 dX6_noParts_10 rfl (j_iadd dX6_noParts_11 (j_bipush (v := -9) dX6_noParts_12 rfl (j_iastore 19 dX6_noParts_14 (by first | assumption | rfl) (by first | assumption | rfl) (by omega) (j_iinc (y := 1) (lv' := [(1, _), (0, _)]) 0 dX6_noParts_15 rfl rfl rfl (j_goto (tgt := 2) dX6_noParts_18 rfl (j_iload_n 0 dX6_noParts_2 rfl (j_iconst (v := 4) dX6_noParts_3 rfl (j_icmp_ge (tgt := 21) dX6_noParts_4 rfl (fun h9 => absurd h9 (by decide)) (fun _ => (j_aload_n 1 dX6_noParts_7 rfl (j_bipush (v := 18) dX6_noParts_8 rfl (j_iload_n 0 dX6_noParts_10 rfl (j_iadd dX6_noParts_11 (j_bipush (v := -9) dX6_noParts_12 rfl (j_iastore 20 dX6_noParts_14 (by first | assumption | rfl) (by first | assumption | rfl) (by omega) (j_iinc (y := 1) (lv' := [(1, _), (0, _)]) 0 dX6_noParts_15 rfl rfl rfl (j_goto (tgt := 2) dX6_noParts_18 rfl (j_iload_n 0 dX6_noParts_2 rfl (j_iconst (v := 4) dX6_noParts_3 rfl (j_icmp_ge (tgt := 21) dX6_noParts_4 rfl (fun h9 => absurd h9 (by decide)) (fun _ => (j_aload_n 1 dX6_noParts_7 rfl (j_bipush (v := 18) dX6_noParts_8 rfl (j_iload_n 0 dX6_noParts_10 rfl (j_iadd dX6_noParts_11 (j_bipush (v := -9) dX6_noParts_12 rfl (j_iastore 21 dX6_noParts_14 (by first | assumption | rfl) (by first | assumption | rfl) (by omega) (j_iinc (y := 1) (lv' := [(1, _), (0, _)]) 0 dX6_noParts_15 rfl rfl rfl (j_goto (tgt := 2) dX6_noParts_18 rfl (j_iload_n 0 dX6_noParts_2 rfl (j_iconst (v := 4) dX6_noParts_3 rfl (j_icmp_ge (tgt := 21) dX6_noParts_4 rfl (fun _ => (j_vret dX6_noParts_21 ?_)) (fun h9 => absurd (by decide) h9)))))))))))))))))))))))))))))))))))))))))))))))))))))
  simp only [upI, upR_R, upR_s]
  exact hp
theorem c_quiet {g : GT} {Z : ZT} {I : IT} {L : LT} {Post : PT} {a : Nat} (hK : zK Z a = 7) (hL : zL Z a = 47) (hp : Post none Z (upR I a (quF (I a))) L) : CM g 0 0 0 mX6_quiet [.ref a] Z I L Post := by
  refine CM_intro ?_
  refine j_aload_n 0 dX6_quiet_0 rfl (j_bipush (v := 7) dX6_quiet_1 rfl (j_iconst (v := 0) dX6_quiet_3 rfl (j_iastore 7 dX6_quiet_4 (by first | assumption | rfl) (by first | assumption | rfl) (by omega) (j_aload_n 0 dX6_quiet_5 rfl (j_iconst (v := 2) dX6_quiet_6 rfl (j_iconst (v := 0) dX6_quiet_7 rfl (j_iastore 2 dX6_quiet_8 (by first | assumption | rfl) (by first | assumption | rfl) (by omega) (j_vret dX6_quiet_9 ?_))))))))
  simp only [upI, upR_R, upR_s]
  exact hp
theorem c_mLose {g : GT} {Z : ZT} {I : IT} {L : LT} {Post : PT} {a : Nat} (hK : zK Z a = 7) (hL : zL Z a = 47) (hp : Post none Z (upR I a (loF (I a))) L) : CM g 1 0 0 mX6_lose [.ref a] Z I L Post := by
  refine CM_intro ?_
  refine j_aload_n 0 dX6_lose_0 rfl (j_iconst (v := 3) dX6_lose_1 rfl (j_iconst (v := 0) dX6_lose_2 rfl (j_iastore 3 dX6_lose_3 (by first | assumption | rfl) (by first | assumption | rfl) (by omega) (j_aload_n 0 dX6_lose_4 rfl (j_bipush (v := 13) dX6_lose_5 rfl (j_dup2 dX6_lose_7 rfl rfl (j_iaload 13 dX6_lose_8 (by first | assumption | rfl) (by first | assumption | rfl) (by omega) (j_iconst (v := 1) dX6_lose_9 rfl (j_iadd dX6_lose_10 (j_iastore 13 dX6_lose_11 (by first | assumption | rfl) (by first | assumption | rfl) (by omega) (j_aload_n 0 dX6_lose_12 rfl (j_S1 dX6_lose_13 kX6_121 (c_quiet hK hL (j_aload_n 0 dX6_lose_16 rfl (j_S1 dX6_lose_17 kX6_125 (c_noParts hK hL (j_vret dX6_lose_20 ?_)))))))))))))))))
  simp only [upI, upR_R, upR_s, upd_app]
  exact hp
theorem c_resetOn {g : GT} {Z : ZT} {I : IT} {L : LT} {Post : PT} {a : Nat} (hK : zK Z a = 7) (hL : zL Z a = 47) (hp : Post none Z (upR I a (quF (if I a 3 = 1 then loF (I a) else I a))) L) : CM g 2 0 0 mX6_resetOn [.ref a] Z I L Post := by
  refine CM_intro ?_
  refine j_aload_n 0 dX6_resetOn_0 rfl (j_iconst (v := 3) dX6_resetOn_1 rfl (j_iaload 3 dX6_resetOn_2 (by first | assumption | rfl) (by first | assumption | rfl) (by omega) (j_iconst (v := 1) dX6_resetOn_3 rfl (j_icmp_ne (tgt := 11) dX6_resetOn_4 rfl (fun h1 => ?_) (fun h1 => ?_)))))
  · refine j_aload_n 0 dX6_resetOn_11 rfl (j_S1 dX6_resetOn_12 kX6_121 (c_quiet hK hL (j_vret dX6_resetOn_15 ?_)))
    rw [if_neg h1] at hp
    exact hp
  · refine j_aload_n 0 dX6_resetOn_7 rfl (j_S1 dX6_resetOn_8 kX6_153 (c_mLose hK hL (j_aload_n 0 dX6_resetOn_11 rfl (j_S1 dX6_resetOn_12 kX6_121 (c_quiet hK hL (j_vret dX6_resetOn_15 ?_))))))
    rw [if_pos h1] at hp
    simp only [upR_R, upR_s]
    exact hp
theorem fIx_le (p : Nat → Bool) : ∀ n k, k ≤ fIx p n k ∧ fIx p n k ≤ k + n
  | 0, k => ⟨Nat.le_refl _, Nat.le_refl _⟩
  | n + 1, k => by
    unfold fIx
    have := fIx_le p n (k + 1)
    split <;> omega
theorem c_hearOf {g : GT} {Z : ZT} {I : IT} {L : LT} {Post : PT} {a m : Nat} {s : Int32} (hK : zK Z a = 7) (hL : zL Z a = 47) (hm : I a 30 = nI m) (h8 : m ≤ 8) (hp : Post none Z (upR I a (hoF (I a) s)) L) : CM g 1 0 0 mX6_hearOf [.ref a, .int s] Z I L Post := by
  refine CM_intro ?_
  refine j_iload_n 1 dX6_hearOf_0 rfl (j_i2l dX6_hearOf_1 (j_lconst (v := 1) dX6_hearOf_2 rfl (j_ldc2 (v := 204) dX6_hearOf_3 (List.mem_of_getElem? (i := 964) (by decide +kernel)) (j_S3 dX6_hearOf_6 kX6_68 (c_inB 1 204 (by decide) rfl rfl ?_)))))
  refine ⟨fun t h1 h2 e => ?_, fun hn => ?_⟩
  · have hin : 1 ≤ s ∧ s ≤ 204 := by rw [e]; exact ⟨nI_le (a := 1) h1 (by omega), nI_le (b := 204) h2 (by decide)⟩
    unfold hoF at hp
    rw [if_pos hin, hm, nN_nI (show m < 2 ^ 31 by omega)] at hp
    generalize hq : fIx (fun k => decide (I a (31 + k) = s)) m 0 = q at hp
    have hqm : q ≤ m := by have := fIx_le (fun k => decide (I a (31 + k) = s)) m 0; omega
    have fin : JW g mX6_hearOf (rmO 1 0 0) (QM Post 0 0) 39 [(2, .int (nI q)), (0, .ref a), (1, .int s)] [] 0 0 Z I L := by
      refine j_iload_n 0 dX6_hearOf_39 rfl (j_aload_n 1 dX6_hearOf_40 rfl (j_bipush (v := 30) dX6_hearOf_41 rfl (j_iaload 30 dX6_hearOf_43 (by first | assumption | rfl) (by first | assumption | rfl) (by omega) (j_icmp_ge (tgt := 75) dX6_hearOf_44 rfl (fun h3 => ?_) (fun h3 => ?_)))))
      · have hqe : q = m := by
          rcases Nat.lt_or_ge q m with z | z
          · rw [hm] at h3; exact absurd h3 (nI_ge z (by omega))
          · omega
        subst hqe
        rw [if_neg (Nat.lt_irrefl q)] at hp
        refine j_iload_n 0 dX6_hearOf_75 rfl (j_bipush (v := 8) dX6_hearOf_76 rfl (j_icmp_ge (tgt := 103) dX6_hearOf_78 rfl (fun h4 => ?_) (fun h4 => ?_)))
        · have : ¬ q < 8 := fun z => absurd h4 (nI_ge z (by decide))
          rw [if_neg this] at hp
          rw [fa_self] at hp
          refine j_vret dX6_hearOf_103 ?_
          exact hp
        · have hlt : q < 8 := by
            rcases Nat.lt_or_ge q 8 with z | z
            · exact z
            · exact absurd (nI_le z (by omega)) h4
          rw [if_pos hlt] at hp
          refine j_aload_n 1 dX6_hearOf_81 rfl (j_bipush (v := 31) dX6_hearOf_82 rfl (j_iload_n 0 dX6_hearOf_84 rfl (j_iadd dX6_hearOf_85 (j_iload_n 2 dX6_hearOf_86 rfl (j_iastore (31 + q) dX6_hearOf_87 (nI_add 31 q) (by first | assumption | rfl) (by omega) (j_aload_n 1 dX6_hearOf_88 rfl (j_bipush (v := 39) dX6_hearOf_89 rfl (j_iload_n 0 dX6_hearOf_91 rfl (j_iadd dX6_hearOf_92 (j_iconst (v := 1) dX6_hearOf_93 rfl (j_iastore (39 + q) dX6_hearOf_94 (nI_add 39 q) (by first | assumption | rfl) (by omega) (j_aload_n 1 dX6_hearOf_95 rfl (j_bipush (v := 30) dX6_hearOf_96 rfl (j_dup2 dX6_hearOf_98 rfl rfl (j_iaload 30 dX6_hearOf_99 (by first | assumption | rfl) (by first | assumption | rfl) (by omega) (j_iconst (v := 1) dX6_hearOf_100 rfl (j_iadd dX6_hearOf_101 (j_iastore 30 dX6_hearOf_102 (by first | assumption | rfl) (by first | assumption | rfl) (by omega) (j_vret dX6_hearOf_103 ?_)))))))))))))))))))
          simp only [upI, upR_R, upR_s, upd_app, if_neg (show ¬ 30 = 39 + q by omega), if_neg (show ¬ 30 = 31 + q by omega)]
          rw [hm]
          exact hp
      · have hlt : q < m := by
          rcases Nat.lt_or_ge q m with z | z
          · exact z
          · exact absurd (by rw [hm]; exact nI_le z (by omega)) h3
        rw [if_pos hlt] at hp
        refine j_aload_n 1 dX6_hearOf_47 rfl (j_bipush (v := 39) dX6_hearOf_48 rfl (j_iload_n 0 dX6_hearOf_50 rfl (j_iadd dX6_hearOf_51 (j_dup2 dX6_hearOf_52 rfl rfl (j_iaload (39 + q) dX6_hearOf_53 (nI_add 39 q) (by first | assumption | rfl) (by omega) (j_aload_n 1 dX6_hearOf_54 rfl (j_bipush (v := 39) dX6_hearOf_55 rfl (j_iload_n 0 dX6_hearOf_57 rfl (j_iadd dX6_hearOf_58 (j_iaload (39 + q) dX6_hearOf_59 (nI_add 39 q) (by first | assumption | rfl) (by omega) (j_bipush (v := 99) dX6_hearOf_60 rfl (j_icmp_ge (tgt := 69) dX6_hearOf_62 rfl (fun h4 => ?_) (fun h4 => ?_)))))))))))))
        · rw [if_neg (Int32.not_lt.mpr h4)] at hp
          refine j_iconst (v := 0) dX6_hearOf_69 rfl (j_iadd dX6_hearOf_70 (j_iastore (39 + q) dX6_hearOf_71 (nI_add 39 q) (by first | assumption | rfl) (by omega) (j_goto (tgt := 103) dX6_hearOf_72 rfl (j_vret dX6_hearOf_103 ?_))))
          exact hp
        · rw [if_pos (Int32.not_le.mp h4)] at hp
          refine j_iconst (v := 1) dX6_hearOf_65 rfl (j_goto (tgt := 70) dX6_hearOf_66 rfl (j_iadd dX6_hearOf_70 (j_iastore (39 + q) dX6_hearOf_71 (nI_add 39 q) (by first | assumption | rfl) (by omega) (j_goto (tgt := 103) dX6_hearOf_72 rfl (j_vret dX6_hearOf_103 ?_)))))
          exact hp
    have loop : ∀ (n k : Nat), k + n = m → fIx (fun k => decide (I a (31 + k) = s)) n k = q → JW g mX6_hearOf (rmO 1 0 0) (QM Post 0 0) 15 [(2, .int (nI k)), (0, .ref a), (1, .int s)] [] 0 0 Z I L := by
      intro n
      induction n with
      | zero =>
        intro k hk hf
        have hf : k = q := hf
        subst hf
        refine j_iload_n 0 dX6_hearOf_15 rfl (j_aload_n 1 dX6_hearOf_16 rfl (j_bipush (v := 30) dX6_hearOf_17 rfl (j_iaload 30 dX6_hearOf_19 (by first | assumption | rfl) (by first | assumption | rfl) (by omega) (j_icmp_ge (tgt := 39) dX6_hearOf_20 rfl (fun h3 => ?_) (fun h3 => ?_)))))
        · exact fin
        · exact absurd (by rw [hm]; exact nI_le (by omega) (by omega)) h3
      | succ n ih =>
        intro k hk hf
        refine j_iload_n 0 dX6_hearOf_15 rfl (j_aload_n 1 dX6_hearOf_16 rfl (j_bipush (v := 30) dX6_hearOf_17 rfl (j_iaload 30 dX6_hearOf_19 (by first | assumption | rfl) (by first | assumption | rfl) (by omega) (j_icmp_ge (tgt := 39) dX6_hearOf_20 rfl (fun h3 => ?_) (fun h3 => ?_)))))
        · rw [hm] at h3
          exact absurd h3 (nI_ge (by omega) (by omega))
        · refine j_aload_n 1 dX6_hearOf_23 rfl (j_bipush (v := 31) dX6_hearOf_24 rfl (j_iload_n 0 dX6_hearOf_26 rfl (j_iadd dX6_hearOf_27 (j_iaload (31 + k) dX6_hearOf_28 (nI_add 31 k) (by first | assumption | rfl) (by omega) (j_iload_n 2 dX6_hearOf_29 rfl (j_icmp_eq (tgt := 39) dX6_hearOf_30 rfl (fun h4 => ?_) (fun h4 => ?_)))))))
          · unfold fIx at hf
            rw [if_pos (by simpa using h4)] at hf
            subst hf
            exact fin
          · unfold fIx at hf
            rw [if_neg (by simpa using h4)] at hf
            refine j_iinc (y := 1) (lv' := [(2, _), (0, _), (1, _)]) 0 dX6_hearOf_33 rfl rfl rfl (j_goto (tgt := 15) dX6_hearOf_36 rfl ?_)
            rw [nI_1]
            exact JW.locals [0, 1, 2] rfl (ih (k + 1) (by omega) hf)
    refine j_if_ne (tgt := 13) dX6_hearOf_9 rfl (fun _ => (j_iconst (v := 0) dX6_hearOf_13 rfl (j_istore_n (lv' := [(2, _), (0, _), (1, _)]) dX6_hearOf_14 rfl ?_))) (fun h9 => absurd h9 (by decide))
    exact JW.locals [0, 1, 2] rfl (loop m 0 (by omega) hq)
  · have hno : ¬ (1 ≤ s ∧ s ≤ 204) := by
      intro z
      rw [i32_le, i32_le] at z
      obtain ⟨t, g1, g2, g3⟩ := bt_t (a := 1) (b := 204) (x := s) (by decide) z.1 z.2
      exact hn t g1 g2 g3
    refine j_if_ne (tgt := 13) dX6_hearOf_9 rfl (fun h9 => absurd (by decide) h9) (fun _ => (j_vret dX6_hearOf_12 ?_))
    unfold hoF at hp
    rw [if_neg hno, fa_self] at hp
    exact hp
theorem c_takeFlag {g : GT} {Z : ZT} {I : IT} {L : LT} {Post : PT} {a : Nat} {f : Int32} (hK : zK Z a = 7) (hL : zL Z a = 47) (hp : Post none Z (upR I a (tfF (I a) f)) L) : CM g 0 0 0 mX6_takeFlag [.ref a, .int f] Z I L Post := by
  refine CM_intro ?_
  unfold tfF at hp
  refine j_aload_n 0 dX6_takeFlag_0 rfl (j_bipush (v := 17) dX6_takeFlag_1 rfl (j_iaload 17 dX6_takeFlag_3 (by first | assumption | rfl) (by first | assumption | rfl) (by omega) (j_iload_n 1 dX6_takeFlag_4 rfl (j_icmp_eq (tgt := 42) dX6_takeFlag_5 rfl (fun h1 => ?_) (fun h1 => ?_)))))
  · refine j_vret dX6_takeFlag_42 ?_
    rw [if_pos h1, fa_self] at hp
    exact hp
  · refine j_aload_n 0 dX6_takeFlag_8 rfl (j_bipush (v := 17) dX6_takeFlag_9 rfl (j_iload_n 1 dX6_takeFlag_11 rfl (j_iastore 17 dX6_takeFlag_12 (by first | assumption | rfl) (by first | assumption | rfl) (by omega) (j_iconst (v := 0) dX6_takeFlag_13 rfl (j_istore_n (lv' := [(2, _), (0, _), (1, _)]) dX6_takeFlag_14 rfl (j_iload_n 0 dX6_takeFlag_15 rfl (j_iconst (v := 4) dX6_takeFlag_16 rfl (j_icmp_ge (tgt := 42) dX6_takeFlag_17 rfl (fun h9 => absurd h9 (by decide)) (fun _ => (j_aload_n 1 dX6_takeFlag_20 rfl (j_bipush (v := 22) dX6_takeFlag_21 rfl (j_iload_n 0 dX6_takeFlag_23 rfl (j_iadd dX6_takeFlag_24 (j_bipush (v := -9) dX6_takeFlag_25 rfl (j_iastore 22 dX6_takeFlag_27 (by first | assumption | rfl) (by first | assumption | rfl) (by omega) (j_aload_n 1 dX6_takeFlag_28 rfl (j_bipush (v := 26) dX6_takeFlag_29 rfl (j_iload_n 0 dX6_takeFlag_31 rfl (j_iadd dX6_takeFlag_32 (j_bipush (v := -9) dX6_takeFlag_33 rfl (j_iastore 26 dX6_takeFlag_35 (by first | assumption | rfl) (by first | assumption | rfl) (by omega) (j_iinc (y := 1) (lv' := [(2, _), (0, _), (1, _)]) 0 dX6_takeFlag_36 rfl rfl rfl (j_goto (tgt := 15) dX6_takeFlag_39 rfl (j_iload_n 0 dX6_takeFlag_15 rfl (j_iconst (v := 4) dX6_takeFlag_16 rfl (j_icmp_ge (tgt := 42) dX6_takeFlag_17 rfl (fun h9 => absurd h9 (by decide)) (fun _ => (j_aload_n 1 dX6_takeFlag_20 rfl (j_bipush (v := 22) dX6_takeFlag_21 rfl (j_iload_n 0 dX6_takeFlag_23 rfl (j_iadd dX6_takeFlag_24 (j_bipush (v := -9) dX6_takeFlag_25 rfl (j_iastore 23 dX6_takeFlag_27 (by first | assumption | rfl) (by first | assumption | rfl) (by omega) (j_aload_n 1 dX6_takeFlag_28 rfl (j_bipush (v := 26) dX6_takeFlag_29 rfl (j_iload_n 0 dX6_takeFlag_31 rfl (j_iadd dX6_takeFlag_32 (j_bipush (v := -9) dX6_takeFlag_33 rfl (j_iastore 27 dX6_takeFlag_35 (by first | assumption | rfl) (by first | assumption | rfl) (by omega) (j_iinc (y := 1) (lv' := [(2, _), (0, _), (1, _)]) 0 dX6_takeFlag_36 rfl rfl rfl (j_goto (tgt := 15) dX6_takeFlag_39 rfl (j_iload_n 0 dX6_takeFlag_15 rfl (j_iconst (v := 4) dX6_takeFlag_16 rfl (j_icmp_ge (tgt := 42) dX6_takeFlag_17 rfl (fun h9 => absurd h9 (by decide)) (fun _ => (j_aload_n 1 dX6_takeFlag_20 rfl (j_bipush (v := 22) dX6_takeFlag_21 rfl (j_iload_n 0 dX6_takeFlag_23 rfl (j_iadd dX6_takeFlag_24 (j_bipush (v := -9) dX6_takeFlag_25 rfl (j_iastore 24 dX6_takeFlag_27 (by first | assumption | rfl) (by first | assumption | rfl) (by omega) (j_aload_n 1 dX6_takeFlag_28 rfl (j_bipush (v := 26) dX6_takeFlag_29 rfl (j_iload_n 0 dX6_takeFlag_31 rfl (j_iadd dX6_takeFlag_32 (j_bipush (v := -9) dX6_takeFlag_33 rfl (j_iastore 28 dX6_takeFlag_35 (by first | assumption | rfl) (by first | assumption | rfl) (by omega) (j_iinc (y := 1) (lv' := [(2, _), (0, _), (1, _)]) 0 dX6_takeFlag_36 rfl rfl rfl (j_goto (tgt := 15) dX6_takeFlag_39 rfl (j_iload_n 0 dX6_takeFlag_15 rfl (j_iconst (v := 4) dX6_takeFlag_16 rfl (j_icmp_ge (tgt := 42) dX6_takeFlag_17 rfl (fun h9 => absurd h9 (by decide)) (fun _ => (j_aload_n 1 dX6_takeFlag_20 rfl (j_bipush (v := 22) dX6_takeFlag_21 rfl (j_iload_n 0 dX6_takeFlag_23 rfl (j_iadd dX6_takeFlag_24 (j_bipush (v := -9) dX6_takeFlag_25 rfl (j_iastore 25 dX6_takeFlag_27 (by first | assumption | rfl) (by first | assumption | rfl) (by omega) (j_aload_n 1 dX6_takeFlag_28 rfl (j_bipush (v := 26) dX6_takeFlag_29 rfl (j_iload_n 0 dX6_takeFlag_31 rfl (j_iadd dX6_takeFlag_32 (j_bipush (v := -9) dX6_takeFlag_33 rfl (j_iastore 29 dX6_takeFlag_35 (by first | assumption | rfl) (by first | assumption | rfl) (by omega) (j_iinc (y := 1) (lv' := [(2, _), (0, _), (1, _)]) 0 dX6_takeFlag_36 rfl rfl rfl (j_goto (tgt := 15) dX6_takeFlag_39 rfl (j_iload_n 0 dX6_takeFlag_15 rfl (j_iconst (v := 4) dX6_takeFlag_16 rfl (j_icmp_ge (tgt := 42) dX6_takeFlag_17 rfl (fun _ => (j_vret dX6_takeFlag_42 ?_)) (fun h9 => absurd (by decide) h9)))))))))))))))))))))))))))))))))))))))))))))))))))))))))))))))))))))))))))))))))
    rw [if_neg h1] at hp
    simp only [upI, upR_R, upR_s]
    exact hp
theorem c_takePair {g : GT} {Z : ZT} {I : IT} {L : LT} {Post : PT} {a pl : Nat} {x : Int32} (hK : zK Z a = 7) (hL : zL Z a = 47) (h4 : pl < 4) (hp : Post none Z (upR I a (tpF (I a) pl x)) L) : CM g 0 0 0 mX6_takePair [.ref a, .int (nI pl), .int x] Z I L Post := by
  refine CM_intro ?_
  unfold tpF at hp
  refine j_aload_n 0 dX6_takePair_0 rfl (j_bipush (v := 26) dX6_takePair_1 rfl (j_iload_n 1 dX6_takePair_3 rfl (j_iadd dX6_takePair_4 (j_iaload (26 + pl) dX6_takePair_5 (nI_add 26 pl) (by first | assumption | rfl) (by omega) (j_iload_n 2 dX6_takePair_6 rfl (j_icmp_ne (tgt := 17) dX6_takePair_7 rfl (fun h1 => ?_) (fun h1 => ?_)))))))
  · refine j_aload_n 0 dX6_takePair_17 rfl (j_bipush (v := 26) dX6_takePair_18 rfl (j_iload_n 1 dX6_takePair_20 rfl (j_iadd dX6_takePair_21 (j_iload_n 2 dX6_takePair_22 rfl (j_iastore (26 + pl) dX6_takePair_23 (nI_add 26 pl) (by first | assumption | rfl) (by omega) (j_vret dX6_takePair_24 ?_))))))
    rw [if_neg h1] at hp
    exact hp
  · refine j_aload_n 0 dX6_takePair_10 rfl (j_bipush (v := 22) dX6_takePair_11 rfl (j_iload_n 1 dX6_takePair_13 rfl (j_iadd dX6_takePair_14 (j_iload_n 2 dX6_takePair_15 rfl (j_iastore (22 + pl) dX6_takePair_16 (nI_add 22 pl) (by first | assumption | rfl) (by omega) (j_aload_n 0 dX6_takePair_17 rfl (j_bipush (v := 26) dX6_takePair_18 rfl (j_iload_n 1 dX6_takePair_20 rfl (j_iadd dX6_takePair_21 (j_iload_n 2 dX6_takePair_22 rfl (j_iastore (26 + pl) dX6_takePair_23 (nI_add 26 pl) (by first | assumption | rfl) (by omega) (j_vret dX6_takePair_24 ?_))))))))))))
    rw [if_pos h1] at hp
    simp only [upI, upR_R, upR_s]
    exact hp
