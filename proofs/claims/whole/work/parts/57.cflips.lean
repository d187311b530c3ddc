def suN (f : Nat → Nat) (fr : Nat) : Nat → Nat
  | 0 => 0
  | k + 1 => suN f fr k + f (fr + k)
def swN (c : CT) (wh : Nat) : Nat → Nat → Nat → Nat
  | 0, _, s => if ftN c s = wh then 1 else 0
  | n + 1, fr, s => suN (fun b => swN c wh n (b + 1) (s ||| 2 ^ b)) fr (14 - fr)
theorem ftN_lt (c : CT) (s : Nat) : ftN c s < 4 := by
  unfold ftN
  split
  · decide
  · split
    · decide
    · split <;> decide
theorem c_sw0 {g : GT} {Z : ZT} {I : IT} {L : LT} {Post : PT} {c : CT} {wh fr s : Nat} (xC : isCo Z) (sC : CC I c) (hwh : wh < 4) (hfr : fr ≤ 14) (hs : s < 16384) (hp : Post (some (.int (nI (swN c wh 0 fr s)))) Z I L) : CM g 2 0 0 mX5_setsWithFate [.ref 3, .int (nI wh), .int 0, .int (nI fr), .int (nI s)] Z I L Post := by
  have k1 := xC.1
  have h4 := ftN_lt c s
  refine CM_intro ?_
  refine j_iload_n 2 dX5_setsWithFate_0 rfl (j_if_gt (tgt := 20) dX5_setsWithFate_1 rfl (fun h9 => absurd h9 (by decide)) (fun _ => (j_aload_n 0 dX5_setsWithFate_4 rfl (j_iload 4 dX5_setsWithFate_5 rfl (j_V1 dX5_setsWithFate_7 kX5_298 (by first | assumption | rfl) (c_fateOf xC sC hs ?_))))))
  have hp : Post (some (.int (nI (if ftN c s = wh then 1 else 0)))) Z I L := hp
  refine j_iload_n 1 dX5_setsWithFate_10 rfl (j_icmp_ne (tgt := 18) dX5_setsWithFate_11 rfl (fun h1 => ?_) (fun h1 => ?_))
  · rw [if_neg (fun z => h1 (by rw [z]))] at hp
    refine j_iconst (v := 0) dX5_setsWithFate_18 rfl (j_iret dX5_setsWithFate_19 ?_)
    exact hp
  · rw [if_pos (nI_inj (by omega) (by omega) h1)] at hp
    refine j_iconst (v := 1) dX5_setsWithFate_14 rfl (j_goto (tgt := 19) dX5_setsWithFate_15 rfl (j_iret dX5_setsWithFate_19 ?_))
    exact hp
theorem c_sw1 {g : GT} {Z : ZT} {I : IT} {L : LT} {Post : PT} {c : CT} {wh fr s : Nat} (xC : isCo Z) (sC : CC I c) (hwh : wh < 4) (hfr : fr ≤ 14) (hs : s < 16384) (hp : Post (some (.int (nI (swN c wh 1 fr s)))) Z I L) : CM g 3 0 0 mX5_setsWithFate [.ref 3, .int (nI wh), .int 1, .int (nI fr), .int (nI s)] Z I L Post := by
  have k1 := xC.1
  refine CM_intro ?_
  have hp : Post (some (.int (nI (suN (fun b => swN c wh 0 (b + 1) (s ||| 2 ^ b)) fr (14 - fr))))) Z I L := hp
  have loop : ∀ (m k : Nat), k + m = 14 - fr → JW g mX5_setsWithFate (rmO 3 0 0) (QM Post 0 0) 26 [(6, .int (nI (fr + k))), (5, .int (nI (suN (fun b => swN c wh 0 (b + 1) (s ||| 2 ^ b)) fr k))), (0, .ref 3), (1, .int (nI wh)), (2, .int 1), (3, .int (nI fr)), (4, .int (nI s))] [] 0 0 Z I L := by
    intro m
    induction m with
    | zero =>
      intro k hk
      have : k = 14 - fr := by omega
      subst this
      refine j_iload 0 dX5_setsWithFate_26 rfl (j_bipush (v := 14) dX5_setsWithFate_28 rfl (j_icmp_ge (tgt := 63) dX5_setsWithFate_30 rfl (fun h1 => ?_) (fun h1 => ?_)))
      · refine j_iload 1 dX5_setsWithFate_63 rfl (j_iret dX5_setsWithFate_65 ?_)
        exact hp
      · exact absurd (nI_le (a := 14) (by omega) (by omega)) h1
    | succ m ih =>
      intro k hk
      have hi := ih (k + 1) (by omega)
      have h2k : 1 * 2 ^ (fr + k) < 2 ^ 32 := by
        rw [Nat.one_mul]
        exact Nat.pow_lt_pow_right (by decide) (by omega)
      have h14 : s ||| 2 ^ (fr + k) < 2 ^ 14 := Nat.or_lt_two_pow hs (Nat.pow_lt_pow_right (by decide) (by omega))
      refine j_iload 0 dX5_setsWithFate_26 rfl (j_bipush (v := 14) dX5_setsWithFate_28 rfl (j_icmp_ge (tgt := 63) dX5_setsWithFate_30 rfl (fun h1 => ?_) (fun h1 => ?_)))
      · exact absurd h1 (nI_ge (b := 14) (by omega) (by decide))
      · refine j_iload 1 dX5_setsWithFate_33 rfl (j_aload_n 2 dX5_setsWithFate_35 rfl (j_iload_n 3 dX5_setsWithFate_36 rfl (j_iload_n 4 dX5_setsWithFate_37 rfl (j_iconst (v := 1) dX5_setsWithFate_38 rfl (j_isub dX5_setsWithFate_39 (j_iload 0 dX5_setsWithFate_40 rfl (j_iconst (v := 1) dX5_setsWithFate_42 rfl (j_iadd dX5_setsWithFate_43 (j_iload 6 dX5_setsWithFate_44 rfl (j_iconst (v := 1) dX5_setsWithFate_46 rfl (j_iload 0 dX5_setsWithFate_47 rfl (j_ishl dX5_setsWithFate_49 (j_ior dX5_setsWithFate_50 ?_)))))))))))))
        rw [show (1 : Int32) <<< (nI (fr + k) &&& 31) = nI (1 * 2 ^ (fr + k)) from shlI (s := 1) h2k (by omega), fa_or, Nat.one_mul, nI_1, show (1 : Int32) - 1 = 0 from rfl]
        refine j_S5 dX5_setsWithFate_51 kX5_190 (c_sw0 xC sC hwh (by omega) h14 ?_)
        refine j_iadd dX5_setsWithFate_54 ?_
        rw [nI_add]
        refine j_istore (lv' := [(5, _), (6, _), (0, _), (1, _), (2, _), (3, _), (4, _)]) dX5_setsWithFate_55 rfl (j_iinc (y := 1) (lv' := [(6, _), (5, _), (0, _), (1, _), (2, _), (3, _), (4, _)]) 1 dX5_setsWithFate_57 rfl rfl rfl (j_goto (tgt := 26) dX5_setsWithFate_60 rfl ?_))
        rw [nI_1]
        exact JW.locals [0, 1, 2, 3, 4, 5, 6] rfl hi
  refine j_iload_n 2 dX5_setsWithFate_0 rfl (j_if_gt (tgt := 20) dX5_setsWithFate_1 rfl (fun _ => (j_iconst (v := 0) dX5_setsWithFate_20 rfl (j_istore (lv' := [(5, _), (0, _), (1, _), (2, _), (3, _), (4, _)]) dX5_setsWithFate_21 rfl (j_iload_n 4 dX5_setsWithFate_23 rfl (j_istore (lv' := [(6, _), (5, _), (0, _), (1, _), (2, _), (3, _), (4, _)]) dX5_setsWithFate_24 rfl ?_))))) (fun h9 => absurd (by decide) h9))
  exact JW.locals [0, 1, 2, 3, 4, 5, 6] rfl (loop (14 - fr) 0 (by omega))
theorem c_sw2 {g : GT} {Z : ZT} {I : IT} {L : LT} {Post : PT} {c : CT} {wh fr s : Nat} (xC : isCo Z) (sC : CC I c) (hwh : wh < 4) (hfr : fr ≤ 14) (hs : s < 16384) (hp : Post (some (.int (nI (swN c wh 2 fr s)))) Z I L) : CM g 4 0 0 mX5_setsWithFate [.ref 3, .int (nI wh), .int 2, .int (nI fr), .int (nI s)] Z I L Post := by
  have k1 := xC.1
  refine CM_intro ?_
  have hp : Post (some (.int (nI (suN (fun b => swN c wh 1 (b + 1) (s ||| 2 ^ b)) fr (14 - fr))))) Z I L := hp
  have loop : ∀ (m k : Nat), k + m = 14 - fr → JW g mX5_setsWithFate (rmO 4 0 0) (QM Post 0 0) 26 [(6, .int (nI (fr + k))), (5, .int (nI (suN (fun b => swN c wh 1 (b + 1) (s ||| 2 ^ b)) fr k))), (0, .ref 3), (1, .int (nI wh)), (2, .int 2), (3, .int (nI fr)), (4, .int (nI s))] [] 0 0 Z I L := by
    intro m
    induction m with
    | zero =>
      intro k hk
      have : k = 14 - fr := by omega
      subst this
      refine j_iload 0 dX5_setsWithFate_26 rfl (j_bipush (v := 14) dX5_setsWithFate_28 rfl (j_icmp_ge (tgt := 63) dX5_setsWithFate_30 rfl (fun h1 => ?_) (fun h1 => ?_)))
      · refine j_iload 1 dX5_setsWithFate_63 rfl (j_iret dX5_setsWithFate_65 ?_)
        exact hp
      · exact absurd (nI_le (a := 14) (by omega) (by omega)) h1
    | succ m ih =>
      intro k hk
      have hi := ih (k + 1) (by omega)
      have h2k : 1 * 2 ^ (fr + k) < 2 ^ 32 := by
        rw [Nat.one_mul]
        exact Nat.pow_lt_pow_right (by decide) (by omega)
      have h14 : s ||| 2 ^ (fr + k) < 2 ^ 14 := Nat.or_lt_two_pow hs (Nat.pow_lt_pow_right (by decide) (by omega))
      refine j_iload 0 dX5_setsWithFate_26 rfl (j_bipush (v := 14) dX5_setsWithFate_28 rfl (j_icmp_ge (tgt := 63) dX5_setsWithFate_30 rfl (fun h1 => ?_) (fun h1 => ?_)))
      · exact absurd h1 (nI_ge (b := 14) (by omega) (by decide))
      · refine j_iload 1 dX5_setsWithFate_33 rfl (j_aload_n 2 dX5_setsWithFate_35 rfl (j_iload_n 3 dX5_setsWithFate_36 rfl (j_iload_n 4 dX5_setsWithFate_37 rfl (j_iconst (v := 1) dX5_setsWithFate_38 rfl (j_isub dX5_setsWithFate_39 (j_iload 0 dX5_setsWithFate_40 rfl (j_iconst (v := 1) dX5_setsWithFate_42 rfl (j_iadd dX5_setsWithFate_43 (j_iload 6 dX5_setsWithFate_44 rfl (j_iconst (v := 1) dX5_setsWithFate_46 rfl (j_iload 0 dX5_setsWithFate_47 rfl (j_ishl dX5_setsWithFate_49 (j_ior dX5_setsWithFate_50 ?_)))))))))))))
        rw [show (1 : Int32) <<< (nI (fr + k) &&& 31) = nI (1 * 2 ^ (fr + k)) from shlI (s := 1) h2k (by omega), fa_or, Nat.one_mul, nI_1, show (2 : Int32) - 1 = 1 from rfl]
        refine j_S5 dX5_setsWithFate_51 kX5_190 (c_sw1 xC sC hwh (by omega) h14 ?_)
        refine j_iadd dX5_setsWithFate_54 ?_
        rw [nI_add]
        refine j_istore (lv' := [(5, _), (6, _), (0, _), (1, _), (2, _), (3, _), (4, _)]) dX5_setsWithFate_55 rfl (j_iinc (y := 1) (lv' := [(6, _), (5, _), (0, _), (1, _), (2, _), (3, _), (4, _)]) 1 dX5_setsWithFate_57 rfl rfl rfl (j_goto (tgt := 26) dX5_setsWithFate_60 rfl ?_))
        rw [nI_1]
        exact JW.locals [0, 1, 2, 3, 4, 5, 6] rfl hi
  refine j_iload_n 2 dX5_setsWithFate_0 rfl (j_if_gt (tgt := 20) dX5_setsWithFate_1 rfl (fun _ => (j_iconst (v := 0) dX5_setsWithFate_20 rfl (j_istore (lv' := [(5, _), (0, _), (1, _), (2, _), (3, _), (4, _)]) dX5_setsWithFate_21 rfl (j_iload_n 4 dX5_setsWithFate_23 rfl (j_istore (lv' := [(6, _), (5, _), (0, _), (1, _), (2, _), (3, _), (4, _)]) dX5_setsWithFate_24 rfl ?_))))) (fun h9 => absurd (by decide) h9))
  exact JW.locals [0, 1, 2, 3, 4, 5, 6] rfl (loop (14 - fr) 0 (by omega))
theorem c_sw3 {g : GT} {Z : ZT} {I : IT} {L : LT} {Post : PT} {c : CT} {wh fr s : Nat} (xC : isCo Z) (sC : CC I c) (hwh : wh < 4) (hfr : fr ≤ 14) (hs : s < 16384) (hp : Post (some (.int (nI (swN c wh 3 fr s)))) Z I L) : CM g 5 0 0 mX5_setsWithFate [.ref 3, .int (nI wh), .int 3, .int (nI fr), .int (nI s)] Z I L Post := by
  have k1 := xC.1
  refine CM_intro ?_
  have hp : Post (some (.int (nI (suN (fun b => swN c wh 2 (b + 1) (s ||| 2 ^ b)) fr (14 - fr))))) Z I L := hp
  have loop : ∀ (m k : Nat), k + m = 14 - fr → JW g mX5_setsWithFate (rmO 5 0 0) (QM Post 0 0) 26 [(6, .int (nI (fr + k))), (5, .int (nI (suN (fun b => swN c wh 2 (b + 1) (s ||| 2 ^ b)) fr k))), (0, .ref 3), (1, .int (nI wh)), (2, .int 3), (3, .int (nI fr)), (4, .int (nI s))] [] 0 0 Z I L := by
    intro m
    induction m with
    | zero =>
      intro k hk
      have : k = 14 - fr := by omega
      subst this
      refine j_iload 0 dX5_setsWithFate_26 rfl (j_bipush (v := 14) dX5_setsWithFate_28 rfl (j_icmp_ge (tgt := 63) dX5_setsWithFate_30 rfl (fun h1 => ?_) (fun h1 => ?_)))
      · refine j_iload 1 dX5_setsWithFate_63 rfl (j_iret dX5_setsWithFate_65 ?_)
        exact hp
      · exact absurd (nI_le (a := 14) (by omega) (by omega)) h1
    | succ m ih =>
      intro k hk
      have hi := ih (k + 1) (by omega)
      have h2k : 1 * 2 ^ (fr + k) < 2 ^ 32 := by
        rw [Nat.one_mul]
        exact Nat.pow_lt_pow_right (by decide) (by omega)
      have h14 : s ||| 2 ^ (fr + k) < 2 ^ 14 := Nat.or_lt_two_pow hs (Nat.pow_lt_pow_right (by decide) (by omega))
      refine j_iload 0 dX5_setsWithFate_26 rfl (j_bipush (v := 14) dX5_setsWithFate_28 rfl (j_icmp_ge (tgt := 63) dX5_setsWithFate_30 rfl (fun h1 => ?_) (fun h1 => ?_)))
      · exact absurd h1 (nI_ge (b := 14) (by omega) (by decide))
      · refine j_iload 1 dX5_setsWithFate_33 rfl (j_aload_n 2 dX5_setsWithFate_35 rfl (j_iload_n 3 dX5_setsWithFate_36 rfl (j_iload_n 4 dX5_setsWithFate_37 rfl (j_iconst (v := 1) dX5_setsWithFate_38 rfl (j_isub dX5_setsWithFate_39 (j_iload 0 dX5_setsWithFate_40 rfl (j_iconst (v := 1) dX5_setsWithFate_42 rfl (j_iadd dX5_setsWithFate_43 (j_iload 6 dX5_setsWithFate_44 rfl (j_iconst (v := 1) dX5_setsWithFate_46 rfl (j_iload 0 dX5_setsWithFate_47 rfl (j_ishl dX5_setsWithFate_49 (j_ior dX5_setsWithFate_50 ?_)))))))))))))
        rw [show (1 : Int32) <<< (nI (fr + k) &&& 31) = nI (1 * 2 ^ (fr + k)) from shlI (s := 1) h2k (by omega), fa_or, Nat.one_mul, nI_1, show (3 : Int32) - 1 = 2 from rfl]
        refine j_S5 dX5_setsWithFate_51 kX5_190 (c_sw2 xC sC hwh (by omega) h14 ?_)
        refine j_iadd dX5_setsWithFate_54 ?_
        rw [nI_add]
        refine j_istore (lv' := [(5, _), (6, _), (0, _), (1, _), (2, _), (3, _), (4, _)]) dX5_setsWithFate_55 rfl (j_iinc (y := 1) (lv' := [(6, _), (5, _), (0, _), (1, _), (2, _), (3, _), (4, _)]) 1 dX5_setsWithFate_57 rfl rfl rfl (j_goto (tgt := 26) dX5_setsWithFate_60 rfl ?_))
        rw [nI_1]
        exact JW.locals [0, 1, 2, 3, 4, 5, 6] rfl hi
  refine j_iload_n 2 dX5_setsWithFate_0 rfl (j_if_gt (tgt := 20) dX5_setsWithFate_1 rfl (fun _ => (j_iconst (v := 0) dX5_setsWithFate_20 rfl (j_istore (lv' := [(5, _), (0, _), (1, _), (2, _), (3, _), (4, _)]) dX5_setsWithFate_21 rfl (j_iload_n 4 dX5_setsWithFate_23 rfl (j_istore (lv' := [(6, _), (5, _), (0, _), (1, _), (2, _), (3, _), (4, _)]) dX5_setsWithFate_24 rfl ?_))))) (fun h9 => absurd (by decide) h9))
  exact JW.locals [0, 1, 2, 3, 4, 5, 6] rfl (loop (14 - fr) 0 (by omega))
theorem c_sw4 {g : GT} {Z : ZT} {I : IT} {L : LT} {Post : PT} {c : CT} {wh fr s : Nat} (xC : isCo Z) (sC : CC I c) (hwh : wh < 4) (hfr : fr ≤ 14) (hs : s < 16384) (hp : Post (some (.int (nI (swN c wh 4 fr s)))) Z I L) : CM g 6 0 0 mX5_setsWithFate [.ref 3, .int (nI wh), .int 4, .int (nI fr), .int (nI s)] Z I L Post := by
  have k1 := xC.1
  refine CM_intro ?_
  have hp : Post (some (.int (nI (suN (fun b => swN c wh 3 (b + 1) (s ||| 2 ^ b)) fr (14 - fr))))) Z I L := hp
  have loop : ∀ (m k : Nat), k + m = 14 - fr → JW g mX5_setsWithFate (rmO 6 0 0) (QM Post 0 0) 26 [(6, .int (nI (fr + k))), (5, .int (nI (suN (fun b => swN c wh 3 (b + 1) (s ||| 2 ^ b)) fr k))), (0, .ref 3), (1, .int (nI wh)), (2, .int 4), (3, .int (nI fr)), (4, .int (nI s))] [] 0 0 Z I L := by
    intro m
    induction m with
    | zero =>
      intro k hk
      have : k = 14 - fr := by omega
      subst this
      refine j_iload 0 dX5_setsWithFate_26 rfl (j_bipush (v := 14) dX5_setsWithFate_28 rfl (j_icmp_ge (tgt := 63) dX5_setsWithFate_30 rfl (fun h1 => ?_) (fun h1 => ?_)))
      · refine j_iload 1 dX5_setsWithFate_63 rfl (j_iret dX5_setsWithFate_65 ?_)
        exact hp
      · exact absurd (nI_le (a := 14) (by omega) (by omega)) h1
    | succ m ih =>
      intro k hk
      have hi := ih (k + 1) (by omega)
      have h2k : 1 * 2 ^ (fr + k) < 2 ^ 32 := by
        rw [Nat.one_mul]
        exact Nat.pow_lt_pow_right (by decide) (by omega)
      have h14 : s ||| 2 ^ (fr + k) < 2 ^ 14 := Nat.or_lt_two_pow hs (Nat.pow_lt_pow_right (by decide) (by omega))
      refine j_iload 0 dX5_setsWithFate_26 rfl (j_bipush (v := 14) dX5_setsWithFate_28 rfl (j_icmp_ge (tgt := 63) dX5_setsWithFate_30 rfl (fun h1 => ?_) (fun h1 => ?_)))
      · exact absurd h1 (nI_ge (b := 14) (by omega) (by decide))
      · refine j_iload 1 dX5_setsWithFate_33 rfl (j_aload_n 2 dX5_setsWithFate_35 rfl (j_iload_n 3 dX5_setsWithFate_36 rfl (j_iload_n 4 dX5_setsWithFate_37 rfl (j_iconst (v := 1) dX5_setsWithFate_38 rfl (j_isub dX5_setsWithFate_39 (j_iload 0 dX5_setsWithFate_40 rfl (j_iconst (v := 1) dX5_setsWithFate_42 rfl (j_iadd dX5_setsWithFate_43 (j_iload 6 dX5_setsWithFate_44 rfl (j_iconst (v := 1) dX5_setsWithFate_46 rfl (j_iload 0 dX5_setsWithFate_47 rfl (j_ishl dX5_setsWithFate_49 (j_ior dX5_setsWithFate_50 ?_)))))))))))))
        rw [show (1 : Int32) <<< (nI (fr + k) &&& 31) = nI (1 * 2 ^ (fr + k)) from shlI (s := 1) h2k (by omega), fa_or, Nat.one_mul, nI_1, show (4 : Int32) - 1 = 3 from rfl]
        refine j_S5 dX5_setsWithFate_51 kX5_190 (c_sw3 xC sC hwh (by omega) h14 ?_)
        refine j_iadd dX5_setsWithFate_54 ?_
        rw [nI_add]
        refine j_istore (lv' := [(5, _), (6, _), (0, _), (1, _), (2, _), (3, _), (4, _)]) dX5_setsWithFate_55 rfl (j_iinc (y := 1) (lv' := [(6, _), (5, _), (0, _), (1, _), (2, _), (3, _), (4, _)]) 1 dX5_setsWithFate_57 rfl rfl rfl (j_goto (tgt := 26) dX5_setsWithFate_60 rfl ?_))
        rw [nI_1]
        exact JW.locals [0, 1, 2, 3, 4, 5, 6] rfl hi
  refine j_iload_n 2 dX5_setsWithFate_0 rfl (j_if_gt (tgt := 20) dX5_setsWithFate_1 rfl (fun _ => (j_iconst (v := 0) dX5_setsWithFate_20 rfl (j_istore (lv' := [(5, _), (0, _), (1, _), (2, _), (3, _), (4, _)]) dX5_setsWithFate_21 rfl (j_iload_n 4 dX5_setsWithFate_23 rfl (j_istore (lv' := [(6, _), (5, _), (0, _), (1, _), (2, _), (3, _), (4, _)]) dX5_setsWithFate_24 rfl ?_))))) (fun h9 => absurd (by decide) h9))
  exact JW.locals [0, 1, 2, 3, 4, 5, 6] rfl (loop (14 - fr) 0 (by omega))
theorem k_flips {g : GT} {Z : ZT} {I : IT} {L : LT} {Post : PT} {t : Nat → Nat} {n : Nat} {c : CT} {w : Nat} {ρ : RT} {A : Nat × Nat × (Nat → RT)} {K : (Nat → RT) × (Nat → Bool)} {E : (Nat → Int32) × (Nat → Nat) × (Nat → Nat) × Nat} {sd : Int64} {k v : Nat} (hX : isX Z) (hs : CSt t n c w ρ A K E sd I L) (ho : OKs c w ρ A K E) (hk : k ≤ 4) (hv : v ≤ 3) (hp : Post (some (.int (nI (swN c v k 0 0)))) Z I L) : CM g 7 0 0 mX5_flips [.ref 0, .int (nI k), .int (nI v)] Z I L Post := by
  obtain ⟨x0, y0, y1, y2, y3, y4, y5, y6, y7, y8, y9, xT, xC, xN, xA, b1, b2, b3, b4, b5, b6, t1, t2, t3, t4, e1, e2, e3, e4, e5, e6⟩ := id hX
  obtain ⟨sT, ⟨sC, s35, s37, s38⟩, sN, sA, sK, sE, sL⟩ := id hs
  obtain ⟨oC, oW, oN, oA, oK, oE⟩ := id ho
  obtain ⟨q1, q2, q3, q4⟩ := id xT
  obtain ⟨z1, z2, z3, z4, z5, z6, z7, z8, z9, z10, z11, z12, z13⟩ := id xC
  obtain ⟨r1, r2, r3, r4, r5, r6, r7, r8, r9, r10, r11, r12, r13, r14, r15, r16, r17, r18⟩ := id xN
  obtain ⟨a1, a2, a3, a4, a5, a6⟩ := id xA
  have l10 : zL Z 10 = 4 := r10
  have l11 : zL Z 11 = 4 := r12
  have l12 : zL Z 12 = 8 := r14
  have l13 : zL Z 13 = 8 := r16
  have l14 : zL Z 14 = 4 := r18
  refine CM_intro ?_
  refine j_iload_n 1 dX5_flips_0 rfl (j_if_lt (tgt := 18) dX5_flips_1 rfl (fun g1 => ?_) (fun g1 => ?_))
  · exact absurd g1 (nI_pos (by omega))
  · refine j_iload_n 1 dX5_flips_4 rfl (j_iconst (v := 4) dX5_flips_5 rfl (j_icmp_gt (tgt := 18) dX5_flips_6 rfl (fun g2 => ?_) (fun g2 => ?_)))
    · exact absurd g2 (nI_nlt (a := 4) hk (by decide))
    · refine j_iload_n 2 dX5_flips_9 rfl (j_if_lt (tgt := 18) dX5_flips_10 rfl (fun g3 => ?_) (fun g3 => ?_))
      · exact absurd g3 (nI_pos (by omega))
      · refine j_iload_n 2 dX5_flips_13 rfl (j_iconst (v := 3) dX5_flips_14 rfl (j_icmp_le (tgt := 21) dX5_flips_15 rfl (fun g4 => ?_) (fun g4 => ?_)))
        · have hk5 : k = 0 ∨ k = 1 ∨ k = 2 ∨ k = 3 ∨ k = 4 := by omega
          rcases hk5 with e | e | e | e | e <;> subst e
          · refine j_aload_n 0 dX5_flips_21 rfl (j_getR (b := 3) dX5_flips_22 fX5_19 rfl (by first | assumption | rfl) (by first | assumption | rfl) (j_iload_n 2 dX5_flips_25 rfl (j_iload_n 1 dX5_flips_26 rfl (j_iconst (v := 0) dX5_flips_27 rfl (j_iconst (v := 0) dX5_flips_28 rfl (j_S5 dX5_flips_29 kX5_190 (c_sw0 (fr := 0) (s := 0) xC sC (by omega) (by decide) (by decide) ?_)))))))
            refine j_iret dX5_flips_32 ?_
            exact hp
          · refine j_aload_n 0 dX5_flips_21 rfl (j_getR (b := 3) dX5_flips_22 fX5_19 rfl (by first | assumption | rfl) (by first | assumption | rfl) (j_iload_n 2 dX5_flips_25 rfl (j_iload_n 1 dX5_flips_26 rfl (j_iconst (v := 0) dX5_flips_27 rfl (j_iconst (v := 0) dX5_flips_28 rfl (j_S5 dX5_flips_29 kX5_190 (c_sw1 (fr := 0) (s := 0) xC sC (by omega) (by decide) (by decide) ?_)))))))
            refine j_iret dX5_flips_32 ?_
            exact hp
          · refine j_aload_n 0 dX5_flips_21 rfl (j_getR (b := 3) dX5_flips_22 fX5_19 rfl (by first | assumption | rfl) (by first | assumption | rfl) (j_iload_n 2 dX5_flips_25 rfl (j_iload_n 1 dX5_flips_26 rfl (j_iconst (v := 0) dX5_flips_27 rfl (j_iconst (v := 0) dX5_flips_28 rfl (j_S5 dX5_flips_29 kX5_190 (c_sw2 (fr := 0) (s := 0) xC sC (by omega) (by decide) (by decide) ?_)))))))
            refine j_iret dX5_flips_32 ?_
            exact hp
          · refine j_aload_n 0 dX5_flips_21 rfl (j_getR (b := 3) dX5_flips_22 fX5_19 rfl (by first | assumption | rfl) (by first | assumption | rfl) (j_iload_n 2 dX5_flips_25 rfl (j_iload_n 1 dX5_flips_26 rfl (j_iconst (v := 0) dX5_flips_27 rfl (j_iconst (v := 0) dX5_flips_28 rfl (j_S5 dX5_flips_29 kX5_190 (c_sw3 (fr := 0) (s := 0) xC sC (by omega) (by decide) (by decide) ?_)))))))
            refine j_iret dX5_flips_32 ?_
            exact hp
          · refine j_aload_n 0 dX5_flips_21 rfl (j_getR (b := 3) dX5_flips_22 fX5_19 rfl (by first | assumption | rfl) (by first | assumption | rfl) (j_iload_n 2 dX5_flips_25 rfl (j_iload_n 1 dX5_flips_26 rfl (j_iconst (v := 0) dX5_flips_27 rfl (j_iconst (v := 0) dX5_flips_28 rfl (j_S5 dX5_flips_29 kX5_190 (c_sw4 (fr := 0) (s := 0) xC sC (by omega) (by decide) (by decide) ?_)))))))
            refine j_iret dX5_flips_32 ?_
            exact hp
        · exact absurd (nI_le (b := 3) hv (by decide)) g4

theorem k_flips_b {g : GT} {Z : ZT} {I : IT} {L : LT} {Post : PT} {t : Nat → Nat} {n : Nat} {c : CT} {w : Nat} {ρ : RT} {A : Nat × Nat × (Nat → RT)} {K : (Nat → RT) × (Nat → Bool)} {E : (Nat → Int32) × (Nat → Nat) × (Nat → Nat) × Nat} {sd : Int64} {x y : Int32} (hX : isX Z) (hs : CSt t n c w ρ A K E sd I L) (ho : OKs c w ρ A K E) (hx : ∀ k v, k ≤ 4 → v ≤ 3 → x = nI k → y = nI v → False) (hp : Post (some (.int (-2))) Z I L) : CM g 7 0 0 mX5_flips [.ref 0, .int x, .int y] Z I L Post := by
  obtain ⟨x0, y0, y1, y2, y3, y4, y5, y6, y7, y8, y9, xT, xC, xN, xA, b1, b2, b3, b4, b5, b6, t1, t2, t3, t4, e1, e2, e3, e4, e5, e6⟩ := id hX
  obtain ⟨sT, ⟨sC, s35, s37, s38⟩, sN, sA, sK, sE, sL⟩ := id hs
  obtain ⟨oC, oW, oN, oA, oK, oE⟩ := id ho
  obtain ⟨q1, q2, q3, q4⟩ := id xT
  obtain ⟨z1, z2, z3, z4, z5, z6, z7, z8, z9, z10, z11, z12, z13⟩ := id xC
  obtain ⟨r1, r2, r3, r4, r5, r6, r7, r8, r9, r10, r11, r12, r13, r14, r15, r16, r17, r18⟩ := id xN
  obtain ⟨a1, a2, a3, a4, a5, a6⟩ := id xA
  have l10 : zL Z 10 = 4 := r10
  have l11 : zL Z 11 = 4 := r12
  have l12 : zL Z 12 = 8 := r14
  have l13 : zL Z 13 = 8 := r16
  have l14 : zL Z 14 = 4 := r18
  refine CM_intro ?_
  refine j_iload_n 1 dX5_flips_0 rfl (j_if_lt (tgt := 18) dX5_flips_1 rfl (fun g1 => ?_) (fun g1 => ?_))
  · refine j_bipush (v := -2) dX5_flips_18 rfl (j_iret dX5_flips_20 ?_)
    exact hp
  · refine j_iload_n 1 dX5_flips_4 rfl (j_iconst (v := 4) dX5_flips_5 rfl (j_icmp_gt (tgt := 18) dX5_flips_6 rfl (fun g2 => ?_) (fun g2 => ?_)))
    · refine j_bipush (v := -2) dX5_flips_18 rfl (j_iret dX5_flips_20 ?_)
      exact hp
    · refine j_iload_n 2 dX5_flips_9 rfl (j_if_lt (tgt := 18) dX5_flips_10 rfl (fun g3 => ?_) (fun g3 => ?_))
      · refine j_bipush (v := -2) dX5_flips_18 rfl (j_iret dX5_flips_20 ?_)
        exact hp
      · refine j_iload_n 2 dX5_flips_13 rfl (j_iconst (v := 3) dX5_flips_14 rfl (j_icmp_le (tgt := 21) dX5_flips_15 rfl (fun g4 => ?_) (fun g4 => ?_)))
        · obtain ⟨k, -, hk2, ek⟩ := bt_t (a := 0) (b := 4) (by decide) (i_nlt (k := 0) (by decide) g1) (i_ngt (k := 4) (by decide) g2)
          obtain ⟨v, -, hv2, ev⟩ := bt_t (a := 0) (b := 3) (by decide) (i_nlt (k := 0) (by decide) g3) (i_le (k := 3) (by decide) g4)
          exact (hx k v hk2 hv2 ek ev).elim
        · refine j_bipush (v := -2) dX5_flips_18 rfl (j_iret dX5_flips_20 ?_)
          exact hp

