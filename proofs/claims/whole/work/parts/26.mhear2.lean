set_option maxHeartbeats 1000000 in
theorem c_block {g : GT} {Z : ZT} {I : IT} {L : LT} {Post : PT} {a : Nat} {c : CT} (hZ : isMo Z) (hc : MC I c) (ha : 203 ≤ a) (hK : zK Z a = 7) (hL : zL Z a = 47) (hok : OKr c.2.2.1 (I a)) (hp : Post none Z (upR I a (blF c (I a))) L) : CM g 3 0 0 mX6_block [.ref 198, .ref a] Z I L Post := by
  obtain ⟨z1, z2, z3, z4, z5, z6, z7, z8, z9, z10⟩ := id hZ
  obtain ⟨c1, c2, c3, c4, c5, c6, c7, c8, c9, c10⟩ := id hc
  obtain ⟨⟨w, hw, ew⟩, o2, ⟨d, hd, ed⟩, o4, o5, o6, o7, o8, o9⟩ := id hok
  have hx : lfN c.1 (w ^^^ c.2.1 d) < 64 := lfN_lt c2 (xor_lt14 hw (Nat.lt_trans (c4 d hd) (by decide)))
  unfold blF at hp
  rw [ew, ed, nN_nI (show w < 2 ^ 31 by omega), nN_nI (show d < 2 ^ 31 by omega)] at hp
  refine CM_intro ?_
  refine j_aload_n 1 dX6_block_0 rfl (j_iconst (v := 4) dX6_block_1 rfl (j_iaload 4 dX6_block_2 (by first | assumption | rfl) (by first | assumption | rfl) (by omega) (j_istore_n (lv' := [(2, _), (0, _), (1, _)]) dX6_block_3 rfl (j_aload_n 1 dX6_block_4 rfl (j_iload_n 0 dX6_block_5 rfl (j_aload_n 2 dX6_block_6 rfl (j_iconst (v := 1) dX6_block_7 rfl (j_iaload 1 dX6_block_8 (by first | assumption | rfl) (by first | assumption | rfl) (by omega) ?_))))))))
  rw [ew, ed]
  refine j_V2 dX6_block_9 kX6_146 (by first | assumption | rfl) (c_mRest hZ hc hd hw (j_istore_n (lv' := [(3, _), (2, _), (0, _), (1, _)]) dX6_block_12 rfl ?_))
  generalize lfN c.1 (w ^^^ c.2.1 d) = x at hp hx ⊢
  have key : JW g mX6_block (rmO 3 0 0) (QM Post 0 0) 21 [(3, .int (nI x)), (2, .int (nI d)), (0, .ref 198), (1, .ref a)] [] 0 0 Z (upR I a (cpF d (I a))) L := by
    have hok2 : OKp (cpF d (I a)) := o8.cp
    have hol2 : OKL (cpF d (I a)) := o9.cong (fun j hj => cpF_n (by omega))
    have e10 : cpF d (I a) 10 = I a 10 := cpF_n (by omega)
    have e11 : cpF d (I a) 11 = I a 11 := cpF_n (by omega)
    have e12 : cpF d (I a) 12 = I a 12 := cpF_n (by omega)
    have e6 : cpF d (I a) 6 = I a 6 := cpF_n (by omega)
    have ew2 : cpF d (I a) 1 = nI w := (cpF_n (by omega)).trans ew
    have hcm := hc.up ha (cpF d (I a))
    rw [← e10, ← e11, ← e12, ← e6] at hp
    generalize cpF d (I a) = σ at hok2 hol2 ew2 hcm hp ⊢
    -- the end: a GROUP is looked at, DUE is the next
    have fin : ∀ τ : RT, OKp τ → OKL τ → (Post none Z (upR I a (nxF d τ)) L) → JW g mX6_block (rmO 3 0 0) (QM Post 0 0) 131 [(4, .int (nI (c.2.2.2 x))), (3, .int (nI x)), (2, .int (nI d)), (0, .ref 198), (1, .ref a)] [] 0 0 Z (upR I a τ) L := by
      intro τ t1 t2 hq
      have e9 : (nI d + 1 - (nI d + 1) / 4 * 4 : Int32) = nI ((d + 1) % 4) := by rw [nI_1]; exact remI (d := 4) (by omega) (by decide) (by decide)
      unfold nxF at hq
      refine j_iload_n 2 dX6_block_131 rfl (j_iconst (v := 3) dX6_block_132 rfl (j_icmp_ne (tgt := 140) dX6_block_133 rfl (fun h1 => ?_) (fun h1 => ?_)))
      · have : d ≠ 3 := fun z => h1 (by rw [z]; rfl)
        rw [if_neg this] at hq
        refine j_aload_n 4 dX6_block_140 rfl (j_iconst (v := 4) dX6_block_141 rfl (j_iload_n 2 dX6_block_142 rfl (j_iconst (v := 1) dX6_block_143 rfl (j_iadd dX6_block_144 (j_iconst (v := 4) dX6_block_145 rfl (j_irem dX6_block_146 (by decide) (j_iastore 4 dX6_block_147 (by first | assumption | rfl) (by first | assumption | rfl) (by omega) (j_vret dX6_block_148 ?_))))))))
        simp only [upI, upR_R, upR_s, e9]
        exact hq
      · have h3 : d = 3 := nI_inj (b := 3) (by omega) (by decide) h1
        rw [if_pos h3] at hq
        refine j_aload_n 4 dX6_block_136 rfl (j_S1 dX6_block_137 kX6_143 (c_lookAt hK hL (by rw [upR_s]; exact t1) (by rw [upR_s]; exact t2) (j_aload_n 4 dX6_block_140 rfl (j_iconst (v := 4) dX6_block_141 rfl (j_iload_n 2 dX6_block_142 rfl (j_iconst (v := 1) dX6_block_143 rfl (j_iadd dX6_block_144 (j_iconst (v := 4) dX6_block_145 rfl (j_irem dX6_block_146 (by decide) (j_iastore 4 dX6_block_147 (by first | assumption | rfl) (by first | assumption | rfl) (by omega) (j_vret dX6_block_148 ?_)))))))))))
        simp only [upI, upR_R, upR_s, e9]
        exact hq
    refine j_aload_n 2 dX6_block_21 rfl (j_iload_n 0 dX6_block_22 rfl (j_V1 dX6_block_23 kX6_150 (by first | assumption | rfl) (c_mSure hZ hcm hx hc.s0 (j_istore (lv' := [(4, _), (3, _), (2, _), (0, _), (1, _)]) dX6_block_26 rfl (j_iload_n 1 dX6_block_28 rfl (j_if_ne (tgt := 60) dX6_block_29 rfl (fun h1 => ?_) (fun h1 => ?_)))))))
    · have hx0 : x ≠ 0 := fun z => h1 (by rw [z]; rfl)
      rw [if_neg hx0] at hp
      have ht := c9 x hx
      refine j_iload 0 dX6_block_60 rfl (j_if_eq (tgt := 91) dX6_block_62 rfl (fun h2 => ?_) (fun h2 => ?_))
      · have ht0 : c.2.2.2 x = 0 := nI_inj (b := 0) (by omega) (by decide) h2
        rw [if_neg (fun z => z ht0)] at hp
        refine j_aload_n 4 dX6_block_91 rfl (j_bipush (v := 12) dX6_block_92 rfl (j_dup2 dX6_block_94 rfl rfl (j_iaload 12 dX6_block_95 (by first | assumption | rfl) (by first | assumption | rfl) (by omega) (j_iconst (v := 1) dX6_block_96 rfl (j_iadd dX6_block_97 (j_iastore 12 dX6_block_98 (by first | assumption | rfl) (by first | assumption | rfl) (by omega) (j_aload_n 4 dX6_block_99 rfl (j_bipush (v := 6) dX6_block_100 rfl (j_dup2 dX6_block_102 rfl rfl (j_iaload 6 dX6_block_103 (by first | assumption | rfl) (by first | assumption | rfl) (by omega) (j_iconst (v := 1) dX6_block_104 rfl (j_iadd dX6_block_105 (j_iastore 6 dX6_block_106 (by first | assumption | rfl) (by first | assumption | rfl) (by omega) (j_aload_n 4 dX6_block_107 rfl (j_bipush (v := 18) dX6_block_108 rfl (j_iload_n 2 dX6_block_110 rfl (j_iadd dX6_block_111 (j_bipush (v := -9) dX6_block_112 rfl (j_iastore (18 + d) dX6_block_114 (nI_add 18 d) (by first | assumption | rfl) (by omega) ?_)))))))))))))))))))
        simp only [upI, upR_R, upR_s, upd_app, if_neg (show ¬ (6 : Nat) = 12 by decide)]
        refine j_aload_n 4 dX6_block_115 rfl (j_bipush (v := 6) dX6_block_116 rfl (j_iaload 6 dX6_block_118 (by first | assumption | rfl) (by first | assumption | rfl) (by omega) (j_aload_n 3 dX6_block_119 rfl (j_getI dX6_block_120 fX6_57 (by first | assumption | rfl) (j_icmp_ne (tgt := 131) dX6_block_123 rfl (fun h3 => ?_) (fun h3 => ?_))))))
        · rw [upR_s, upd_n (show 6 ≠ 18 + d by omega), upd_s, upR_n (show 198 ≠ a by omega), c5] at h3
          rw [if_neg h3] at hp
          exact fin _ (OKp.gone (hok2.cong (fun k hk => by rw [upd_n (by omega), upd_n (by omega)]))) (hol2.cong (fun j hj => by rw [upd_n (by omega), upd_n (by omega), upd_n (by omega)])) hp
        · rw [upR_s, upd_n (show 6 ≠ 18 + d by omega), upd_s, upR_n (show 198 ≠ a by omega), c5] at h3
          rw [if_pos h3] at hp
          refine j_aload_n 4 dX6_block_126 rfl (j_S1 dX6_block_127 kX6_153 (c_mLose hK hL (j_vret dX6_block_130 ?_)))
          simp only [upR_R, upR_s]
          exact hp
      · have ht0 : c.2.2.2 x ≠ 0 := fun z => h2 (by rw [z]; rfl)
        rw [if_pos ht0] at hp
        refine j_aload_n 4 dX6_block_65 rfl (j_bipush (v := 11) dX6_block_66 rfl (j_dup2 dX6_block_68 rfl rfl (j_iaload 11 dX6_block_69 (by first | assumption | rfl) (by first | assumption | rfl) (by omega) (j_iconst (v := 1) dX6_block_70 rfl (j_iadd dX6_block_71 (j_iastore 11 dX6_block_72 (by first | assumption | rfl) (by first | assumption | rfl) (by omega) (j_aload_n 4 dX6_block_73 rfl (j_bipush (v := 18) dX6_block_74 rfl (j_iload_n 2 dX6_block_76 rfl (j_iadd dX6_block_77 (j_aload_n 4 dX6_block_78 rfl (j_iconst (v := 1) dX6_block_79 rfl (j_iaload 1 dX6_block_80 (by first | assumption | rfl) (by first | assumption | rfl) (by omega) (j_iload 0 dX6_block_81 rfl (j_ixor dX6_block_83 (j_bipush (v := 64) dX6_block_84 rfl (j_idiv dX6_block_86 (by decide) (j_iastore (18 + d) dX6_block_87 (nI_add 18 d) (by first | assumption | rfl) (by omega) (j_goto (tgt := 131) dX6_block_88 rfl ?_)))))))))))))))))))
        simp only [upI, upR_R, upR_s, upd_app, if_neg (show ¬ (1 : Nat) = 11 by decide)]
        rw [ew2, fb_xorI, show (nI (w ^^^ c.2.2.2 x) / 64 : Int32) = nI ((w ^^^ c.2.2.2 x) / 64) from divI (d := 64) (by have := xor_lt14 hw ht; omega) (by decide) (by decide)]
        exact fin _ (OKp.set (hok2.cong (fun k hk => upd_n (by omega))) hd (by have := xor_lt14 hw ht; omega)) (hol2.cong (fun j hj => by rw [upd_n (by omega), upd_n (by omega)])) hp
    · have hx0 : x = 0 := nI_inj (b := 0) (by omega) (by decide) h1
      rw [if_pos hx0] at hp
      refine j_aload_n 4 dX6_block_32 rfl (j_bipush (v := 10) dX6_block_33 rfl (j_dup2 dX6_block_35 rfl rfl (j_iaload 10 dX6_block_36 (by first | assumption | rfl) (by first | assumption | rfl) (by omega) (j_iconst (v := 1) dX6_block_37 rfl (j_iadd dX6_block_38 (j_iastore 10 dX6_block_39 (by first | assumption | rfl) (by first | assumption | rfl) (by omega) (j_aload_n 4 dX6_block_40 rfl (j_bipush (v := 6) dX6_block_41 rfl (j_iconst (v := 0) dX6_block_43 rfl (j_iastore 6 dX6_block_44 (by first | assumption | rfl) (by first | assumption | rfl) (by omega) (j_aload_n 4 dX6_block_45 rfl (j_bipush (v := 18) dX6_block_46 rfl (j_iload_n 2 dX6_block_48 rfl (j_iadd dX6_block_49 (j_aload_n 4 dX6_block_50 rfl (j_iconst (v := 1) dX6_block_51 rfl (j_iaload 1 dX6_block_52 (by first | assumption | rfl) (by first | assumption | rfl) (by omega) (j_bipush (v := 64) dX6_block_53 rfl (j_idiv dX6_block_55 (by decide) (j_iastore (18 + d) dX6_block_56 (nI_add 18 d) (by first | assumption | rfl) (by omega) (j_goto (tgt := 131) dX6_block_57 rfl ?_)))))))))))))))))))))
      simp only [upI, upR_R, upR_s, upd_app, if_neg (show ¬ (1 : Nat) = 10 by decide), if_neg (show ¬ (1 : Nat) = 6 by decide)]
      rw [ew2, show (nI w / 64 : Int32) = nI (w / 64) from divI (d := 64) (by omega) (by decide) (by decide)]
      exact fin _ (OKp.set (hok2.cong (fun k hk => by rw [upd_n (by omega), upd_n (by omega)])) hd (by omega)) (hol2.cong (fun j hj => by rw [upd_n (by omega), upd_n (by omega), upd_n (by omega)])) hp
  refine j_iload_n 1 dX6_block_13 rfl (j_if_ne (tgt := 21) dX6_block_14 rfl (fun h1 => ?_) (fun h1 => ?_))
  · have : d ≠ 0 := fun z => h1 (by rw [z]; rfl)
    unfold cpF at key
    rw [if_neg this, fa_self] at key
    exact key
  · have h0 : d = 0 := nI_inj (b := 0) (by omega) (by decide) h1
    unfold cpF at key
    rw [if_pos h0] at key
    refine j_aload_n 3 dX6_block_17 rfl (j_S1 dX6_block_18 kX6_125 (c_noParts hK hL ?_))
    exact key
set_option maxHeartbeats 1000000 in
theorem c_hearBit {g : GT} {Z : ZT} {I : IT} {L : LT} {Post : PT} {a b : Nat} {c : CT} (hZ : isMo Z) (hc : MC I c) (ha : 203 ≤ a) (hK : zK Z a = 7) (hL : zL Z a = 47) (hok : OKr c.2.2.1 (I a)) (hb : b < 2) (hp : Post none Z (upR I a (htF c (I a) b)) L) : CM g 4 0 0 mX6_hearBit [.ref 198, .ref a, .int (nI b)] Z I L Post := by
  obtain ⟨⟨w, hw, ew⟩, o2, ⟨d, hd, ed⟩, o4, o5, o6, o7, o8, o9⟩ := id hok
  have hb1 := hok.b1 b
  have z1 := hZ.1
  refine CM_intro ?_
  refine j_aload_n 1 dX6_hearBit_0 rfl (j_iconst (v := 1) dX6_hearBit_1 rfl (j_iconst (v := 2) dX6_hearBit_2 rfl (j_aload_n 1 dX6_hearBit_3 rfl (j_iconst (v := 1) dX6_hearBit_4 rfl (j_iaload 1 dX6_hearBit_5 (by first | assumption | rfl) (by first | assumption | rfl) (by omega) (j_imul dX6_hearBit_6 (j_iload_n 2 dX6_hearBit_7 rfl (j_iadd dX6_hearBit_8 (j_sipush (v := 16383) dX6_hearBit_9 rfl (j_iand dX6_hearBit_12 (j_iastore 1 dX6_hearBit_13 (by first | assumption | rfl) (by first | assumption | rfl) (by omega) (j_aload_n 1 dX6_hearBit_14 rfl (j_iconst (v := 0) dX6_hearBit_15 rfl (j_dup2 dX6_hearBit_16 rfl rfl (j_iaload 0 dX6_hearBit_17 (by first | assumption | rfl) (by first | assumption | rfl) (by omega) (j_iconst (v := 1) dX6_hearBit_18 rfl (j_iadd dX6_hearBit_19 (j_iastore 0 dX6_hearBit_20 (by first | assumption | rfl) (by first | assumption | rfl) (by omega) (j_aload_n 1 dX6_hearBit_21 rfl (j_iconst (v := 2) dX6_hearBit_22 rfl (j_dup2 dX6_hearBit_23 rfl rfl (j_iaload 2 dX6_hearBit_24 (by first | assumption | rfl) (by first | assumption | rfl) (by omega) (j_iconst (v := 1) dX6_hearBit_25 rfl (j_iadd dX6_hearBit_26 (j_iastore 2 dX6_hearBit_27 (by first | assumption | rfl) (by first | assumption | rfl) (by omega) ?_)))))))))))))))))))))))))
  have e1 : (2 * I a 1 + nI b) &&& 16383 = nI ((2 * w + b) % 16384) := by
    rw [ew, show (2 : Int32) * nI w = nI (2 * w) from pk_mul 2 w, nI_add, and16383]
  have e2 : upI (upI (upI I a 1 ((2 * I a 1 + nI b) &&& 16383)) a 0 (upI I a 1 ((2 * I a 1 + nI b) &&& 16383) a 0 + 1)) a 2 (upI (upI I a 1 ((2 * I a 1 + nI b) &&& 16383)) a 0 (upI I a 1 ((2 * I a 1 + nI b) &&& 16383) a 0 + 1) a 2 + 1) = upR I a (b1F (I a) b) := by
    rw [e1]
    simp only [upI, upR_R, upR_s, upd_app]
    unfold b1F
    rw [ew, nN_nI (show w < 2 ^ 31 by omega)]
    rfl
  rw [e2]
  unfold htF at hp
  generalize b1F (I a) b = σ at hb1 hp ⊢
  have hcm := hc.up ha σ
  refine j_aload_n 1 dX6_hearBit_28 rfl (j_iconst (v := 3) dX6_hearBit_29 rfl (j_iaload 3 dX6_hearBit_30 (by first | assumption | rfl) (by first | assumption | rfl) (by omega) (j_if_ne (tgt := 40) dX6_hearBit_31 rfl (fun h1 => ?_) (fun h1 => ?_))))
  · rw [upR_s] at h1
    rw [if_neg h1] at hp
    refine j_aload_n 1 dX6_hearBit_40 rfl (j_iconst (v := 5) dX6_hearBit_41 rfl (j_dup2 dX6_hearBit_42 rfl rfl (j_iaload 5 dX6_hearBit_43 (by first | assumption | rfl) (by first | assumption | rfl) (by omega) (j_iconst (v := 1) dX6_hearBit_44 rfl (j_iadd dX6_hearBit_45 (j_iastore 5 dX6_hearBit_46 (by first | assumption | rfl) (by first | assumption | rfl) (by omega) ?_))))))
    simp only [upI, upR_R, upR_s]
    refine j_aload_n 1 dX6_hearBit_47 rfl (j_iconst (v := 5) dX6_hearBit_48 rfl (j_iaload 5 dX6_hearBit_49 (by first | assumption | rfl) (by first | assumption | rfl) (by omega) (j_bipush (v := 14) dX6_hearBit_50 rfl (j_icmp_ne (tgt := 64) dX6_hearBit_52 rfl (fun h2 => ?_) (fun h2 => ?_)))))
    · rw [upR_s, upd_s] at h2
      rw [if_neg h2] at hp
      refine j_vret dX6_hearBit_64 ?_
      exact hp
    · rw [upR_s, upd_s] at h2
      rw [if_pos h2] at hp
      refine j_aload_n 1 dX6_hearBit_55 rfl (j_iconst (v := 5) dX6_hearBit_56 rfl (j_iconst (v := 0) dX6_hearBit_57 rfl (j_iastore 5 dX6_hearBit_58 (by first | assumption | rfl) (by first | assumption | rfl) (by omega) (j_aload_n 0 dX6_hearBit_59 rfl (j_aload_n 1 dX6_hearBit_60 rfl ?_)))))
      simp only [upI, upR_R, upR_s]
      have hb2 : OKr c.2.2.1 (upd (upd σ 5 (σ 5 + 1)) 5 0) := by
        obtain ⟨k1, k2, k3, k4, k5, k6, k7, k8, k9⟩ := hb1
        exact ⟨k1, k2, k3, ⟨0, by decide, rfl⟩, k5, k6, k7, k8.cong (fun k hk => by rw [upd_n (by omega), upd_n (by omega)]), k9.cong (fun j hj => by rw [upd_n (by omega), upd_n (by omega)])⟩
      refine j_V1 dX6_hearBit_61 kX6_159 (by first | assumption | rfl) (c_block hZ (hc.up ha _) ha hK hL (by rw [upR_s]; exact hb2) (j_vret dX6_hearBit_64 ?_))
      simp only [upR_R, upR_s]
      exact hp
  · rw [upR_s] at h1
    rw [if_pos h1] at hp
    refine j_aload_n 0 dX6_hearBit_34 rfl (j_aload_n 1 dX6_hearBit_35 rfl (j_V1 dX6_hearBit_36 kX6_156 (by first | assumption | rfl) (c_seek hZ hcm hK hL (by rw [upR_s]; exact hb1) (j_vret dX6_hearBit_39 ?_))))
    simp only [upR_R, upR_s]
    exact hp
theorem MC.okh {I : IT} {c : CT} (h : MC I c) {ρ : RT} (ho : OKr c.2.2.1 ρ) (n v : Nat) : OKr c.2.2.1 (hsF c n ρ v) := by
  obtain ⟨c1, c2, c3, c4, c5, c6, c7, c8, c9, c10⟩ := h
  exact OKr.hs c6 c7 c2 c4 c9 v n ρ ho
theorem MC.okt {I : IT} {c : CT} (h : MC I c) {ρ : RT} (ho : OKr c.2.2.1 ρ) (b : Nat) : OKr c.2.2.1 (htF c ρ b) := by
  obtain ⟨c1, c2, c3, c4, c5, c6, c7, c8, c9, c10⟩ := h
  exact OKr.ht c6 c7 c2 c4 c9 ho b
theorem c_mHearBits {g : GT} {Z : ZT} {I : IT} {L : LT} {Post : PT} {a n v : Nat} {c : CT} (hZ : isMo Z) (hc : MC I c) (ha : 203 ≤ a) (hK : zK Z a = 7) (hL : zL Z a = 47) (hok : OKr c.2.2.1 (I a)) (hn : n ≤ 31) (hv : v < 2 ^ 31) (hp : Post none Z (upR I a (hsF c n (I a) v)) L) : CM g 5 0 0 mX6_hearBits [.ref 198, .ref a, .int (nI n), .int (nI v)] Z I L Post := by
  have z1 := hZ.1
  refine CM_intro ?_
  have loop : ∀ (j : Nat) (ρ : RT), j ≤ 31 → OKr c.2.2.1 ρ → hsF c j ρ v = hsF c n (I a) v → JW g mX6_hearBits (rmO 5 0 0) (QM Post 0 0) 5 [(4, .int (nI j + -1)), (0, .ref 198), (1, .ref a), (2, .int (nI n)), (3, .int (nI v))] [] 0 0 Z (upR I a ρ) L := by
    intro j
    induction j with
    | zero =>
      intro ρ _ ho e
      refine j_iload 0 dX6_hearBits_5 rfl (j_if_lt (tgt := 27) dX6_hearBits_7 rfl (fun h1 => ?_) (fun h1 => ?_))
      · refine j_vret dX6_hearBits_27 ?_
        rw [← e] at hp
        exact hp
      · exact absurd (by decide) h1
    | succ j ih =>
      intro ρ hj ho e
      rw [pk_m1 j]
      refine j_iload 0 dX6_hearBits_5 rfl (j_if_lt (tgt := 27) dX6_hearBits_7 rfl (fun h1 => ?_) (fun h1 => ?_))
      · exact absurd h1 (nI_pos (by omega))
      · refine j_aload_n 1 dX6_hearBits_10 rfl (j_aload_n 2 dX6_hearBits_11 rfl (j_iload_n 4 dX6_hearBits_12 rfl (j_iload 0 dX6_hearBits_13 rfl (j_ishr dX6_hearBits_15 (j_iconst (v := 1) dX6_hearBits_16 rfl (j_iand dX6_hearBits_17 ?_))))))
        rw [shrI hv (by omega), and1]
        refine j_V2 dX6_hearBits_18 kX6_162 (by first | assumption | rfl) (c_hearBit hZ (hc.up ha _) ha hK hL (by rw [upR_s]; exact ho) (Nat.mod_lt _ (by decide)) (j_iinc (y := -1) (lv' := [(4, _), (0, _), (1, _), (2, _), (3, _)]) 0 dX6_hearBits_21 rfl rfl rfl (j_goto (tgt := 5) dX6_hearBits_24 rfl ?_)))
        rw [upR_R, upR_s]
        exact JW.locals [0, 1, 2, 3, 4] rfl (ih _ (by omega) (hc.okt ho _) e)
  refine j_iload_n 2 dX6_hearBits_0 rfl (j_iconst (v := 1) dX6_hearBits_1 rfl (j_isub dX6_hearBits_2 (j_istore (lv' := [(4, _), (0, _), (1, _), (2, _), (3, _)]) dX6_hearBits_3 rfl ?_)))
  have h0 := loop n (I a) hn hok rfl
  rw [fa_self] at h0
  rw [show nI n - 1 = nI n + -1 from Int32.sub_eq_add_neg _ _]
  exact JW.locals [0, 1, 2, 3, 4] rfl h0
/-- the bytes of a GROUP -/
def byN (G : Int32) (k : Nat) : Nat := nN ((G >>> ((24 - 8 * nI k) &&& 31)) &&& 255)
theorem byI (x : Int32) : ∃ j, j < 256 ∧ x &&& 255 = nI j := pk_andE x 8 rfl
theorem byN_lt (G : Int32) (k : Nat) : byN G k < 256 := by
  unfold byN
  obtain ⟨j, hj, e⟩ := byI (G >>> ((24 - 8 * nI k) &&& 31))
  rw [e, nN_nI (by omega)]
  exact hj
theorem c_byteOf {g : GT} {Z : ZT} {I : IT} {L : LT} {Post : PT} {G : Int32} {k : Nat} (hp : Post (some (.int (nI (byN G k)))) Z I L) : CM g 0 0 0 mX6_byteOf [.int G, .int (nI k)] Z I L Post := by
  refine CM_intro ?_
  refine j_iload_n 0 dX6_byteOf_0 rfl (j_bipush (v := 24) dX6_byteOf_1 rfl (j_bipush (v := 8) dX6_byteOf_3 rfl (j_iload_n 1 dX6_byteOf_5 rfl (j_imul dX6_byteOf_6 (j_isub dX6_byteOf_7 (j_ishr dX6_byteOf_8 (j_sipush (v := 255) dX6_byteOf_9 rfl (j_iand dX6_byteOf_12 (j_iret dX6_byteOf_13 ?_)))))))))
  unfold byN at hp
  obtain ⟨j, hj, e⟩ := byI (G >>> ((24 - 8 * nI k) &&& 31))
  rw [e, nN_nI (by omega)] at hp
  rw [e]
  exact hp
/-- a GROUP is heard, all bits of some words turned -/
def gwN (c : CT) (G : Int32) (t k : Nat) : Nat := wdN c k (byN G k) ^^^ (if t.testBit k then 16383 else 0)
noncomputable def hgF (c : CT) (G : Int32) (t : Nat) : Nat → RT → RT
  | 0, ρ => ρ
  | k + 1, ρ => hsF c 14 (hgF c G t k ρ) (gwN c G t k)
theorem gwN_lt {c : CT} {G : Int32} {t k : Nat} (h1 : c.1 < 64) (h2 : c.2.1 k < 64) : gwN c G t k < 16384 := by
  unfold gwN
  exact xor_lt14 (wdN_lt h1 h2 (byN_lt G k)) (by split <;> decide)
theorem MC.okg {I : IT} {c : CT} (h : MC I c) {ρ : RT} (ho : OKr c.2.2.1 ρ) (G : Int32) (t : Nat) : ∀ k, OKr c.2.2.1 (hgF c G t k ρ)
  | 0 => ho
  | k + 1 => h.okh (h.okg ho G t k) 14 _
set_option maxHeartbeats 1000000 in
theorem c_hearGroup {g : GT} {Z : ZT} {I : IT} {L : LT} {Post : PT} {a t : Nat} {G : Int32} {c : CT} (hZ : isMo Z) (hc : MC I c) (ha : 203 ≤ a) (hK : zK Z a = 7) (hL : zL Z a = 47) (hok : OKr c.2.2.1 (I a)) (ht : t < 2 ^ 31) (hp : Post none Z (upR I a (hgF c G t 4 (I a))) L) : CM g 6 0 0 mX6_hearGroup [.ref 198, .ref a, .int G, .int (nI t)] Z I L Post := by
  obtain ⟨c1, c2, c3, c4, c5, c6, c7, c8, c9, c10⟩ := id hc
  have z1 := hZ.1
  refine CM_intro ?_
  have loop : ∀ (n k : Nat), k + n = 4 → JW g mX6_hearGroup (rmO 6 0 0) (QM Post 0 0) 3 [(4, .int (nI k)), (0, .ref 198), (1, .ref a), (2, .int G), (3, .int (nI t))] [] 0 0 Z (upR I a (hgF c G t k (I a))) L := by
    intro n
    induction n with
    | zero =>
      intro k hk
      have : k = 4 := by omega
      subst this
      refine j_iload 0 dX6_hearGroup_3 rfl (j_iconst (v := 4) dX6_hearGroup_5 rfl (j_icmp_ge (tgt := 51) dX6_hearGroup_6 rfl (fun h1 => ?_) (fun h1 => ?_)))
      · refine j_vret dX6_hearGroup_51 ?_
        exact hp
      · exact absurd (by decide) h1
    | succ n ih =>
      intro k hk
      have hk4 : k < 4 := by omega
      have hcu := hc.up ha (hgF c G t k (I a))
      have hoh := hc.okg hok G t k
      have hwl := gwN_lt (c := c) (G := G) (t := t) c2 (c4 k hk4)
      have fin : JW g mX6_hearGroup (rmO 6 0 0) (QM Post 0 0) 42 [(4, .int (nI k)), (0, .ref 198), (1, .ref a), (2, .int G), (3, .int (nI t))] [.int (nI (gwN c G t k)), .int 14, .ref a, .ref 198] 0 0 Z (upR I a (hgF c G t k (I a))) L := by
        refine j_V3 dX6_hearGroup_42 kX6_171 (by first | assumption | rfl) (c_mHearBits (n := 14) hZ hcu ha hK hL (by rw [upR_s]; exact hoh) (by omega) (by omega) (j_iinc (y := 1) (lv' := [(4, _), (0, _), (1, _), (2, _), (3, _)]) 0 dX6_hearGroup_45 rfl rfl rfl (j_goto (tgt := 3) dX6_hearGroup_48 rfl ?_)))
        rw [upR_R, upR_s, nI_1]
        exact JW.locals [0, 1, 2, 3, 4] rfl (ih (k + 1) (by omega))
      unfold gwN at fin
      refine j_iload 0 dX6_hearGroup_3 rfl (j_iconst (v := 4) dX6_hearGroup_5 rfl (j_icmp_ge (tgt := 51) dX6_hearGroup_6 rfl (fun h1 => ?_) (fun h1 => ?_)))
      · exact absurd h1 (nI_ge hk4 (by decide))
      · refine j_aload_n 1 dX6_hearGroup_9 rfl (j_aload_n 2 dX6_hearGroup_10 rfl (j_bipush (v := 14) dX6_hearGroup_11 rfl (j_aload_n 1 dX6_hearGroup_13 rfl (j_iload 0 dX6_hearGroup_14 rfl (j_iload_n 3 dX6_hearGroup_16 rfl (j_iload 0 dX6_hearGroup_17 rfl (j_S2 dX6_hearGroup_19 kX6_165 (c_byteOf (j_V2 dX6_hearGroup_22 kX6_168 (by first | assumption | rfl) (c_mWord hZ hcu hk4 (byN_lt G k) (j_iload_n 4 dX6_hearGroup_25 rfl (j_iload 0 dX6_hearGroup_26 rfl (j_S2 dX6_hearGroup_28 kX6_72 (c_has ht (by omega) (fun hb => ?_) (fun hb => ?_)))))))))))))))
        · refine j_if_eq (tgt := 40) dX6_hearGroup_31 rfl (fun h9 => absurd h9 (by decide)) (fun _ => (j_sipush (v := 16383) dX6_hearGroup_34 rfl (j_goto (tgt := 41) dX6_hearGroup_37 rfl (j_ixor dX6_hearGroup_41 ?_))))
          rw [hb, if_pos rfl] at fin
          rw [show (16383 : Int32) = nI 16383 from rfl, fb_xorI]
          exact fin
        · refine j_if_eq (tgt := 40) dX6_hearGroup_31 rfl (fun _ => (j_iconst (v := 0) dX6_hearGroup_40 rfl (j_ixor dX6_hearGroup_41 ?_))) (fun h9 => absurd (by decide) h9)
          rw [hb, if_neg (by decide)] at fin
          rw [show (0 : Int32) = nI 0 from rfl, fb_xorI]
          exact fin
  refine j_iconst (v := 0) dX6_hearGroup_0 rfl (j_istore (lv' := [(4, _), (0, _), (1, _), (2, _), (3, _)]) dX6_hearGroup_1 rfl ?_)
  have h0 := loop 4 0 rfl
  rw [show hgF c G t 0 (I a) = I a from rfl, fa_self] at h0
  exact JW.locals [0, 1, 2, 3, 4] rfl h0
