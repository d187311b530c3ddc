theorem OKp.l1 {ρ : RT} (h : OKp ρ) : OKp (l1F ρ) := h.cong (fun k hk => l1F_n (by omega) (by omega))
theorem divI {b d : Nat} (hb : b < 2 ^ 31) (h0 : 0 < d) (hd : d < 2 ^ 31) : nI b / nI d = nI (b / d) := pk_div hb h0 hd
set_option maxHeartbeats 1000000 in
theorem c_lookAt {g : GT} {Z : ZT} {I : IT} {L : LT} {Post : PT} {a : Nat} (hK : zK Z a = 7) (hL : zL Z a = 47) (hok : OKp (I a)) (hli : OKL (I a)) (hp : Post none Z (upR I a (laF (I a))) L) : CM g 2 0 0 mX6_lookAt [.ref a] Z I L Post := by
  refine CM_intro ?_
  have hok1 := hok.l1
  have hli1 : OKL (l1F (I a)) := hli.cong (fun j hj => l1F_n (by omega) (by omega))
  have key : JW g mX6_lookAt (rmO 2 0 0) (QM Post 0 0) 36 [(1, .int (I a 18)), (0, .ref a)] [] 0 0 Z (upR I a (l1F (I a))) L := by
    unfold laF at hp
    generalize l1F (I a) = σ at hok1 hli1 hp ⊢
    generalize hI1 : upR I a σ = I1
    have e1 : I1 a = σ := by rw [← hI1]; exact upR_s _ _ _
    have hp : Post none Z (upR I1 a (l2F σ)) L := by rw [← hI1, upR_R]; exact hp
    unfold l2F at hp
    obtain ⟨m, m8, em, -, -⟩ := id hli1
    refine j_aload_n 1 dX6_lookAt_36 rfl (j_bipush (v := 19) dX6_lookAt_37 rfl (j_iaload 19 dX6_lookAt_39 (by first | assumption | rfl) (by first | assumption | rfl) (by omega) (j_istore_n (lv' := [(2, _), (1, _), (0, _)]) dX6_lookAt_40 rfl (j_iload_n 0 dX6_lookAt_41 rfl (j_bipush (v := -9) dX6_lookAt_42 rfl (j_icmp_ne (tgt := 48) dX6_lookAt_44 rfl (fun h1 => ?_) (fun h1 => ?_)))))))
    · rw [e1] at h1
      refine j_aload_n 2 dX6_lookAt_48 rfl (j_bipush (v := 20) dX6_lookAt_49 rfl (j_iaload 20 dX6_lookAt_51 (by first | assumption | rfl) (by first | assumption | rfl) (by omega) (j_istore_n (lv' := [(3, _), (2, _), (1, _), (0, _)]) dX6_lookAt_52 rfl (j_aload_n 3 dX6_lookAt_53 rfl (j_bipush (v := 21) dX6_lookAt_54 rfl (j_iaload 21 dX6_lookAt_56 (by first | assumption | rfl) (by first | assumption | rfl) (by omega) (j_istore (lv' := [(4, _), (3, _), (2, _), (1, _), (0, _)]) dX6_lookAt_57 rfl ?_)))))))
      rw [if_neg h1] at hp
      obtain ⟨b, hb, eb⟩ : ∃ p, p < 256 ∧ σ 19 = nI p := by
        rcases hok1 1 (by decide) with z | z
        · exact absurd z h1
        · exact z
      rw [eb, nN_nI (show b < 2 ^ 31 by omega)] at hp
      rw [e1, eb]
      have sw : ∀ fl : Int32, (fl = 1 ∧ σ 20 ≠ -9 ∧ σ 21 ≠ -9) ∨ (fl = 0 ∧ ¬ (σ 20 ≠ -9 ∧ σ 21 ≠ -9)) → JW g mX6_lookAt (rmO 2 0 0) (QM Post 0 0) 79 [(5, .int fl), (4, .int (σ 21)), (3, .int (σ 20)), (2, .int (nI b)), (1, .int (I a 18)), (0, .ref a)] [] 0 0 Z I1 L := by
        intro fl hfl
        refine j_iload_n 3 dX6_lookAt_79 rfl (j_bipush (v := 64) dX6_lookAt_80 rfl (j_idiv dX6_lookAt_82 (by decide) ?_))
        rw [show (nI b / 64 : Int32) = nI (b / 64) from divI (d := 64) (by omega) (by decide) (by decide)]
        have hq : b / 64 = 0 ∨ b / 64 = 1 ∨ b / 64 = 2 ∨ b / 64 = 3 := by omega
        rcases hq with hq | hq | hq | hq
        · rw [if_pos hq] at hp
          rw [hq]
          refine j_tsIn (tgt := 108) dX6_lookAt_83 (by decide) (by decide) rfl rfl ?_
          rcases hfl with ⟨rfl, hbo⟩ | ⟨rfl, hbo⟩
          · rw [if_pos hbo] at hp
            refine j_iload 0 dX6_lookAt_108 rfl (j_if_eq (tgt := 184) dX6_lookAt_110 rfl (fun h9 => absurd h9 (by decide)) (fun _ => (j_aload_n 5 dX6_lookAt_113 rfl (j_iload_n 3 dX6_lookAt_114 rfl (j_iconst (v := 4) dX6_lookAt_115 rfl (j_irem dX6_lookAt_116 (by decide) (j_sipush (v := 256) dX6_lookAt_117 rfl (j_iload_n 2 dX6_lookAt_120 rfl (j_imul dX6_lookAt_121 (j_iload 1 dX6_lookAt_122 rfl (j_iadd dX6_lookAt_124 ?_)))))))))))
            rw [show (nI b - nI b / 4 * 4 : Int32) = nI (b % 4) from remI (d := 4) (by omega) (by decide) (by decide)]
            refine j_S3 dX6_lookAt_125 kX6_130 (c_takePair hK hL (Nat.mod_lt _ (by decide)) (j_goto (tgt := 184) dX6_lookAt_128 rfl (j_vret dX6_lookAt_184 ?_)))
            rw [e1]
            exact hp
          · rw [if_neg hbo, ← e1, fa_self] at hp
            refine j_iload 0 dX6_lookAt_108 rfl (j_if_eq (tgt := 184) dX6_lookAt_110 rfl (fun _ => (j_vret dX6_lookAt_184 ?_)) (fun h9 => absurd (by decide) h9))
            exact hp
        · rw [if_neg (by omega), if_pos hq] at hp
          rw [hq]
          refine j_tsIn (tgt := 131) dX6_lookAt_83 (by decide) (by decide) rfl rfl ?_
          rcases hfl with ⟨rfl, hbo⟩ | ⟨rfl, hbo⟩
          · refine j_iload 0 dX6_lookAt_131 rfl (j_if_eq (tgt := 184) dX6_lookAt_133 rfl (fun h9 => absurd h9 (by decide)) (fun _ => (j_iload_n 2 dX6_lookAt_136 rfl (j_bipush (v := 24) dX6_lookAt_137 rfl (j_icmp_ge (tgt := 184) dX6_lookAt_139 rfl (fun h4 => ?_) (fun h4 => ?_))))))
            · rw [if_neg (fun z => absurd h4 (Int32.not_le.mpr z.2.2.1)), ← e1, fa_self] at hp
              refine j_vret dX6_lookAt_184 ?_
              exact hp
            · refine j_iload 1 dX6_lookAt_142 rfl (j_bipush (v := 60) dX6_lookAt_144 rfl (j_icmp_ge (tgt := 184) dX6_lookAt_146 rfl (fun h5 => ?_) (fun h5 => ?_)))
              · rw [if_neg (fun z => absurd h5 (Int32.not_le.mpr z.2.2.2)), ← e1, fa_self] at hp
                refine j_vret dX6_lookAt_184 ?_
                exact hp
              · rw [if_pos ⟨hbo.1, hbo.2, Int32.not_le.mp h4, Int32.not_le.mp h5⟩] at hp
                refine j_aload_n 5 dX6_lookAt_149 rfl (j_bipush (v := 16) dX6_lookAt_150 rfl (j_bipush (v := 60) dX6_lookAt_152 rfl (j_iload_n 2 dX6_lookAt_154 rfl (j_imul dX6_lookAt_155 (j_iload 1 dX6_lookAt_156 rfl (j_iadd dX6_lookAt_158 (j_iastore 16 dX6_lookAt_159 (by first | assumption | rfl) (by first | assumption | rfl) (by omega) (j_goto (tgt := 184) dX6_lookAt_160 rfl (j_vret dX6_lookAt_184 ?_)))))))))
                simp only [upI, e1]
                exact hp
          · rw [if_neg (fun z => hbo ⟨z.1, z.2.1⟩), ← e1, fa_self] at hp
            refine j_iload 0 dX6_lookAt_131 rfl (j_if_eq (tgt := 184) dX6_lookAt_133 rfl (fun _ => (j_vret dX6_lookAt_184 ?_)) (fun h9 => absurd (by decide) h9))
            exact hp
        · rw [if_neg (by omega), if_neg (by omega), if_pos hq] at hp
          rw [hq]
          refine j_tsIn (tgt := 163) dX6_lookAt_83 (by decide) (by decide) rfl rfl ?_
          obtain ⟨m', m8', em', -, -⟩ := hli1.ho (σ 20)
          refine j_aload_n 5 dX6_lookAt_163 rfl (j_iload_n 2 dX6_lookAt_164 rfl (j_S2 dX6_lookAt_165 kX6_134 (c_hearOf hK hL (by rw [e1]; exact em) m8 ?_)))
          rw [e1]
          refine j_aload_n 5 dX6_lookAt_168 rfl (j_iload 1 dX6_lookAt_169 rfl (j_S2 dX6_lookAt_171 kX6_134 (c_hearOf hK hL (by rw [upR_s]; exact em') m8' (j_goto (tgt := 184) dX6_lookAt_174 rfl (j_vret dX6_lookAt_184 ?_)))))
          rw [upR_s, upR_R]
          exact hp
        · rw [if_neg (by omega), if_neg (by omega), if_neg (by omega)] at hp
          rw [hq]
          refine j_tsOut (tgt := 177) dX6_lookAt_83 (Or.inr (by decide)) rfl ?_
          refine j_aload_n 5 dX6_lookAt_177 rfl (j_iload_n 3 dX6_lookAt_178 rfl (j_iconst (v := 2) dX6_lookAt_179 rfl (j_irem dX6_lookAt_180 (by decide) ?_)))
          rw [show (nI b - nI b / 2 * 2 : Int32) = nI (b % 2) from remI (d := 2) (by omega) (by decide) (by decide)]
          refine j_S2 dX6_lookAt_181 kX6_138 (c_takeFlag hK hL (j_vret dX6_lookAt_184 ?_))
          rw [e1]
          exact hp
      refine j_iload_n 1 dX6_lookAt_59 rfl (j_bipush (v := -9) dX6_lookAt_60 rfl (j_icmp_eq (tgt := 76) dX6_lookAt_62 rfl (fun h2 => ?_) (fun h2 => ?_)))
      · refine j_iconst (v := 0) dX6_lookAt_76 rfl (j_istore (lv' := [(5, _), (4, _), (3, _), (2, _), (1, _), (0, _)]) dX6_lookAt_77 rfl ?_)
        exact sw 0 (Or.inr ⟨rfl, fun z => z.1 h2⟩)
      · refine j_iload 0 dX6_lookAt_65 rfl (j_bipush (v := -9) dX6_lookAt_67 rfl (j_icmp_eq (tgt := 76) dX6_lookAt_69 rfl (fun h3 => ?_) (fun h3 => ?_)))
        · refine j_iconst (v := 0) dX6_lookAt_76 rfl (j_istore (lv' := [(5, _), (4, _), (3, _), (2, _), (1, _), (0, _)]) dX6_lookAt_77 rfl ?_)
          exact sw 0 (Or.inr ⟨rfl, fun z => z.2 h3⟩)
        · refine j_iconst (v := 1) dX6_lookAt_72 rfl (j_goto (tgt := 77) dX6_lookAt_73 rfl (j_istore (lv' := [(5, _), (4, _), (3, _), (2, _), (1, _), (0, _)]) dX6_lookAt_77 rfl ?_))
          exact sw 1 (Or.inl ⟨rfl, h2, h3⟩)
    · rw [e1] at h1
      refine j_vret dX6_lookAt_47 ?_
      rw [if_pos h1, ← e1, fa_self] at hp
      exact hp
  unfold l1F at key
  refine j_aload_n 0 dX6_lookAt_0 rfl (j_bipush (v := 18) dX6_lookAt_1 rfl (j_iaload 18 dX6_lookAt_3 (by first | assumption | rfl) (by first | assumption | rfl) (by omega) (j_istore_n (lv' := [(1, _), (0, _)]) dX6_lookAt_4 rfl (j_iload_n 0 dX6_lookAt_5 rfl (j_bipush (v := -9) dX6_lookAt_6 rfl (j_icmp_eq (tgt := 36) dX6_lookAt_8 rfl (fun h1 => ?_) (fun h1 => ?_)))))))
  · rw [if_pos h1, fa_self] at key
    exact key
  · rw [if_neg h1] at key
    refine j_aload_n 1 dX6_lookAt_11 rfl (j_bipush (v := 14) dX6_lookAt_12 rfl (j_aload_n 1 dX6_lookAt_14 rfl (j_bipush (v := 15) dX6_lookAt_15 rfl (j_iaload 15 dX6_lookAt_17 (by first | assumption | rfl) (by first | assumption | rfl) (by omega) (j_iload_n 0 dX6_lookAt_18 rfl (j_icmp_ne (tgt := 26) dX6_lookAt_19 rfl (fun h2 => ?_) (fun h2 => ?_)))))))
    · rw [if_neg h2] at key
      refine j_aload_n 1 dX6_lookAt_26 rfl (j_bipush (v := 14) dX6_lookAt_27 rfl (j_iaload 14 dX6_lookAt_29 (by first | assumption | rfl) (by first | assumption | rfl) (by omega) (j_iastore 14 dX6_lookAt_30 (by first | assumption | rfl) (by first | assumption | rfl) (by omega) (j_aload_n 1 dX6_lookAt_31 rfl (j_bipush (v := 15) dX6_lookAt_32 rfl (j_iload_n 0 dX6_lookAt_34 rfl (j_iastore 15 dX6_lookAt_35 (by first | assumption | rfl) (by first | assumption | rfl) (by omega) ?_)))))))
      simp only [upI, upR_R, upR_s]
      exact key
    · rw [if_pos h2] at key
      refine j_iload_n 0 dX6_lookAt_22 rfl (j_goto (tgt := 30) dX6_lookAt_23 rfl (j_iastore 14 dX6_lookAt_30 (by first | assumption | rfl) (by first | assumption | rfl) (by omega) (j_aload_n 1 dX6_lookAt_31 rfl (j_bipush (v := 15) dX6_lookAt_32 rfl (j_iload_n 0 dX6_lookAt_34 rfl (j_iastore 15 dX6_lookAt_35 (by first | assumption | rfl) (by first | assumption | rfl) (by omega) ?_))))))
      simp only [upI, upR_R, upR_s]
      exact key
theorem MC.up {I : IT} {c : CT} (h : MC I c) {a : Nat} (ha : 203 ≤ a) (f : Nat → Int32) : MC (upR I a f) c := by
  unfold MC at h ⊢
  rw [upR_n (show 198 ≠ a by omega), upR_n (show 200 ≠ a by omega), upR_n (show 201 ≠ a by omega), upR_n (show 202 ≠ a by omega)]
  exact h
theorem MC.s0 {I : IT} {c : CT} (h : MC I c) : c.2.2.2 0 = 0 := by
  obtain ⟨c1, c2, c3, c4, c5, c6, c7, c8, c9, c10⟩ := h
  have := c8 0 (by decide)
  rw [if_neg (by omega)] at this
  exact (nI_inj (a := 0) (by decide) (by have := c9 0 (by decide); omega) this).symm
set_option maxHeartbeats 1000000 in
theorem c_seek {g : GT} {Z : ZT} {I : IT} {L : LT} {Post : PT} {a : Nat} {c : CT} (hZ : isMo Z) (hc : MC I c) (hK : zK Z a = 7) (hL : zL Z a = 47) (hok : OKr c.2.2.1 (I a)) (hp : Post none Z (upR I a (skF c (I a))) L) : CM g 3 0 0 mX6_seek [.ref 198, .ref a] Z I L Post := by
  obtain ⟨z1, z2, z3, z4, z5, z6, z7, z8, z9, z10⟩ := id hZ
  obtain ⟨c1, c2, c3, c4, c5, c6, c7, c8, c9, c10⟩ := id hc
  obtain ⟨⟨w, hw, ew⟩, o2, o3, o4, o5, o6, ⟨ho, hho, eho⟩, o8, o9⟩ := id hok
  have hrest := lfN_lt c2 hw
  refine CM_intro ?_
  have hsk : skF c (I a) = skF c (I a) := rfl
  unfold skF at hp
  rw [ew, nN_nI (show w < 2 ^ 31 by omega)] at hp
  have hle := hitN_le c w
  generalize hk : hitN c w = k at hp hle
  have fin : JW g mX6_seek (rmO 3 0 0) (QM Post 0 0) 31 [(3, .int (nI k)), (2, .int (nI (lfN c.1 w))), (0, .ref 198), (1, .ref a)] [] 0 0 Z I L := by
    refine j_aload_n 3 dX6_seek_31 rfl (j_iconst (v := 2) dX6_seek_32 rfl (j_iaload 2 dX6_seek_33 (by first | assumption | rfl) (by first | assumption | rfl) (by omega) (j_bipush (v := 14) dX6_seek_34 rfl (j_icmp_lt (tgt := 44) dX6_seek_36 rfl (fun h1 => ?_) (fun h1 => ?_)))))
    · rw [if_pos (Or.inl h1), fa_self] at hp
      refine j_vret dX6_seek_44 ?_
      exact hp
    · refine j_iload_n 0 dX6_seek_39 rfl (j_iconst (v := 4) dX6_seek_40 rfl (j_icmp_ne (tgt := 45) dX6_seek_41 rfl (fun h2 => ?_) (fun h2 => ?_)))
      · have hk4 : k < 4 := by
          have : k ≠ 4 := fun z => h2 (by rw [z]; rfl)
          omega
        rw [if_neg (by intro z; rcases z with z | z; exact h1 z; omega)] at hp
        refine j_aload_n 3 dX6_seek_45 rfl (j_iconst (v := 0) dX6_seek_46 rfl (j_iaload 0 dX6_seek_47 (by first | assumption | rfl) (by first | assumption | rfl) (by omega) (j_aload_n 3 dX6_seek_48 rfl (j_bipush (v := 8) dX6_seek_49 rfl (j_iaload 8 dX6_seek_51 (by first | assumption | rfl) (by first | assumption | rfl) (by omega) (j_isub dX6_seek_52 (j_istore (lv' := [(4, _), (3, _), (2, _), (0, _), (1, _)]) dX6_seek_53 rfl ?_)))))))
        generalize hoff : I a 0 - I a 8 = off
        have no : ¬ fitsB (I a) k → JW g mX6_seek (rmO 3 0 0) (QM Post 0 0) 107 [(4, .int off), (3, .int (nI k)), (2, .int (nI (lfN c.1 w))), (0, .ref 198), (1, .ref a)] [] 0 0 Z I L := by
          intro hn
          rw [if_neg hn] at hp
          refine j_iconst (v := 0) dX6_seek_107 rfl (j_istore (lv' := [(5, _), (4, _), (3, _), (2, _), (0, _), (1, _)]) dX6_seek_108 rfl (j_iload 0 dX6_seek_110 rfl (j_if_ne (tgt := 133) dX6_seek_112 rfl (fun h9 => absurd (by decide) h9) (fun _ => (j_aload_n 5 dX6_seek_115 rfl (j_bipush (v := 7) dX6_seek_116 rfl (j_iconst (v := 1) dX6_seek_118 rfl (j_iastore 7 dX6_seek_119 (by first | assumption | rfl) (by first | assumption | rfl) (by omega) (j_aload_n 5 dX6_seek_120 rfl (j_bipush (v := 8) dX6_seek_121 rfl (j_aload_n 5 dX6_seek_123 rfl (j_iconst (v := 0) dX6_seek_124 rfl (j_iaload 0 dX6_seek_125 (by first | assumption | rfl) (by first | assumption | rfl) (by omega) (j_iastore 8 dX6_seek_126 (by first | assumption | rfl) (by first | assumption | rfl) (by omega) (j_aload_n 5 dX6_seek_127 rfl (j_bipush (v := 9) dX6_seek_128 rfl (j_iload_n 2 dX6_seek_130 rfl (j_iastore 9 dX6_seek_131 (by first | assumption | rfl) (by first | assumption | rfl) (by omega) (j_vret dX6_seek_132 ?_)))))))))))))))))))
          simp only [upI, upR_R, upR_s, upd_app]
          exact hp
        have hfits : fitsB (I a) k ↔ (I a 7 = 1 ∧ off - off / 14 * 14 = 0 ∧ 1 ≤ off / 14 ∧ off / 14 ≤ 4 ∧ (nN (I a 9) + nN (off / 14)) % 4 = k) := by unfold fitsB; rw [hoff]
        refine j_aload_n 4 dX6_seek_55 rfl (j_bipush (v := 7) dX6_seek_56 rfl (j_iaload 7 dX6_seek_58 (by first | assumption | rfl) (by first | assumption | rfl) (by omega) (j_iconst (v := 1) dX6_seek_59 rfl (j_icmp_ne (tgt := 107) dX6_seek_60 rfl (fun h3 => ?_) (fun h3 => ?_)))))
        · exact no (fun z => h3 z.1)
        · refine j_iload 0 dX6_seek_63 rfl (j_bipush (v := 14) dX6_seek_65 rfl (j_irem dX6_seek_67 (by decide) (j_if_ne (tgt := 107) dX6_seek_68 rfl (fun h4 => ?_) (fun h4 => ?_))))
          · exact no (fun z => h4 (hfits.mp z).2.1)
          · refine j_iload 0 dX6_seek_71 rfl (j_bipush (v := 14) dX6_seek_73 rfl (j_idiv dX6_seek_75 (by decide) (j_i2l dX6_seek_76 (j_lconst (v := 1) dX6_seek_77 rfl (j_ldc2 (v := 4) dX6_seek_78 (List.mem_of_getElem? (i := 926) (by decide +kernel)) (j_S3 dX6_seek_81 kX6_68 (c_inB 1 4 (by decide) rfl rfl ?_)))))))
            refine ⟨fun t t1 t2 et => ?_, fun hn => ?_⟩
            · refine j_if_eq (tgt := 107) dX6_seek_84 rfl (fun h9 => absurd h9 (by decide)) (fun _ => (j_iload_n 1 dX6_seek_87 rfl (j_aload_n 4 dX6_seek_88 rfl (j_bipush (v := 9) dX6_seek_89 rfl (j_iaload 9 dX6_seek_91 (by first | assumption | rfl) (by first | assumption | rfl) (by omega) (j_iload 0 dX6_seek_92 rfl (j_bipush (v := 14) dX6_seek_94 rfl (j_idiv dX6_seek_96 (by decide) (j_iadd dX6_seek_97 (j_iconst (v := 4) dX6_seek_98 rfl (j_irem dX6_seek_99 (by decide) ?_)))))))))))
              have e5 : (I a 9 + off / 14) - (I a 9 + off / 14) / 4 * 4 = nI ((ho + t) % 4) := by
                rw [eho, et, nI_add]
                exact remI (d := 4) (by omega) (by decide) (by decide)
              rw [e5]
              have e6 : fitsB (I a) k ↔ (ho + t) % 4 = k := by
                rw [hfits, et, eho, nN_nI (show ho < 2 ^ 31 by omega), nN_nI (show t < 2 ^ 31 by omega), ← et]
                exact ⟨fun z => z.2.2.2.2, fun z => ⟨h3, h4, by rw [et]; exact nI_le (a := 1) t1 (by omega), by rw [et]; exact nI_le (b := 4) t2 (by decide), z⟩⟩
              refine j_icmp_ne (tgt := 107) dX6_seek_100 rfl (fun h5 => ?_) (fun h5 => ?_)
              · exact no (fun z => h5 (by rw [e6.mp z]))
              · have hft : fitsB (I a) k := e6.mpr (nI_inj (by omega) (by omega) h5).symm
                rw [if_pos hft] at hp
                refine j_iconst (v := 1) dX6_seek_103 rfl (j_goto (tgt := 108) dX6_seek_104 rfl (j_istore (lv' := [(5, _), (4, _), (3, _), (2, _), (0, _), (1, _)]) dX6_seek_108 rfl (j_iload 0 dX6_seek_110 rfl (j_if_ne (tgt := 133) dX6_seek_112 rfl (fun _ => (j_aload_n 5 dX6_seek_133 rfl (j_iconst (v := 3) dX6_seek_134 rfl (j_iconst (v := 1) dX6_seek_135 rfl (j_iastore 3 dX6_seek_136 (by first | assumption | rfl) (by first | assumption | rfl) (by omega) (j_aload_n 5 dX6_seek_137 rfl (j_iconst (v := 4) dX6_seek_138 rfl (j_iload_n 2 dX6_seek_139 rfl (j_iconst (v := 1) dX6_seek_140 rfl (j_iadd dX6_seek_141 (j_iconst (v := 4) dX6_seek_142 rfl (j_irem dX6_seek_143 (by decide) (j_iastore 4 dX6_seek_144 (by first | assumption | rfl) (by first | assumption | rfl) (by omega) (j_aload_n 5 dX6_seek_145 rfl (j_iconst (v := 5) dX6_seek_146 rfl (j_iconst (v := 0) dX6_seek_147 rfl (j_iastore 5 dX6_seek_148 (by first | assumption | rfl) (by first | assumption | rfl) (by omega) (j_aload_n 5 dX6_seek_149 rfl (j_bipush (v := 6) dX6_seek_150 rfl (j_iconst (v := 0) dX6_seek_152 rfl (j_iastore 6 dX6_seek_153 (by first | assumption | rfl) (by first | assumption | rfl) (by omega) (j_aload_n 5 dX6_seek_154 rfl (j_S1 dX6_seek_155 kX6_125 (c_noParts hK hL (j_aload_n 5 dX6_seek_158 rfl (j_bipush (v := 10) dX6_seek_159 rfl (j_dup2 dX6_seek_161 rfl rfl (j_iaload 10 dX6_seek_162 (by first | assumption | rfl) (by first | assumption | rfl) (by omega) (j_iconst (v := 1) dX6_seek_163 rfl (j_iadd dX6_seek_164 (j_iastore 10 dX6_seek_165 (by first | assumption | rfl) (by first | assumption | rfl) (by omega) ?_))))))))))))))))))))))))))))))) (fun h9 => absurd h9 (by decide))))))
                have e7 : (nI k + 1 - (nI k + 1) / 4 * 4 : Int32) = nI ((k + 1) % 4) := by rw [nI_1]; exact remI (d := 4) (by omega) (by decide) (by decide)
                simp only [upI, upR_R, upR_s, e7]
                generalize hσ : upd (npF (upd (upd (upd (upd (I a) 3 1) 4 (nI ((k + 1) % 4))) 5 0) 6 0)) 10 (npF (upd (upd (upd (upd (I a) 3 1) 4 (nI ((k + 1) % 4))) 5 0) 6 0) 10 + 1) = σ
                have hσ1 : σ 1 = nI w := by rw [← hσ, upd_n (by decide), npF_n (by omega)]; exact ew
                have hσe : upd (npF (upd (upd (upd (upd (I a) 3 1) 4 (nI ((k + 1) % 4))) 5 0) 6 0)) 10 (I a 10 + 1) = σ := by rw [← hσ, npF_n (show 10 < 18 ∨ 22 ≤ 10 by omega)]; rfl
                rw [hσe] at hp
                refine j_aload_n 5 dX6_seek_166 rfl (j_bipush (v := 18) dX6_seek_167 rfl (j_iload_n 2 dX6_seek_169 rfl (j_iadd dX6_seek_170 (j_aload_n 5 dX6_seek_171 rfl (j_iconst (v := 1) dX6_seek_172 rfl (j_iaload 1 dX6_seek_173 (by first | assumption | rfl) (by first | assumption | rfl) (by omega) (j_bipush (v := 64) dX6_seek_174 rfl (j_idiv dX6_seek_176 (by decide) (j_iastore (18 + k) dX6_seek_177 (nI_add 18 k) (by first | assumption | rfl) (by omega) ?_)))))))))
                simp only [upI, upR_R, upR_s, hσ1]
                rw [show (nI w / 64 : Int32) = nI (w / 64) from divI (d := 64) (by omega) (by decide) (by decide)]
                have hoks : OKr c.2.2.1 (skF c (I a)) := hok.sk c6
                refine j_iload_n 2 dX6_seek_178 rfl (j_iconst (v := 3) dX6_seek_179 rfl (j_icmp_ne (tgt := 187) dX6_seek_180 rfl (fun h6 => ?_) (fun h6 => ?_)))
                · have : k ≠ 3 := fun z => h6 (by rw [z]; rfl)
                  refine j_vret dX6_seek_187 ?_
                  simp only [if_neg this] at hp
                  exact hp
                · have h3k : k = 3 := nI_inj (b := 3) (by omega) (by decide) h6
                  simp only [if_pos h3k] at hp
                  have hop : OKp (upd σ (18 + k) (nI (w / 64))) := by
                    refine OKp.set ?_ hk4 (by omega)
                    rw [← hσ]
                    exact OKp.cong OKp.np (fun j hj => upd_n (by omega))
                  have hol : OKL (upd σ (18 + k) (nI (w / 64))) := o9.cong (fun j hj => by rw [upd_n (by omega), ← hσ, upd_n (by omega), npF_n (by omega), upd_n (by omega), upd_n (by omega), upd_n (by omega), upd_n (by omega)])
                  refine j_aload_n 5 dX6_seek_183 rfl (j_S1 dX6_seek_184 kX6_143 (c_lookAt hK hL (by rw [upR_s]; exact hop) (by rw [upR_s]; exact hol) (j_vret dX6_seek_187 ?_)))
                  simp only [upR_R, upR_s]
                  exact hp
            · refine j_if_eq (tgt := 107) dX6_seek_84 rfl (fun _ => ?_) (fun h9 => absurd (by decide) h9)
              refine no (fun z => ?_)
              have z := hfits.mp z
              obtain ⟨t, g1, g2, g3⟩ := bt_t (a := 1) (b := 4) (x := off / 14) (by decide) ((i32_le _ _).mp z.2.2.1) ((i32_le _ _).mp z.2.2.2.1)
              exact hn t g1 g2 g3
      · have hk4 : k = 4 := nI_inj (b := 4) (by omega) (by decide) h2
        rw [if_pos (Or.inr hk4), fa_self] at hp
        refine j_vret dX6_seek_44 ?_
        exact hp
  have loop : ∀ (n j : Nat), j + n = 4 → fIx (fun k => decide (c.2.1 k = lfN c.1 w)) n j = k → JW g mX6_seek (rmO 3 0 0) (QM Post 0 0) 10 [(3, .int (nI j)), (2, .int (nI (lfN c.1 w))), (0, .ref 198), (1, .ref a)] [] 0 0 Z I L := by
    intro n
    induction n with
    | zero =>
      intro j hj hf
      have hf : j = k := hf
      subst hf
      have : j = 4 := by omega
      subst this
      refine j_iload_n 0 dX6_seek_10 rfl (j_iconst (v := 4) dX6_seek_11 rfl (j_icmp_ge (tgt := 31) dX6_seek_12 rfl (fun h1 => ?_) (fun h1 => ?_)))
      · exact fin
      · exact absurd (by decide) h1
    | succ n ih =>
      intro j hj hf
      unfold fIx at hf
      refine j_iload_n 0 dX6_seek_10 rfl (j_iconst (v := 4) dX6_seek_11 rfl (j_icmp_ge (tgt := 31) dX6_seek_12 rfl (fun h1 => ?_) (fun h1 => ?_)))
      · exact absurd h1 (nI_ge (show j < 4 by omega) (by decide))
      · refine j_aload_n 2 dX6_seek_15 rfl (j_getR (b := 200) dX6_seek_16 fX6_13 rfl (by first | assumption | rfl) (by first | assumption | rfl) (j_iload_n 0 dX6_seek_19 rfl (j_iaload j dX6_seek_20 (by first | assumption | rfl) (by first | assumption | rfl) (by omega) (j_iload_n 1 dX6_seek_21 rfl (j_icmp_eq (tgt := 31) dX6_seek_22 rfl (fun h2 => ?_) (fun h2 => ?_))))))
        · rw [c3 j (by omega)] at h2
          rw [if_pos (by simpa using nI_inj (by have := c4 j (by omega); omega) (by omega) h2)] at hf
          subst hf
          exact fin
        · rw [c3 j (by omega)] at h2
          rw [if_neg (by simpa using fun z => h2 (by rw [z]))] at hf
          refine j_iinc (y := 1) (lv' := [(3, _), (2, _), (0, _), (1, _)]) 0 dX6_seek_25 rfl rfl rfl (j_goto (tgt := 10) dX6_seek_28 rfl ?_)
          rw [nI_1]
          exact JW.locals [0, 1, 2, 3] rfl (ih (j + 1) (by omega) hf)
  refine j_aload_n 0 dX6_seek_0 rfl (j_aload_n 1 dX6_seek_1 rfl (j_iconst (v := 1) dX6_seek_2 rfl (j_iaload 1 dX6_seek_3 (by first | assumption | rfl) (by first | assumption | rfl) (by omega) ?_)))
  rw [ew]
  refine j_V1 dX6_seek_4 kX6_89 (by first | assumption | rfl) (c_left z1 c1 c2 hw (j_istore_n (lv' := [(2, _), (0, _), (1, _)]) dX6_seek_7 rfl (j_iconst (v := 0) dX6_seek_8 rfl (j_istore_n (lv' := [(3, _), (2, _), (0, _), (1, _)]) dX6_seek_9 rfl ?_))))
  exact JW.locals [0, 1, 2, 3] rfl (loop 4 0 rfl hk)
