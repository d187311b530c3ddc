def jdB (σ : RT) (h a t : Nat) : Bool := if h = 1 then decide (a < 4 ∧ t < 256) else if h = 2 then decide (a = 0 ∧ t = 0) else if h = 3 then decide (t = 0 ∧ nI a = σ 3) else if h = 4 then decide (a < 4 ∧ nI t = if σ (22 + a) = -9 then 0 else 100) else if h = 5 then decide (a < 4 ∧ σ (18 + a) = nI t) else if h = 6 then decide (a = 0 ∧ σ 14 = nI t) else false
noncomputable def jdR (c : CT) (σ : RT) (h a t : Nat) : RT := if h = 1 ∧ a < 4 ∧ t < 256 then hsF c 14 σ (wdN c a t) else if h = 2 ∧ a = 0 ∧ t = 0 then rsF σ else σ
set_option maxHeartbeats 1000000 in
theorem c_isSo {g : GT} {Z : ZT} {I : IT} {L : LT} {Post : PT} {r d : Nat} {c : CT} {σ : RT} (x0 : zK Z 0 = 5) (y1 : zS Z 0 1 = true) (hZ : isR Z r) (hr : 8 ≤ r) (xC : isCo Z) (sC : CC I c) (oC : okC c) (hV : REC (vw I r) σ) (ho : OKz c σ) (hd : d < 100000) (hp : ∀ V', REC V' (jdR c σ (d / 10000) (d / 1000 % 10) (d % 1000)) → Post (some (.int (if jdB σ (d / 10000) (d / 1000 % 10) (d % 1000) = true then 1 else 0))) Z (wr I r V') L) : CM g 7 0 0 mX5_isSo [.ref 0, .ref r, .int (nI d)] Z I L Post := by
  obtain ⟨r1, r2, r3, r4, r5, r6, r7, r8, r9, r10, r11, r12, r13, r14, r15, r16, r17, r18⟩ := id hZ
  have h01 := ho.1.2.1
  refine CM_intro ?_
  refine j_iload_n 2 dX5_isSo_0 rfl (j_sipush (v := 10000) dX5_isSo_1 rfl (j_idiv dX5_isSo_4 (by decide) ?_))
  rw [show nI d / (10000 : Int32) = nI (d / 10000) from divI (d := 10000) (by omega) (by decide) (by decide)]
  refine j_istore_n (lv' := [(3, _), (0, _), (1, _), (2, _)]) dX5_isSo_5 rfl (j_iload_n 3 dX5_isSo_6 rfl (j_sipush (v := 1000) dX5_isSo_7 rfl (j_idiv dX5_isSo_10 (by decide) ?_)))
  rw [show nI d / (1000 : Int32) = nI (d / 1000) from divI (d := 1000) (by omega) (by decide) (by decide)]
  refine j_bipush (v := 10) dX5_isSo_11 rfl (j_irem dX5_isSo_13 (by decide) ?_)
  rw [show nI (d / 1000) - nI (d / 1000) / 10 * 10 = nI (d / 1000 % 10) from remI (d := 10) (by omega) (by decide) (by decide)]
  refine j_istore (lv' := [(4, _), (3, _), (0, _), (1, _), (2, _)]) dX5_isSo_14 rfl (j_iload_n 4 dX5_isSo_16 rfl (j_sipush (v := 1000) dX5_isSo_17 rfl (j_irem dX5_isSo_20 (by decide) ?_)))
  rw [show nI d - nI d / 1000 * 1000 = nI (d % 1000) from remI (d := 1000) (by omega) (by decide) (by decide)]
  refine j_istore (lv' := [(5, _), (4, _), (3, _), (0, _), (1, _), (2, _)]) dX5_isSo_21 rfl (j_iload_n 2 dX5_isSo_23 rfl ?_)
  have hh : d / 10000 < 10 := by omega
  have ha : d / 1000 % 10 < 10 := by omega
  have ht : d % 1000 < 1000 := by omega
  have hd2 : d = 10000 * (d / 10000) + 1000 * (d / 1000 % 10) + d % 1000 := by omega
  generalize d / 10000 = h at hp hh hd2 ⊢
  generalize d / 1000 % 10 = a at hp ha hd2 ⊢
  generalize d % 1000 = t at hp ht hd2 ⊢
  have same : ∀ {P : PT} {x : Option Value}, (∀ V', REC V' σ → P x Z (wr I r V') L) → P x Z I L := fun {P} {x} q => by
    have := q (vw I r) hV
    rw [wr_vw] at this
    exact this
  have hc : h = 1 ∨ h = 2 ∨ h = 3 ∨ h = 4 ∨ h = 5 ∨ h = 6 ∨ (h = 0 ∨ 6 < h) := by omega
  rcases hc with e | e | e | e | e | e | e
  · subst e
    refine j_tsIn (tgt := 64) dX5_isSo_24 (by decide) (by decide) rfl rfl ?_
    by_cases hq : a < 4 ∧ t < 256
    · have eR : jdR c σ 1 a t = hsF c 14 σ (wdN c a t) := by unfold jdR; rw [if_pos ⟨rfl, hq.1, hq.2⟩]
      have eB : jdB σ 1 a t = true := decide_eq_true hq
      rw [eR, eB, if_pos rfl] at hp
      refine j_aload_n 3 dX5_isSo_64 rfl (j_aload_n 4 dX5_isSo_65 rfl (j_iload 1 dX5_isSo_66 rfl (j_iload 0 dX5_isSo_68 rfl (j_V3 dX5_isSo_70 kX5_286 (by first | assumption | rfl) (c_canHear x0 y1 hZ hr xC sC oC hV ho hq.1 hq.2 (fun V' hV' => ?_))))))
      refine j_zret dX5_isSo_73 (by decide) ?_
      exact hp V' hV'
    · have eR : jdR c σ 1 a t = σ := by unfold jdR; rw [if_neg (fun z => hq z.2), if_neg (fun z => absurd z.1 (by decide))]
      have eB : jdB σ 1 a t = false := decide_eq_false hq
      rw [eR, eB, if_neg (by decide)] at hp
      refine j_aload_n 3 dX5_isSo_64 rfl (j_aload_n 4 dX5_isSo_65 rfl (j_iload 1 dX5_isSo_66 rfl (j_iload 0 dX5_isSo_68 rfl (j_V3 dX5_isSo_70 kX5_286 (by first | assumption | rfl) (c_canHearNot hq (by omega) (by omega) ?_)))))
      refine j_zret dX5_isSo_73 (by decide) ?_
      exact same hp
  · subst e
    refine j_tsIn (tgt := 74) dX5_isSo_24 (by decide) (by decide) rfl rfl ?_
    by_cases hq : a = 0 ∧ t = 0
    · have eR : jdR c σ 2 a t = rsF σ := by unfold jdR; rw [if_neg (fun z => absurd z.1 (by decide)), if_pos ⟨rfl, hq.1, hq.2⟩]
      have eB : jdB σ 2 a t = true := decide_eq_true hq
      rw [eR, eB, if_pos rfl] at hp
      rw [show nI d = (20000 : Int32) from congrArg nI (show d = 20000 by omega)]
      refine j_aload_n 4 dX5_isSo_74 rfl (j_iload_n 5 dX5_isSo_75 rfl (j_S2 dX5_isSo_76 kX5_290 (c_canReset hZ hV h01 (fun V' hV' => ?_))))
      refine j_zret dX5_isSo_79 (by decide) ?_
      exact hp V' hV'
    · have eR : jdR c σ 2 a t = σ := by unfold jdR; rw [if_neg (fun z => absurd z.1 (by decide)), if_neg (fun z => hq z.2)]
      have eB : jdB σ 2 a t = false := decide_eq_false hq
      rw [eR, eB, if_neg (by decide)] at hp
      refine j_aload_n 4 dX5_isSo_74 rfl (j_iload_n 5 dX5_isSo_75 rfl (j_S2 dX5_isSo_76 kX5_290 (c_canResetNot (fun z => absurd (nI_inj (b := 20000) (by omega) (by decide) z) (by omega)) ?_)))
      refine j_zret dX5_isSo_79 (by decide) ?_
      exact same hp
  · subst e
    refine j_tsIn (tgt := 80) dX5_isSo_24 (by decide) (by decide) rfl rfl ?_
    have eR : jdR c σ 3 a t = σ := by unfold jdR; rw [if_neg (fun z => absurd z.1 (by decide)), if_neg (fun z => absurd z.1 (by decide))]
    have eB : jdB σ 3 a t = decide (t = 0 ∧ nI a = σ 3) := rfl
    rw [eR, eB] at hp
    have hp := same hp
    refine j_iload 0 dX5_isSo_80 rfl (j_if_ne (tgt := 98) dX5_isSo_82 rfl (fun g1 => ?_) (fun g1 => ?_))
    · rw [decide_eq_false (fun z => g1 (by rw [z.1]; rfl))] at hp
      refine j_iconst (v := 0) dX5_isSo_98 rfl (j_zret dX5_isSo_99 (by decide) ?_)
      exact hp
    · refine j_iload 1 dX5_isSo_85 rfl (j_aload_n 4 dX5_isSo_87 rfl (j_V0 dX5_isSo_88 kX5_208 (by first | assumption | rfl) (c_sync r1 hV h01 ?_)))
      refine j_icmp_ne (tgt := 98) dX5_isSo_91 rfl (fun g2 => ?_) (fun g2 => ?_)
      · rw [decide_eq_false (fun z => g2 z.2)] at hp
        refine j_iconst (v := 0) dX5_isSo_98 rfl (j_zret dX5_isSo_99 (by decide) ?_)
        exact hp
      · rw [decide_eq_true ⟨nI_inj (b := 0) (by omega) (by decide) g1, g2⟩] at hp
        refine j_iconst (v := 1) dX5_isSo_94 rfl (j_goto (tgt := 99) dX5_isSo_95 rfl (j_zret dX5_isSo_99 (by decide) ?_))
        exact hp
  · subst e
    refine j_tsIn (tgt := 100) dX5_isSo_24 (by decide) (by decide) rfl rfl ?_
    have eR : jdR c σ 4 a t = σ := by unfold jdR; rw [if_neg (fun z => absurd z.1 (by decide)), if_neg (fun z => absurd z.1 (by decide))]
    have eB : jdB σ 4 a t = decide (a < 4 ∧ nI t = if σ (22 + a) = -9 then 0 else 100) := rfl
    rw [eR, eB] at hp
    have hp := same hp
    by_cases ha4 : a < 4
    · have hna : I (r + 2) a = σ (22 + a) := hV.2.1.2.2.2.2.2.1 a ha4
      refine j_iload 1 dX5_isSo_100 rfl (j_S1 dX5_isSo_102 kX5_146 (c_isPlace ⟨fun _ _ _ => ?_, fun h => absurd rfl (h a ha4)⟩))
      refine j_if_eq (tgt := 138) dX5_isSo_105 rfl (fun h9 => absurd h9 (by decide)) (fun _ => (j_iload 0 dX5_isSo_108 rfl (j_aload_n 4 dX5_isSo_110 rfl (j_getR (b := r + 1) dX5_isSo_111 fX5_115 rfl (by first | assumption | rfl) (by first | assumption | rfl) (j_getR (b := r + 2) dX5_isSo_114 fX5_136 rfl (by first | assumption | rfl) (by first | assumption | rfl) (j_iload 1 dX5_isSo_117 rfl (j_iaload a dX5_isSo_119 (by first | assumption | rfl) (by first | assumption | rfl) (by omega) (j_bipush (v := -9) dX5_isSo_120 rfl (j_icmp_ne (tgt := 129) dX5_isSo_122 rfl (fun g1 => ?_) (fun g1 => ?_))))))))))
      · rw [hna] at g1
        rw [if_neg g1] at hp
        refine j_bipush (v := 100) dX5_isSo_129 rfl (j_icmp_ne (tgt := 138) dX5_isSo_131 rfl (fun g2 => ?_) (fun g2 => ?_))
        · rw [decide_eq_false (fun z => g2 z.2)] at hp
          refine j_iconst (v := 0) dX5_isSo_138 rfl (j_zret dX5_isSo_139 (by decide) ?_)
          exact hp
        · rw [decide_eq_true ⟨ha4, g2⟩] at hp
          refine j_iconst (v := 1) dX5_isSo_134 rfl (j_goto (tgt := 139) dX5_isSo_135 rfl (j_zret dX5_isSo_139 (by decide) ?_))
          exact hp
      · rw [hna] at g1
        rw [if_pos g1] at hp
        refine j_iconst (v := 0) dX5_isSo_125 rfl (j_goto (tgt := 131) dX5_isSo_126 rfl (j_icmp_ne (tgt := 138) dX5_isSo_131 rfl (fun g2 => ?_) (fun g2 => ?_)))
        · rw [decide_eq_false (fun z => g2 z.2)] at hp
          refine j_iconst (v := 0) dX5_isSo_138 rfl (j_zret dX5_isSo_139 (by decide) ?_)
          exact hp
        · rw [decide_eq_true ⟨ha4, g2⟩] at hp
          refine j_iconst (v := 1) dX5_isSo_134 rfl (j_goto (tgt := 139) dX5_isSo_135 rfl (j_zret dX5_isSo_139 (by decide) ?_))
          exact hp
    · rw [decide_eq_false (fun z => ha4 z.1)] at hp
      refine j_iload 1 dX5_isSo_100 rfl (j_S1 dX5_isSo_102 kX5_146 (c_isPlace ⟨fun j hj e => absurd (nI_inj (show a < 2 ^ 31 by omega) (by omega) e) (by omega), fun _ => ?_⟩))
      refine j_if_eq (tgt := 138) dX5_isSo_105 rfl (fun _ => (j_iconst (v := 0) dX5_isSo_138 rfl (j_zret dX5_isSo_139 (by decide) ?_))) (fun h9 => absurd (by decide) h9)
      exact hp
  · subst e
    refine j_tsIn (tgt := 140) dX5_isSo_24 (by decide) (by decide) rfl rfl ?_
    have eR : jdR c σ 5 a t = σ := by unfold jdR; rw [if_neg (fun z => absurd z.1 (by decide)), if_neg (fun z => absurd z.1 (by decide))]
    have eB : jdB σ 5 a t = decide (a < 4 ∧ σ (18 + a) = nI t) := rfl
    rw [eR, eB] at hp
    have hp := same hp
    by_cases ha4 : a < 4
    · have hna : I (r + 6) a = σ (18 + a) := hV.2.2 a ha4
      refine j_iload 1 dX5_isSo_140 rfl (j_S1 dX5_isSo_142 kX5_109 (c_isOffset ⟨fun _ _ _ => ?_, fun h => absurd rfl (h a ha4)⟩))
      refine j_if_eq (tgt := 164) dX5_isSo_145 rfl (fun h9 => absurd h9 (by decide)) (fun _ => (j_aload_n 4 dX5_isSo_148 rfl (j_getR (b := r + 6) dX5_isSo_149 fX5_143 rfl (by first | assumption | rfl) (by first | assumption | rfl) (j_iload 1 dX5_isSo_152 rfl (j_iaload a dX5_isSo_154 (by first | assumption | rfl) (by first | assumption | rfl) (by omega) (j_iload 0 dX5_isSo_155 rfl (j_icmp_ne (tgt := 164) dX5_isSo_157 rfl (fun g1 => ?_) (fun g1 => ?_))))))))
      · rw [hna] at g1
        rw [decide_eq_false (fun z => g1 z.2)] at hp
        refine j_iconst (v := 0) dX5_isSo_164 rfl (j_zret dX5_isSo_165 (by decide) ?_)
        exact hp
      · rw [hna] at g1
        rw [decide_eq_true ⟨ha4, g1⟩] at hp
        refine j_iconst (v := 1) dX5_isSo_160 rfl (j_goto (tgt := 165) dX5_isSo_161 rfl (j_zret dX5_isSo_165 (by decide) ?_))
        exact hp
    · rw [decide_eq_false (fun z => ha4 z.1)] at hp
      refine j_iload 1 dX5_isSo_140 rfl (j_S1 dX5_isSo_142 kX5_109 (c_isOffset ⟨fun j hj e => absurd (nI_inj (show a < 2 ^ 31 by omega) (by omega) e) (by omega), fun _ => ?_⟩))
      refine j_if_eq (tgt := 164) dX5_isSo_145 rfl (fun _ => (j_iconst (v := 0) dX5_isSo_164 rfl (j_zret dX5_isSo_165 (by decide) ?_))) (fun h9 => absurd (by decide) h9)
      exact hp
  · subst e
    refine j_tsIn (tgt := 166) dX5_isSo_24 (by decide) (by decide) rfl rfl ?_
    have eR : jdR c σ 6 a t = σ := by unfold jdR; rw [if_neg (fun z => absurd z.1 (by decide)), if_neg (fun z => absurd z.1 (by decide))]
    have eB : jdB σ 6 a t = decide (a = 0 ∧ σ 14 = nI t) := rfl
    rw [eR, eB] at hp
    have hp := same hp
    have hpr : I (r + 1) 5 = σ 14 := hV.2.1.2.1
    refine j_iload 1 dX5_isSo_166 rfl (j_if_ne (tgt := 187) dX5_isSo_168 rfl (fun g1 => ?_) (fun g1 => ?_))
    · rw [decide_eq_false (fun z => g1 (by rw [z.1]; rfl))] at hp
      refine j_iconst (v := 0) dX5_isSo_187 rfl (j_zret dX5_isSo_188 (by decide) ?_)
      exact hp
    · have ha0 := nI_inj (b := 0) (by omega) (by decide) g1
      refine j_aload_n 4 dX5_isSo_171 rfl (j_getR (b := r + 1) dX5_isSo_172 fX5_115 rfl (by first | assumption | rfl) (by first | assumption | rfl) (j_getI dX5_isSo_175 fX5_119 (by first | assumption | rfl) (j_iload 0 dX5_isSo_178 rfl (j_icmp_ne (tgt := 187) dX5_isSo_180 rfl (fun g2 => ?_) (fun g2 => ?_)))))
      · rw [hpr] at g2
        rw [decide_eq_false (fun z => g2 z.2)] at hp
        refine j_iconst (v := 0) dX5_isSo_187 rfl (j_zret dX5_isSo_188 (by decide) ?_)
        exact hp
      · rw [hpr] at g2
        rw [decide_eq_true ⟨ha0, g2⟩] at hp
        refine j_iconst (v := 1) dX5_isSo_183 rfl (j_goto (tgt := 188) dX5_isSo_184 rfl (j_zret dX5_isSo_188 (by decide) ?_))
        exact hp
  · have eR : jdR c σ h a t = σ := by unfold jdR; rw [if_neg (by omega), if_neg (by omega)]
    have eB : jdB σ h a t = false := by unfold jdB; rw [if_neg (by omega), if_neg (by omega), if_neg (by omega), if_neg (by omega), if_neg (by omega), if_neg (by omega)]
    rw [eR, eB, if_neg (by decide)] at hp
    have hp := same hp
    refine j_tsOut (tgt := 189) dX5_isSo_24 ?_ rfl ?_
    · rw [nI_toInt (by omega)]
      omega
    · refine j_iconst (v := 0) dX5_isSo_189 rfl (j_zret dX5_isSo_190 (by decide) ?_)
      exact hp
