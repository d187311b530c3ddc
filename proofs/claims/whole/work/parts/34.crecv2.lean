theorem c_countBlock {g : GT} {Z : ZT} {I : IT} {L : LT} {Post : PT} {r : Nat} {V : IT} {x : Int32} (hZ : isR Z r) (h0 : x = -9 → Post none Z (wr I r (upR V 0 (upd (upd (V 0) 11 (V 0 11 + 1)) 8 (V 0 8 + 1)))) L) (h1 : x ≠ -9 → x = V 0 2 → Post none Z (wr I r (upR V 0 (upd (upd (V 0) 9 (V 0 9 + 1)) 8 0))) L) (h2 : x ≠ -9 → x ≠ V 0 2 → Post none Z (wr I r (upR V 0 (upd (V 0) 10 (V 0 10 + 1)))) L) : CM g 0 0 0 mX2_countBlock [.ref r, .int x] Z (wr I r V) L Post := by
  obtain ⟨z1, z2, z3, z4, z5, z6, z7, z8, z9, z10, z11, z12, z13, z14, z15, z16, z17, z18⟩ := id hZ
  refine CM_intro ?_
  refine j_iload_n 1 dX2_countBlock_0 rfl (j_bipush (v := -9) dX2_countBlock_1 rfl (j_icmp_ne (tgt := 29) dX2_countBlock_3 rfl (fun g1 => ?_) (fun g1 => ?_)))
  · refine j_iload_n 1 dX2_countBlock_29 rfl (j_aload_n 0 dX2_countBlock_30 rfl (j_getI dX2_countBlock_31 fX2_25 (by first | assumption | rfl) (j_icmp_ne (tgt := 55) dX2_countBlock_34 rfl (fun g2 => ?_) (fun g2 => ?_))))
    · rw [wr_0] at g2
      refine j_aload_n 0 dX2_countBlock_55 rfl (j_dup dX2_countBlock_56 rfl (j_getI dX2_countBlock_57 fX2_51 (by first | assumption | rfl) (j_iconst (v := 1) dX2_countBlock_60 rfl (j_iadd dX2_countBlock_61 (j_putI dX2_countBlock_62 fX2_51 (by first | assumption | rfl) (j_vret dX2_countBlock_65 ?_))))))
      simp only [upI, wr_0, wu_0]
      exact h2 g1 g2
    · rw [wr_0] at g2
      refine j_aload_n 0 dX2_countBlock_37 rfl (j_dup dX2_countBlock_38 rfl (j_getI dX2_countBlock_39 fX2_48 (by first | assumption | rfl) (j_iconst (v := 1) dX2_countBlock_42 rfl (j_iadd dX2_countBlock_43 (j_putI dX2_countBlock_44 fX2_48 (by first | assumption | rfl) (j_aload_n 0 dX2_countBlock_47 rfl (j_iconst (v := 0) dX2_countBlock_48 rfl (j_putI dX2_countBlock_49 fX2_45 (by first | assumption | rfl) (j_goto (tgt := 65) dX2_countBlock_52 rfl (j_vret dX2_countBlock_65 ?_))))))))))
      simp only [upI, wr_0, wu_0, upR_R, upR_s]
      exact h1 g1 g2
  · refine j_aload_n 0 dX2_countBlock_6 rfl (j_dup dX2_countBlock_7 rfl (j_getI dX2_countBlock_8 fX2_54 (by first | assumption | rfl) (j_iconst (v := 1) dX2_countBlock_11 rfl (j_iadd dX2_countBlock_12 (j_putI dX2_countBlock_13 fX2_54 (by first | assumption | rfl) (j_aload_n 0 dX2_countBlock_16 rfl (j_dup dX2_countBlock_17 rfl (j_getI dX2_countBlock_18 fX2_45 (by first | assumption | rfl) (j_iconst (v := 1) dX2_countBlock_21 rfl (j_iadd dX2_countBlock_22 (j_putI dX2_countBlock_23 fX2_45 (by first | assumption | rfl) (j_goto (tgt := 65) dX2_countBlock_26 rfl (j_vret dX2_countBlock_65 ?_)))))))))))))
    simp only [upI, wr_0, wu_0, upR_R, upR_s, upd_app]
    exact h0 g1
theorem c_cLose {g : GT} {Z : ZT} {I : IT} {L : LT} {Post : PT} {r : Nat} {V : IT} (hZ : isR Z r) (hp : Post none Z (wr I r (upR (upR V 0 (upd (upd (upd (upd (upd (V 0) 5 0) 12 (V 0 12 + 1)) 8 0) 14 (-9)) 4 0)) 6 (flF (V 6) (-9) 4))) L) : CM g 1 0 0 mX2_lose [.ref r] Z (wr I r V) L Post := by
  obtain ⟨z1, z2, z3, z4, z5, z6, z7, z8, z9, z10, z11, z12, z13, z14, z15, z16, z17, z18⟩ := id hZ
  refine CM_intro ?_
  refine j_aload_n 0 dX2_lose_0 rfl (j_iconst (v := 0) dX2_lose_1 rfl (j_putZ dX2_lose_2 fX2_35 (by decide) (by first | assumption | rfl) (j_aload_n 0 dX2_lose_5 rfl (j_dup dX2_lose_6 rfl (j_getI dX2_lose_7 fX2_57 (by first | assumption | rfl) (j_iconst (v := 1) dX2_lose_10 rfl (j_iadd dX2_lose_11 (j_putI dX2_lose_12 fX2_57 (by first | assumption | rfl) (j_aload_n 0 dX2_lose_15 rfl (j_iconst (v := 0) dX2_lose_16 rfl (j_putI dX2_lose_17 fX2_45 (by first | assumption | rfl) (j_aload_n 0 dX2_lose_20 rfl (j_bipush (v := -9) dX2_lose_21 rfl (j_putI dX2_lose_23 fX2_63 (by first | assumption | rfl) (j_aload_n 0 dX2_lose_26 rfl (j_iconst (v := 0) dX2_lose_27 rfl (j_putI dX2_lose_28 fX2_32 (by first | assumption | rfl) (j_aload_n 0 dX2_lose_31 rfl (j_getR (b := r + 6) dX2_lose_32 fX2_18 rfl (by first | assumption | rfl) (by first | assumption | rfl) (j_bipush (v := -9) dX2_lose_35 rfl (j_S2 dX2_lose_37 kX2_66 (c_fill z17 z18 (by decide) (j_vret dX2_lose_40 ?_)))))))))))))))))))))))
  simp only [upI, wr_0, wu_0, wr_6, wu_6, upR_R, upR_s, upd_app, upR_n (show 6 ≠ 0 by decide)]
  exact hp
def cpV (d : Nat) (V : IT) : IT := if d = 0 then upR V 6 (flF (V 6) (-9) 4) else V
theorem cpV_0 (d : Nat) (V : IT) : cpV d V 0 = V 0 := by unfold cpV; split <;> rfl
theorem cpV_1 (d : Nat) (V : IT) : cpV d V 1 = V 1 := by unfold cpV; split <;> rfl
theorem cpV_2 (d : Nat) (V : IT) : cpV d V 2 = V 2 := by unfold cpV; split <;> rfl
theorem cpV_3 (d : Nat) (V : IT) : cpV d V 3 = V 3 := by unfold cpV; split <;> rfl
theorem cpV_4 (d : Nat) (V : IT) : cpV d V 4 = V 4 := by unfold cpV; split <;> rfl
theorem cpV_5 (d : Nat) (V : IT) : cpV d V 5 = V 5 := by unfold cpV; split <;> rfl
theorem cpV_6 {d : Nat} {V : IT} {ρ : RT} (h : PTS V ρ) : PTS (cpV d V) (cpF d ρ) := by
  unfold cpV cpF
  intro k hk
  split
  · rw [upR_s, flF_i hk, npF_k hk]
  · exact h k hk
/-- the rows behind a block, with a PART p and a row f of fields -/
def bkV (d : Nat) (V : IT) (p : Int32) (f : Nat → Int32) : IT := upR (upR (cpV d V) 6 (upd (cpV d V 6) d p)) 0 f
set_option maxHeartbeats 1000000 in
theorem c_takeBlock {g : GT} {Z : ZT} {I : IT} {L : LT} {Post : PT} {r d w : Nat} {V : IT} {c : CT} (hZ : isR Z r) (hZc : isCo Z) (hc : CC I c) (hr : 8 ≤ r) (hd : d < 4) (hw : w < 16384) (ew : V 0 2 = nI w) (ed : V 0 6 = nI d)
    (h0 : lfN c.1 (w ^^^ c.2.1 d) = 0 → Post none Z (wr I r (bkV d V (nI (w / 64)) (upd (upd (V 0) 9 (V 0 9 + 1)) 8 0))) L)
    (h1 : lfN c.1 (w ^^^ c.2.1 d) ≠ 0 → c.2.2.2 (lfN c.1 (w ^^^ c.2.1 d)) ≠ 0 → Post none Z (wr I r (bkV d V (nI ((w ^^^ c.2.2.2 (lfN c.1 (w ^^^ c.2.1 d))) / 64)) (upd (V 0) 10 (V 0 10 + 1)))) L)
    (h2 : lfN c.1 (w ^^^ c.2.1 d) ≠ 0 → c.2.2.2 (lfN c.1 (w ^^^ c.2.1 d)) = 0 → Post none Z (wr I r (bkV d V (-9) (upd (upd (V 0) 11 (V 0 11 + 1)) 8 (V 0 8 + 1)))) L) : CM g 3 0 0 mX2_takeBlock [.ref r, .ref 3] Z (wr I r V) L Post := by
  obtain ⟨z1, z2, z3, z4, z5, z6, z7, z8, z9, z10, z11, z12, z13, z14, z15, z16, z17, z18⟩ := id hZ
  obtain ⟨c1, c2, c3, c4, c5, c6, c7, c8, c9, c10, c11⟩ := id hc
  have y1 := hZc.1
  have hx : lfN c.1 (w ^^^ c.2.1 d) < 64 := lfN_lt c2 (xor_lt14 hw (Nat.lt_trans (c4 d hd) (by decide)))
  have hsx := c11 _ hx
  refine CM_intro ?_
  have key : JW g mX2_takeBlock (rmO 3 0 0) (QM Post 0 0) 16 [(0, .ref r), (1, .ref 3)] [] 0 0 Z (wr I r (cpV d V)) L := by
    have w0 := cpV_0 d V
    unfold bkV at h0 h1 h2
    rw [← w0] at h0 h1 h2 ew ed
    generalize cpV d V = U at h0 h1 h2 ew ed ⊢
    refine j_aload_n 1 dX2_takeBlock_16 rfl (j_aload_n 0 dX2_takeBlock_17 rfl (j_getI dX2_takeBlock_18 fX2_25 (by first | assumption | rfl) (j_aload_n 1 dX2_takeBlock_21 rfl (j_aload_n 0 dX2_takeBlock_22 rfl (j_getI dX2_takeBlock_23 fX2_39 (by first | assumption | rfl) (j_aload_n 0 dX2_takeBlock_26 rfl (j_getI dX2_takeBlock_27 fX2_25 (by first | assumption | rfl) ?_)))))))
    rw [wr_0, ew, ed]
    refine j_V2 dX2_takeBlock_30 kX2_125 (by first | assumption | rfl) (c_restFor hZc (hc.wr hr U) hd hw (j_V2 dX2_takeBlock_33 kX2_129 (by first | assumption | rfl) (c_blockOf hZc (hc.wr hr U) hd hw (j_istore_n (lv' := [(2, _), (0, _), (1, _)]) dX2_takeBlock_36 rfl ?_))))
    unfold bkI
    have e0 : wr I r U r 6 = nI d := by rw [wr_0]; exact ed
    generalize lfN c.1 (w ^^^ c.2.1 d) = x at hx hsx h0 h1 h2 ⊢
    by_cases hx0 : x = 0
    · rw [if_pos hx0]
      refine j_aload_n 1 dX2_takeBlock_37 rfl (j_getR (b := r + 6) dX2_takeBlock_38 fX2_18 rfl (by first | assumption | rfl) (by first | assumption | rfl) (j_aload_n 1 dX2_takeBlock_41 rfl (j_getI dX2_takeBlock_42 fX2_39 (by first | assumption | rfl) (j_iload_n 0 dX2_takeBlock_45 rfl (j_bipush (v := -9) dX2_takeBlock_46 rfl (j_icmp_ne (tgt := 56) dX2_takeBlock_48 rfl (fun h3 => ?_) (fun h3 => ?_)))))))
      · refine j_iload_n 0 dX2_takeBlock_56 rfl (j_bipush (v := 6) dX2_takeBlock_57 rfl (j_ishr dX2_takeBlock_59 (j_iastore d dX2_takeBlock_60 e0 (by first | assumption | rfl) (by omega) ?_)))
        simp only [upI, wr_6, wu_6]
        rw [show (6 : Int32) = nI 6 from rfl, shrI (show w < 2 ^ 31 by omega) (by decide), show w / 2 ^ 6 = w / 64 from rfl]
        refine j_aload_n 1 dX2_takeBlock_61 rfl (j_iload_n 0 dX2_takeBlock_62 rfl (j_V1 dX2_takeBlock_63 kX2_132 (by first | assumption | rfl) (c_countBlock hZ (fun q => absurd q (nI_ne9 (by omega))) (fun _ q => ?_) (fun _ q => absurd ew.symm q))))
        refine j_vret dX2_takeBlock_66 ?_
        exact h0 hx0
      · exact absurd h3 (nI_ne9 (by omega))
    · rw [if_neg hx0]
      by_cases hs0 : c.2.2.2 x = 0
      · rw [if_pos hs0]
        refine j_aload_n 1 dX2_takeBlock_37 rfl (j_getR (b := r + 6) dX2_takeBlock_38 fX2_18 rfl (by first | assumption | rfl) (by first | assumption | rfl) (j_aload_n 1 dX2_takeBlock_41 rfl (j_getI dX2_takeBlock_42 fX2_39 (by first | assumption | rfl) (j_iload_n 0 dX2_takeBlock_45 rfl (j_bipush (v := -9) dX2_takeBlock_46 rfl (j_icmp_ne (tgt := 56) dX2_takeBlock_48 rfl (fun h3 => ?_) (fun h3 => ?_)))))))
        · exact absurd rfl h3
        · refine j_bipush (v := -9) dX2_takeBlock_51 rfl (j_goto (tgt := 60) dX2_takeBlock_53 rfl (j_iastore d dX2_takeBlock_60 e0 (by first | assumption | rfl) (by omega) ?_))
          simp only [upI, wr_6, wu_6]
          refine j_aload_n 1 dX2_takeBlock_61 rfl (j_iload_n 0 dX2_takeBlock_62 rfl (j_V1 dX2_takeBlock_63 kX2_132 (by first | assumption | rfl) (c_countBlock hZ (fun q => ?_) (fun q _ => absurd rfl q) (fun q _ => absurd rfl q))))
          refine j_vret dX2_takeBlock_66 ?_
          exact h2 hx0 hs0
      · rw [if_neg hs0]
        have hb := xor_lt14 hw hsx
        have hne : w ^^^ c.2.2.2 x ≠ w := by
          intro z
          have : w ^^^ (w ^^^ c.2.2.2 x) = w ^^^ w := by rw [z]
          rw [← Nat.xor_assoc, Nat.xor_self, Nat.zero_xor] at this
          exact hs0 this
        refine j_aload_n 1 dX2_takeBlock_37 rfl (j_getR (b := r + 6) dX2_takeBlock_38 fX2_18 rfl (by first | assumption | rfl) (by first | assumption | rfl) (j_aload_n 1 dX2_takeBlock_41 rfl (j_getI dX2_takeBlock_42 fX2_39 (by first | assumption | rfl) (j_iload_n 0 dX2_takeBlock_45 rfl (j_bipush (v := -9) dX2_takeBlock_46 rfl (j_icmp_ne (tgt := 56) dX2_takeBlock_48 rfl (fun h3 => ?_) (fun h3 => ?_)))))))
        · refine j_iload_n 0 dX2_takeBlock_56 rfl (j_bipush (v := 6) dX2_takeBlock_57 rfl (j_ishr dX2_takeBlock_59 (j_iastore d dX2_takeBlock_60 e0 (by first | assumption | rfl) (by omega) ?_)))
          simp only [upI, wr_6, wu_6]
          rw [show (6 : Int32) = nI 6 from rfl, shrI (show w ^^^ c.2.2.2 x < 2 ^ 31 by omega) (by decide), show (w ^^^ c.2.2.2 x) / 2 ^ 6 = (w ^^^ c.2.2.2 x) / 64 from rfl]
          refine j_aload_n 1 dX2_takeBlock_61 rfl (j_iload_n 0 dX2_takeBlock_62 rfl (j_V1 dX2_takeBlock_63 kX2_132 (by first | assumption | rfl) (c_countBlock hZ (fun q => absurd q (nI_ne9 (by omega))) (fun _ q => absurd (nI_inj (by omega) (by omega) (q.trans ew)) hne) (fun _ q => ?_))))
          refine j_vret dX2_takeBlock_66 ?_
          exact h1 hx0 hs0
        · exact absurd h3 (nI_ne9 (by omega))
  refine j_aload_n 0 dX2_takeBlock_0 rfl (j_getI dX2_takeBlock_1 fX2_39 (by first | assumption | rfl) (j_if_ne (tgt := 16) dX2_takeBlock_4 rfl (fun h3 => ?_) (fun h3 => ?_)))
  · rw [wr_0, ed] at h3
    unfold cpV at key
    rw [if_neg (fun z => h3 (by rw [z]; rfl))] at key
    exact key
  · rw [wr_0, ed] at h3
    unfold cpV at key
    rw [if_pos (nI_inj (b := 0) (by omega) (by decide) h3)] at key
    refine j_aload_n 0 dX2_takeBlock_7 rfl (j_getR (b := r + 6) dX2_takeBlock_8 fX2_18 rfl (by first | assumption | rfl) (by first | assumption | rfl) (j_bipush (v := -9) dX2_takeBlock_11 rfl (j_S2 dX2_takeBlock_13 kX2_66 (c_fill z17 z18 (by decide) ?_))))
    simp only [wr_6, wu_6]
    exact key
theorem nxF_n {d j : Nat} {τ : RT} (h4 : j ≠ 4) (h : j < 14 ∨ 18 ≤ j ∧ j < 22) : nxF d τ j = τ j := by
  unfold nxF
  rw [upd_n h4]
  split
  · exact laF_n h
  · rfl
theorem nxF_4 (d : Nat) (τ : RT) : nxF d τ 4 = nI ((d + 1) % 4) := by unfold nxF; exact upd_s _ _ _
theorem up3 {σ : RT} {d a b j : Nat} {x y z v : Int32} (hj : j < 14) : upd (upd (upd (upd (cpF d σ) a x) b y) (18 + d) z) 4 v j = upd (upd (upd σ a x) b y) 4 v j := by
  simp only [upd_app, if_neg (show ¬ j = 18 + d by omega), cpF_n (show j < 18 ∨ 22 ≤ j by omega)]
theorem up2 {σ : RT} {d a j : Nat} {x z v : Int32} (hj : j < 14) : upd (upd (upd (cpF d σ) a x) (18 + d) z) 4 v j = upd (upd σ a x) 4 v j := by
  simp only [upd_app, if_neg (show ¬ j = 18 + d by omega), cpF_n (show j < 18 ∨ 22 ≤ j by omega)]
theorem up3p {σ : RT} {d a b k : Nat} {x y z : Int32} (ha : a < 18) (hb : b < 18) : upd (upd (upd (cpF d σ) a x) b y) (18 + d) z (18 + k) = upd (cpF d σ) (18 + d) z (18 + k) := by
  simp only [upd_app, if_neg (show ¬ 18 + k = a by omega), if_neg (show ¬ 18 + k = b by omega)]
theorem up2p {σ : RT} {d a k : Nat} {x z : Int32} (ha : a < 18) : upd (upd (cpF d σ) a x) (18 + d) z (18 + k) = upd (cpF d σ) (18 + d) z (18 + k) := by
  simp only [upd_app, if_neg (show ¬ 18 + k = a by omega)]
/-- behind a block that lost nothing -/
theorem go_nx {Z : ZT} {I : IT} {L : LT} {Post : PT} {r d : Nat} {V : IT} {σ τ : RT} {p : Int32} {f : Nat → Int32} (hd : d < 4) (hS : SHW V σ) (hT : PTS V σ) (hτ : ∀ j, 14 ≤ j → j < 18 ∨ 22 ≤ j → τ j = σ j) (hτp : ∀ k, k < 4 → τ (18 + k) = upd (cpF d σ) (18 + d) p (18 + k)) (o8 : OKp τ) (o9 : OKL τ) (hf : R0 f (upd τ 4 (nI ((d + 1) % 4)))) (hp : LKs Z I r L Post (nxF d τ)) : ((d + 1) % 4 = 0 → Post (some (.int 1)) Z (wr I r (bkV d V p f)) L) ∧ ((d + 1) % 4 ≠ 0 → Post (some (.int 0)) Z (wr I r (bkV d V p f)) L) := by
  have hs1 : SHW (bkV d V p f) τ := hS.cong hτ (cpV_1 d V) (cpV_2 d V) (cpV_3 d V) (cpV_4 d V) (cpV_5 d V)
  have hp1 : PTS (bkV d V p f) τ := by
    intro k hk
    show upd (cpV d V 6) d p k = _
    rw [hτp k hk]
    by_cases e : k = d
    · subst e; rw [upd_s, upd_s]
    · rw [upd_n e, upd_n (by omega)]; exact cpV_6 hT k hk
  have hr1 : R0 f (nxF d τ) := hf.cong (fun j hj => by
    by_cases e : j = 4
    · subst e; rw [nxF_4, upd_s]
    · rw [nxF_n e (by omega), upd_n e])
  refine ⟨fun h => ?_, fun h => ?_⟩
  · refine hp.2 _ τ hs1 hp1 o8 o9 (fun V'' g1 g2 g3 => ⟨?_, ?_, fun k hk => ?_⟩)
    · rw [g2]; exact hr1
    · refine g1.cong (fun j h1 h2 => ?_) rfl rfl rfl rfl rfl
      unfold nxF
      rw [if_pos (show d = 3 by omega), upd_n (by omega)]
    · rw [g3, nxF_n (by omega) (by omega)]; exact hp1 k hk
  · refine hp.1 _ ⟨hr1, hs1.cong (fun j h1 h2 => ?_) rfl rfl rfl rfl rfl, fun k hk => ?_⟩
    · unfold nxF
      rw [if_neg (show ¬ d = 3 by omega), upd_n (by omega)]
    · rw [nxF_n (by omega) (by omega)]; exact hp1 k hk
/-- a bit with SYNC -/
def goF (c : CT) (σ : RT) : RT := if σ 5 + 1 = 14 then blF c (upd (upd σ 5 (σ 5 + 1)) 5 0) else upd σ 5 (σ 5 + 1)
set_option maxHeartbeats 2000000 in
theorem c_goOn {g : GT} {Z : ZT} {I : IT} {L : LT} {Post : PT} {r : Nat} {V : IT} {σ : RT} {c : CT} (hZ : isR Z r) (hZc : isCo Z) (hc : CC I c) (hr : 8 ≤ r) (hV : REC V σ) (hok : OKr c.2.2.1 σ) (h3 : σ 3 = 1) (hp : LKs Z I r L Post (goF c σ)) : CM g 4 0 0 mX2_goOn [.ref r, .ref 3] Z (wr I r V) L Post := by
  obtain ⟨z1, z2, z3, z4, z5, z6, z7, z8, z9, z10, z11, z12, z13, z14, z15, z16, z17, z18⟩ := id hZ
  obtain ⟨hR0, hS, hT⟩ := id hV
  obtain ⟨v1, v2, v3, v4, v5, v6, v7, v8, v9, v10, v11, v12, v13⟩ := id hR0
  obtain ⟨⟨w, hw, ew⟩, o2, ⟨d, hd, ed⟩, ⟨ph, hph, eph⟩, o5, o6, o7, o8, o9⟩ := id hok
  obtain ⟨b, hb, eb⟩ := o5 h3
  obtain ⟨c1, c2, c3, c4, c5, c6, c7, c8, c9, c10, c11⟩ := id hc
  have y1 := hZc.1
  have v7 := v7 h3
  unfold goF at hp
  refine CM_intro ?_
  refine j_aload_n 0 dX2_goOn_0 rfl (j_dup dX2_goOn_1 rfl (j_getI dX2_goOn_2 fX2_42 (by first | assumption | rfl) (j_iconst (v := 1) dX2_goOn_5 rfl (j_iadd dX2_goOn_6 (j_putI dX2_goOn_7 fX2_42 (by first | assumption | rfl) ?_)))))
  simp only [upI, wr_0, wu_0]
  rw [v6, eph, nI_1]
  rw [eph, nI_1] at hp
  refine j_aload_n 0 dX2_goOn_10 rfl (j_getI dX2_goOn_11 fX2_42 (by first | assumption | rfl) (j_bipush (v := 14) dX2_goOn_14 rfl (j_icmp_ge (tgt := 21) dX2_goOn_16 rfl (fun h4 => ?_) (fun h4 => ?_))))
  · rw [wr_0, upR_s, upd_s] at h4
    have hp14 : ph + 1 = 14 := by
      rcases Nat.lt_or_ge (ph + 1) 14 with z | z
      · exact absurd h4 (nI_ge z (by decide))
      · omega
    rw [if_pos (show nI (ph + 1) = 14 by rw [hp14]; rfl)] at hp
    refine j_aload_n 0 dX2_goOn_21 rfl (j_iconst (v := 0) dX2_goOn_22 rfl (j_putI dX2_goOn_23 fX2_42 (by first | assumption | rfl) (j_aload_n 0 dX2_goOn_26 rfl (j_aload_n 1 dX2_goOn_27 rfl ?_))))
    simp only [upI, wr_0, wu_0, upR_R, upR_s]
    generalize hσ2 : upd (upd σ 5 (nI (ph + 1))) 5 0 = ς at hp
    generalize hV2 : upR V 0 (upd (upd (V 0) 7 (nI (ph + 1))) 7 0) = U
    have u0 : U 0 = upd (upd (V 0) 7 (nI (ph + 1))) 7 0 := by rw [← hV2]; exact upR_s _ _ _
    have uS : SHW U ς := by rw [← hV2]; exact hS.cong (fun j h1 h2 => by rw [← hσ2, upd_n (by omega), upd_n (by omega)]) rfl rfl rfl rfl rfl
    have uT : PTS U ς := fun k hk => by rw [← hV2, ← hσ2, upd_n (by omega), upd_n (by omega)]; exact hT k hk
    have sj : ∀ j, j ≠ 5 → ς j = σ j := fun j hj => by rw [← hσ2, upd_n hj, upd_n hj]
    have uok : OKr c.2.2.1 ς := by
      refine ⟨⟨w, hw, by rw [sj 1 (by decide)]; exact ew⟩, by rw [sj 3 (by decide)]; exact o2, ⟨d, hd, by rw [sj 4 (by decide)]; exact ed⟩, ⟨0, by decide, by rw [← hσ2]; rfl⟩, ?_, by rw [sj 7 (by decide)]; exact o6, by rw [sj 9 (by decide)]; exact o7, o8.cong (fun k hk => sj _ (by omega)), o9.cong (fun j hj => sj _ (by omega))⟩
      rw [sj 3 (by decide), sj 6 (by decide)]; exact o5
    have s3 : ς 3 = 1 := by rw [sj 3 (by decide)]; exact h3
    have hbl := OKr.bl c6 c7 c2 c4 c11 uok s3
    have ew2 : ς 1 = nI w := by rw [sj 1 (by decide)]; exact ew
    have ed2 : ς 4 = nI d := by rw [sj 4 (by decide)]; exact ed
    have eb2 : ς 6 = nI b := by rw [sj 6 (by decide)]; exact eb
    have hU : R0 (U 0) ς := by
      rw [u0, ← hσ2]
      exact ⟨v1, v2, v3, v4, v5, rfl, fun _ => v7, v8, v9, v10, v11, v12, v13⟩
    clear hV2 hσ2 sj u0 hS hT hV hR0 v1 v2 v3 v4 v5 v6 v7 v8 v9 v10 v11 v12 v13 o2 o5 o6 o7 o8 o9 ew ed eb
    obtain ⟨v1, v2, v3, v4, v5, v6, v7, v8, v9, v10, v11, v12, v13⟩ := id hU
    have v7 := v7 s3
    obtain ⟨-, -, -, -, -, -, -, o8, o9⟩ := id uok
    unfold blF at hp hbl
    rw [ew2, ed2, nN_nI (show w < 2 ^ 31 by omega), nN_nI (show d < 2 ^ 31 by omega)] at hp hbl
    have hxl : lfN c.1 (w ^^^ c.2.1 d) < 64 := lfN_lt c2 (xor_lt14 hw (Nat.lt_trans (c4 d hd) (by decide)))
    -- DUE becomes the next one
    have tail : ∀ (U2 : IT) (bb : Nat), bb < c.2.2.1 → U2 0 6 = nI d → U2 0 8 = nI bb → (((d + 1) % 4 = 0 → Post (some (.int 1)) Z (wr I r (upR U2 0 (upd (U2 0) 6 (nI ((d + 1) % 4))))) L) ∧ ((d + 1) % 4 ≠ 0 → Post (some (.int 0)) Z (wr I r (upR U2 0 (upd (U2 0) 6 (nI ((d + 1) % 4))))) L)) → JW g mX2_goOn (rmO 4 0 0) (QM Post 0 0) 31 [(0, .ref r), (1, .ref 3)] [] 0 0 Z (wr I r U2) L := by
      intro U2 bb hbb e6 e8 hq
      refine j_aload_n 0 dX2_goOn_31 rfl (j_getI dX2_goOn_32 fX2_45 (by first | assumption | rfl) (j_aload_n 1 dX2_goOn_35 rfl (j_getI dX2_goOn_36 fX2_119 (by first | assumption | rfl) (j_icmp_lt (tgt := 48) dX2_goOn_39 rfl (fun h5 => ?_) (fun h5 => ?_)))))
      · refine j_aload_n 0 dX2_goOn_48 rfl (j_aload_n 0 dX2_goOn_49 rfl (j_getI dX2_goOn_50 fX2_39 (by first | assumption | rfl) ?_))
        rw [wr_0, e6]
        refine j_N1 rfl rfl dX2_goOn_53 kX2_112 (c_nextOffset (j_putI dX2_goOn_56 fX2_39 (by first | assumption | rfl) ?_))
        simp only [upI, wr_0, wu_0]
        refine j_aload_n 0 dX2_goOn_59 rfl (j_getI dX2_goOn_60 fX2_39 (by first | assumption | rfl) (j_if_ne (tgt := 70) dX2_goOn_63 rfl (fun h6 => ?_) (fun h6 => ?_)))
        · rw [wr_0, upR_s, upd_s] at h6
          refine j_iconst (v := 0) dX2_goOn_70 rfl (j_zret dX2_goOn_71 (by decide) ?_)
          exact hq.2 (fun z => h6 (by rw [z]; rfl))
        · rw [wr_0, upR_s, upd_s] at h6
          refine j_iconst (v := 1) dX2_goOn_66 rfl (j_goto (tgt := 71) dX2_goOn_67 rfl (j_zret dX2_goOn_71 (by decide) ?_))
          exact hq.1 (nI_inj (b := 0) (by omega) (by decide) h6)
      · rw [wr_0, e8, wr_n (show 3 < r ∨ r + 7 ≤ 3 by omega), c5] at h5
        exact absurd (nI_lt hbb (by omega)) h5
    refine j_V1 dX2_goOn_28 kX2_115 (by first | assumption | rfl) (c_takeBlock hZ hZc hc hr hd hw (v1.trans ew2) (v5.trans ed2) (fun q0 => ?_) (fun q0 q1 => ?_) (fun q0 q1 => ?_))
    · rw [if_pos q0] at hp hbl
      refine tail _ 0 (by omega) (v5.trans ed2) rfl ?_
      show (_ → Post _ Z (wr I r (upR (bkV d U (nI (w / 64)) (upd (upd (U 0) 9 (U 0 9 + 1)) 8 0)) 0 (upd (upd (upd (U 0) 9 (U 0 9 + 1)) 8 0) 6 (nI ((d + 1) % 4))))) L) ∧ (_ → Post _ Z (wr I r (upR (bkV d U (nI (w / 64)) (upd (upd (U 0) 9 (U 0 9 + 1)) 8 0)) 0 (upd (upd (upd (U 0) 9 (U 0 9 + 1)) 8 0) 6 (nI ((d + 1) % 4))))) L)
      rw [show upR (bkV d U (nI (w / 64)) (upd (upd (U 0) 9 (U 0 9 + 1)) 8 0)) 0 (upd (upd (upd (U 0) 9 (U 0 9 + 1)) 8 0) 6 (nI ((d + 1) % 4))) = bkV d U (nI (w / 64)) (upd (upd (upd (U 0) 9 (U 0 9 + 1)) 8 0) 6 (nI ((d + 1) % 4))) from upR_R _ _ _ _]
      refine go_nx hd uS uT (fun j h1 h2 => ?_) (fun k hk => ?_) ?_ ?_ ?_ hp
      · rw [upd_n (by omega), upd_n (by omega), upd_n (by omega), cpF_n (by omega)]
      · exact up3p (by decide) (by decide)
      · exact OKp.set (o8.cp.cong (fun k hk => by rw [upd_n (by omega), upd_n (by omega)])) hd (by omega)
      · exact o9.cong (fun j hj => by rw [upd_n (by omega), upd_n (by omega), upd_n (by omega), cpF_n (by omega)])
      · refine R0.cong (ρ := upd (upd (upd ς 10 (ς 10 + 1)) 6 0) 4 (nI ((d + 1) % 4))) ?_ (fun j hj => ?_)
        · exact ⟨v1, v2, v3, v4, rfl, v6, fun _ => rfl, congrArg (· + 1) v8, v9, v10, v11, v12, v13⟩
        · exact up3 hj
    · rw [if_neg q0, if_pos q1] at hp hbl
      have hsx := c11 _ hxl
      have hxw := xor_lt14 hw hsx
      have hy : (w ^^^ c.2.2.2 (lfN c.1 (w ^^^ c.2.1 d))) / 64 < 256 := by omega
      generalize (w ^^^ c.2.2.2 (lfN c.1 (w ^^^ c.2.1 d))) / 64 = y at hp hbl hy ⊢
      refine tail _ b hb (v5.trans ed2) (v7.trans eb2) ?_
      show (_ → Post _ Z (wr I r (upR (bkV d U (nI y) (upd (U 0) 10 (U 0 10 + 1))) 0 (upd (upd (U 0) 10 (U 0 10 + 1)) 6 (nI ((d + 1) % 4))))) L) ∧ (_ → Post _ Z (wr I r (upR (bkV d U (nI y) (upd (U 0) 10 (U 0 10 + 1))) 0 (upd (upd (U 0) 10 (U 0 10 + 1)) 6 (nI ((d + 1) % 4))))) L)
      rw [show upR (bkV d U (nI y) (upd (U 0) 10 (U 0 10 + 1))) 0 (upd (upd (U 0) 10 (U 0 10 + 1)) 6 (nI ((d + 1) % 4))) = bkV d U (nI y) (upd (upd (U 0) 10 (U 0 10 + 1)) 6 (nI ((d + 1) % 4))) from upR_R _ _ _ _]
      refine go_nx hd uS uT (fun j h1 h2 => ?_) (fun k hk => ?_) ?_ ?_ ?_ hp
      · rw [upd_n (by omega), upd_n (by omega), cpF_n (by omega)]
      · exact up2p (by decide)
      · exact OKp.set (o8.cp.cong (fun k hk => by rw [upd_n (by omega)])) hd hy
      · exact o9.cong (fun j hj => by rw [upd_n (by omega), upd_n (by omega), cpF_n (by omega)])
      · refine R0.cong (ρ := upd (upd ς 11 (ς 11 + 1)) 4 (nI ((d + 1) % 4))) ?_ (fun j hj => ?_)
        · exact ⟨v1, v2, v3, v4, rfl, v6, fun _ => v7, v8, congrArg (· + 1) v9, v10, v11, v12, v13⟩
        · exact up2 hj
    · rw [if_neg q0, if_neg (fun z => z q1)] at hp hbl
      rw [eb2, nI_1] at hp
      by_cases hbh : b + 1 = c.2.2.1
      · rw [if_pos (by rw [hbh])] at hp
        refine j_aload_n 0 dX2_goOn_31 rfl (j_getI dX2_goOn_32 fX2_45 (by first | assumption | rfl) (j_aload_n 1 dX2_goOn_35 rfl (j_getI dX2_goOn_36 fX2_119 (by first | assumption | rfl) (j_icmp_lt (tgt := 48) dX2_goOn_39 rfl (fun h5 => ?_) (fun h5 => ?_)))))
        · rw [wr_0, wr_n (show 3 < r ∨ r + 7 ≤ 3 by omega), c5] at h5
          have h5 : U 0 8 + 1 < nI c.2.2.1 := h5
          rw [v7, eb2, nI_1, hbh] at h5
          exact (Int32.lt_irrefl h5).elim
        · refine j_aload_n 0 dX2_goOn_42 rfl (j_V0 dX2_goOn_43 kX2_122 (by first | assumption | rfl) (c_cLose hZ (j_iconst (v := 0) dX2_goOn_46 rfl (j_zret dX2_goOn_47 (by decide) ?_))))
          refine hp.1 _ ⟨?_, ?_, fun k hk => ?_⟩
          · refine R0.cong (ρ := upd (upd (upd (upd (upd (upd ς 12 (ς 12 + 1)) 6 (nI (b + 1))) 3 0) 13 (ς 13 + 1)) 7 0) 2 0) ?_ (fun j hj => ?_)
            · exact ⟨v1, v2, rfl, rfl, v5, v6, fun z => absurd (show (0 : Int32) = 1 from z) (by decide), v8, v9, congrArg (· + 1) v10, congrArg (· + 1) v11, v12, rfl⟩
            · unfold loF quF
              rw [npF_n (by omega)]
              simp only [upd_app, if_neg (show ¬ j = 18 + d by omega), if_neg (show ¬ 13 = 18 + d by omega)]
              first | rw [cpF_n (show j < 18 ∨ 22 ≤ j by omega), cpF_n (show 13 < 18 ∨ 22 ≤ 13 by omega)] | rw [cpF_n (show j < 18 ∨ 22 ≤ j by omega)]
              rfl
          · refine uS.cong (fun j h1 h2 => ?_) (cpV_1 d U) (cpV_2 d U) (cpV_3 d U) (cpV_4 d U) (cpV_5 d U)
            unfold loF quF
            rw [npF_n (by omega), upd_n (by omega), upd_n (by omega), upd_n (by omega), upd_n (by omega), upd_n (by omega), upd_n (by omega), upd_n (by omega), cpF_n (by omega)]
          · rw [upR_s, flF_i hk]
            unfold loF
            rw [npF_k hk]
      · rw [if_neg (fun z => hbh (nI_inj (by omega) (by omega) z))] at hp
        refine tail _ (b + 1) (by omega) (v5.trans ed2) (show U 0 8 + 1 = _ by rw [v7, eb2, nI_1]) ?_
        show (_ → Post _ Z (wr I r (upR (bkV d U (-9) (upd (upd (U 0) 11 (U 0 11 + 1)) 8 (U 0 8 + 1))) 0 (upd (upd (upd (U 0) 11 (U 0 11 + 1)) 8 (U 0 8 + 1)) 6 (nI ((d + 1) % 4))))) L) ∧ (_ → Post _ Z (wr I r (upR (bkV d U (-9) (upd (upd (U 0) 11 (U 0 11 + 1)) 8 (U 0 8 + 1))) 0 (upd (upd (upd (U 0) 11 (U 0 11 + 1)) 8 (U 0 8 + 1)) 6 (nI ((d + 1) % 4))))) L)
        rw [show upR (bkV d U (-9) (upd (upd (U 0) 11 (U 0 11 + 1)) 8 (U 0 8 + 1))) 0 (upd (upd (upd (U 0) 11 (U 0 11 + 1)) 8 (U 0 8 + 1)) 6 (nI ((d + 1) % 4))) = bkV d U (-9) (upd (upd (upd (U 0) 11 (U 0 11 + 1)) 8 (U 0 8 + 1)) 6 (nI ((d + 1) % 4))) from upR_R _ _ _ _]
        refine go_nx hd uS uT (fun j h1 h2 => ?_) (fun k hk => ?_) ?_ ?_ ?_ hp
        · rw [upd_n (by omega), upd_n (by omega), upd_n (by omega), cpF_n (by omega)]
        · exact up3p (by decide) (by decide)
        · exact OKp.gone (o8.cp.cong (fun k hk => by rw [upd_n (by omega), upd_n (by omega)]))
        · exact o9.cong (fun j hj => by rw [upd_n (by omega), upd_n (by omega), upd_n (by omega), cpF_n (by omega)])
        · refine R0.cong (ρ := upd (upd (upd ς 12 (ς 12 + 1)) 6 (nI (b + 1))) 4 (nI ((d + 1) % 4))) ?_ (fun j hj => ?_)
          · exact ⟨v1, v2, v3, v4, rfl, v6, fun _ => (show U 0 8 + 1 = _ by rw [v7, eb2, nI_1]; rfl), v8, v9, congrArg (· + 1) v10, v11, v12, v13⟩
          · exact up3 hj
  · have hpn : ¬ ph + 1 = 14 := by
      intro z
      rw [wr_0, upR_s, upd_s, z] at h4
      exact h4 (by decide)
    rw [if_neg (show ¬ nI (ph + 1) = 14 from fun z => hpn (nI_inj (b := 14) (by omega) (by decide) z))] at hp
    refine j_iconst (v := 0) dX2_goOn_19 rfl (j_zret dX2_goOn_20 (by decide) ?_)
    refine hp.1 _ ⟨?_, hS.cong (fun j h1 h2 => upd_n (by omega)) rfl rfl rfl rfl rfl, fun k hk => ?_⟩
    · exact ⟨v1, v2, v3, v4, v5, rfl, fun _ => v7, v8, v9, v10, v11, v12, v13⟩
    · rw [upd_n (by omega)]; exact hT k hk
