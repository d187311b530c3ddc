theorem htF_go (c : CT) (ρ : RT) (b : Nat) : htF c ρ b = if b1F ρ b 3 = 0 then skF c (b1F ρ b) else goF c (b1F ρ b) := rfl
theorem or_bit {w b : Nat} (hb : b < 2) : (w * 2) ||| b = 2 * w + b := by
  rw [Nat.mul_comm w 2]
  exact (Nat.two_pow_add_eq_or_of_lt (i := 1) hb w).symm
theorem CC.okt {I : IT} {c : CT} (h : CC I c) {ρ : RT} (ho : OKr c.2.2.1 ρ) (b : Nat) : OKr c.2.2.1 (htF c ρ b) := by
  obtain ⟨c1, c2, c3, c4, c5, c6, c7, c8, c9, c10, c11⟩ := h
  exact OKr.ht c6 c7 c2 c4 c11 ho b
theorem CC.okh {I : IT} {c : CT} (h : CC I c) {ρ : RT} (ho : OKr c.2.2.1 ρ) (n v : Nat) : OKr c.2.2.1 (hsF c n ρ v) := by
  obtain ⟨c1, c2, c3, c4, c5, c6, c7, c8, c9, c10, c11⟩ := h
  exact OKr.hs c6 c7 c2 c4 c11 v n ρ ho
theorem REC.b1 {V : IT} {ρ : RT} {w : Nat} (h : REC V ρ) (ew : ρ 1 = nI w) (hw : w < 16384) (b : Nat) : REC (upR V 0 (upd (upd (upd (V 0) 2 (nI ((2 * w + b) % 16384))) 3 (V 0 3 + 1)) 4 (V 0 4 + 1))) (b1F ρ b) := by
  obtain ⟨⟨v1, v2, v3, v4, v5, v6, v7, v8, v9, v10, v11, v12, v13⟩, hS, hT⟩ := h
  unfold b1F
  rw [ew, nN_nI (show w < 2 ^ 31 by omega)]
  refine ⟨⟨rfl, congrArg (· + 1) v2, congrArg (· + 1) v3, v4, v5, v6, v7, v8, v9, v10, v11, v12, v13⟩, hS.cong (fun j h1 h2 => ?_) rfl rfl rfl rfl rfl, fun k hk => ?_⟩
  · rw [upd_n (by omega), upd_n (by omega), upd_n (by omega)]
  · rw [upd_n (by omega), upd_n (by omega), upd_n (by omega)]; exact hT k hk
set_option maxHeartbeats 2000000 in
theorem c_cHearBits {g : GT} {Z : ZT} {I : IT} {L : LT} {Post : PT} {r n R : Nat} {V : IT} {ρ : RT} {c : CT} (hZ : isR Z r) (hZc : isCo Z) (hc : CC I c) (hr : 8 ≤ r) (hV : REC V ρ) (hok : OKr c.2.2.1 ρ) (hn : n ≤ 60) (hR : R < 2 ^ 62) (hp : ∀ V', REC V' (hsF c n ρ R) → Post none Z (wr I r V') L) : CM g 5 0 0 mX2_hearBits [.ref r, .ref 3, .long (lN R), .int (nI n)] Z (wr I r V) L Post := by
  obtain ⟨z1, z2, z3, z4, z5, z6, z7, z8, z9, z10, z11, z12, z13, z14, z15, z16, z17, z18⟩ := id hZ
  refine CM_intro ?_
  have loop : ∀ (j : Nat) (U : IT) (σ : RT), j ≤ 60 → OKr c.2.2.1 σ → REC U σ → hsF c j σ R = hsF c n ρ R → JW g mX2_hearBits (rmO 5 0 0) (QM Post 0 0) 6 [(5, .int (nI j + -1)), (0, .ref r), (1, .ref 3), (2, .long (lN R)), (4, .int (nI n))] [] 0 0 Z (wr I r U) L := by
    intro j
    induction j with
    | zero =>
      intro U σ _ ho hU e
      refine j_iload 0 dX2_hearBits_6 rfl (j_if_lt (tgt := 97) dX2_hearBits_8 rfl (fun h1 => ?_) (fun h1 => ?_))
      · refine j_vret dX2_hearBits_97 ?_
        rw [← e] at hp
        exact hp U hU
      · exact absurd (by decide) h1
    | succ j ih =>
      intro U σ hj ho hU e
      obtain ⟨⟨w, hw, ew⟩, -⟩ := id ho
      rw [pk_m1 j]
      refine j_iload 0 dX2_hearBits_6 rfl (j_if_lt (tgt := 97) dX2_hearBits_8 rfl (fun h1 => ?_) (fun h1 => ?_))
      · exact absurd h1 (nI_pos (by omega))
      · have hb2 : R / 2 ^ j % 2 < 2 := Nat.mod_lt _ (by decide)
        generalize hbb : R / 2 ^ j % 2 = b at hb2
        have e1 : ((wr I r U r 2 <<< ((1 : Int32) &&& 31)) ||| ((lN R >>> ((nI j).toInt64 &&& 63)).toInt32 &&& 1)) &&& 16383 = nI ((2 * w + b) % 16384) := by
          rw [wr_0, hU.1.1, ew, show (1 : Int32) &&& 31 = nI 1 &&& 31 from rfl, shlI (show w * 2 ^ 1 < 2 ^ 32 by omega) (by decide), bitL hR (by omega), hbb, fa_or, show w * 2 ^ 1 = w * 2 from rfl, or_bit hb2, and16383]
        refine j_aload_n 1 dX2_hearBits_11 rfl (j_aload_n 1 dX2_hearBits_12 rfl (j_getI dX2_hearBits_13 fX2_25 (by first | assumption | rfl) (j_iconst (v := 1) dX2_hearBits_16 rfl (j_ishl dX2_hearBits_17 (j_lload_n 3 dX2_hearBits_18 rfl (j_iload 0 dX2_hearBits_19 rfl (j_lshr dX2_hearBits_21 (j_l2i dX2_hearBits_22 (j_iconst (v := 1) dX2_hearBits_23 rfl (j_iand dX2_hearBits_24 (j_ior dX2_hearBits_25 (j_sipush (v := 16383) dX2_hearBits_26 rfl (j_iand dX2_hearBits_29 (j_putI dX2_hearBits_30 fX2_25 (by first | assumption | rfl) (j_aload_n 1 dX2_hearBits_33 rfl (j_dup dX2_hearBits_34 rfl (j_getI dX2_hearBits_35 fX2_29 (by first | assumption | rfl) (j_iconst (v := 1) dX2_hearBits_38 rfl (j_iadd dX2_hearBits_39 (j_putI dX2_hearBits_40 fX2_29 (by first | assumption | rfl) (j_aload_n 1 dX2_hearBits_43 rfl (j_dup dX2_hearBits_44 rfl (j_getI dX2_hearBits_45 fX2_32 (by first | assumption | rfl) (j_iconst (v := 1) dX2_hearBits_48 rfl (j_iadd dX2_hearBits_49 (j_putI dX2_hearBits_50 fX2_32 (by first | assumption | rfl) ?_))))))))))))))))))))))))))
        rw [e1]
        simp only [upI, wr_0, wu_0, upR_R, upR_s, upd_app]
        have hU1 := hU.b1 ew hw b
        have ho1 := ho.b1 b
        have e2 : hsF c j (htF c σ b) R = hsF c n ρ R := by rw [← hbb]; exact e
        rw [htF_go] at e2
        have ho2 := hc.okt ho b
        rw [htF_go] at ho2
        have key : JW g mX2_hearBits (rmO 5 0 0) (QM Post 0 0) 53 [(5, .int (nI j)), (0, .ref r), (1, .ref 3), (2, .long (lN R)), (4, .int (nI n))] [] 0 0 Z (wr I r (upR U 0 (upd (upd (upd (U 0) 2 (nI ((2 * w + b) % 16384))) 3 (U 0 3 + 1)) 4 (U 0 4 + 1)))) L := by
          generalize upR U 0 (upd (upd (upd (U 0) 2 (nI ((2 * w + b) % 16384))) 3 (U 0 3 + 1)) 4 (U 0 4 + 1)) = U1 at hU1 ⊢
          generalize b1F σ b = σ1 at hU1 ho1 e2 ho2
          have t0 : ∀ TG V', OKr c.2.2.1 TG → hsF c j TG R = hsF c n ρ R → REC V' TG → JW g mX2_hearBits (rmO 5 0 0) (QM Post 0 0) 91 [(6, .int 0), (5, .int (nI j)), (0, .ref r), (1, .ref 3), (2, .long (lN R)), (4, .int (nI n))] [] 0 0 Z (wr I r V') L := by
            intro TG V' g1 g2 g3
            refine j_iinc (y := -1) (lv' := [(5, _), (6, _), (0, _), (1, _), (2, _), (4, _)]) 1 dX2_hearBits_91 rfl rfl rfl (j_goto (tgt := 6) dX2_hearBits_94 rfl ?_)
            exact JW.locals [0, 2, 3, 4, 5] rfl (ih V' TG (by omega) g1 g3 g2)
          have t1 : ∀ TG V' τ, OKr c.2.2.1 TG → hsF c j TG R = hsF c n ρ R → SHW V' τ → PTS V' τ → OKp τ → OKL τ → (∀ V'', SHW V'' (laF τ) → V'' 0 = V' 0 → V'' 6 = V' 6 → REC V'' TG) → JW g mX2_hearBits (rmO 5 0 0) (QM Post 0 0) 80 [(6, .int 1), (5, .int (nI j)), (0, .ref r), (1, .ref 3), (2, .long (lN R)), (4, .int (nI n))] [] 0 0 Z (wr I r V') L := by
            intro TG V' τ g1 g2 g3 g4 g5 g6 g7
            refine j_aload_n 2 dX2_hearBits_80 rfl (j_getR (b := r + 1) dX2_hearBits_81 fX2_12 rfl (by first | assumption | rfl) (by first | assumption | rfl) (j_aload_n 2 dX2_hearBits_84 rfl (j_getR (b := r + 6) dX2_hearBits_85 fX2_18 rfl (by first | assumption | rfl) (by first | assumption | rfl) (j_V1 dX2_hearBits_88 kX2_94 (by first | assumption | rfl) (c_takeGroup hZ g3 g4 g5 g6 ?_)))))
            intro V'' f1 f2 f3
            refine j_iinc (y := -1) (lv' := [(5, _), (6, _), (0, _), (1, _), (2, _), (4, _)]) 1 dX2_hearBits_91 rfl rfl rfl (j_goto (tgt := 6) dX2_hearBits_94 rfl ?_)
            exact JW.locals [0, 2, 3, 4, 5] rfl (ih V'' TG (by omega) g1 (g7 V'' f1 f2 f3) g2)
          refine j_aload_n 1 dX2_hearBits_53 rfl (j_getI dX2_hearBits_54 fX2_35 (by first | assumption | rfl) (j_if_eq (tgt := 68) dX2_hearBits_57 rfl (fun h2 => ?_) (fun h2 => ?_)))
          · rw [wr_0, hU1.1.2.2.2.1] at h2
            rw [if_pos h2] at e2 ho2
            refine j_aload_n 1 dX2_hearBits_68 rfl (j_aload_n 2 dX2_hearBits_69 rfl (j_V1 dX2_hearBits_70 kX2_91 (by first | assumption | rfl) (c_seekSync hZ hZc hc hr hU1 ho1 ⟨fun V' hV' => ?_, fun V' τ g3 g4 g5 g6 g7 => ?_⟩)))
            · refine j_istore (lv' := [(6, _), (5, _), (0, _), (1, _), (2, _), (4, _)]) dX2_hearBits_73 rfl (j_iload 0 dX2_hearBits_75 rfl (j_if_eq (tgt := 91) dX2_hearBits_77 rfl (fun _ => ?_) (fun h9 => absurd (by decide) h9)))
              exact t0 _ V' ho2 e2 hV'
            · refine j_istore (lv' := [(6, _), (5, _), (0, _), (1, _), (2, _), (4, _)]) dX2_hearBits_73 rfl (j_iload 0 dX2_hearBits_75 rfl (j_if_eq (tgt := 91) dX2_hearBits_77 rfl (fun h9 => absurd h9 (by decide)) (fun _ => ?_)))
              exact t1 _ V' τ ho2 e2 g3 g4 g5 g6 g7
          · rw [wr_0, hU1.1.2.2.2.1] at h2
            rw [if_neg h2] at e2 ho2
            have h31 : σ1 3 = 1 := by
              rcases ho1.2.1 with z | z
              · exact absurd z h2
              · exact z
            refine j_aload_n 1 dX2_hearBits_60 rfl (j_aload_n 2 dX2_hearBits_61 rfl (j_V1 dX2_hearBits_62 kX2_87 (by first | assumption | rfl) (c_goOn hZ hZc hc hr hU1 ho1 h31 ⟨fun V' hV' => ?_, fun V' τ g3 g4 g5 g6 g7 => ?_⟩)))
            · refine j_goto (tgt := 73) dX2_hearBits_65 rfl (j_istore (lv' := [(6, _), (5, _), (0, _), (1, _), (2, _), (4, _)]) dX2_hearBits_73 rfl (j_iload 0 dX2_hearBits_75 rfl (j_if_eq (tgt := 91) dX2_hearBits_77 rfl (fun _ => ?_) (fun h9 => absurd (by decide) h9))))
              exact t0 _ V' ho2 e2 hV'
            · refine j_goto (tgt := 73) dX2_hearBits_65 rfl (j_istore (lv' := [(6, _), (5, _), (0, _), (1, _), (2, _), (4, _)]) dX2_hearBits_73 rfl (j_iload 0 dX2_hearBits_75 rfl (j_if_eq (tgt := 91) dX2_hearBits_77 rfl (fun h9 => absurd h9 (by decide)) (fun _ => ?_))))
              exact t1 _ V' τ ho2 e2 g3 g4 g5 g6 g7
        exact key
  refine j_iload 3 dX2_hearBits_0 rfl (j_iconst (v := 1) dX2_hearBits_2 rfl (j_isub dX2_hearBits_3 (j_istore (lv' := [(5, _), (0, _), (1, _), (2, _), (4, _)]) dX2_hearBits_4 rfl ?_)))
  rw [show nI n - 1 = nI n + -1 from Int32.sub_eq_add_neg _ _]
  exact JW.locals [0, 1, 2, 3, 4] rfl (loop n V ρ hn hok hV rfl)
theorem c_syncBit {g : GT} {Z : ZT} {I : IT} {L : LT} {Post : PT} {r : Nat} {V : IT} {ρ : RT} (hK : zK Z r = 2) (hV : REC V ρ) (h2 : ρ 3 = 0 ∨ ρ 3 = 1) (hp : Post (some (.int (ρ 3))) Z (wr I r V) L) : CM g 0 0 0 mX2_syncBit [.ref r] Z (wr I r V) L Post := by
  have v4 := hV.1.2.2.2.1
  refine CM_intro ?_
  refine j_aload_n 0 dX2_syncBit_0 rfl (j_getI dX2_syncBit_1 fX2_35 (by first | assumption | rfl) (j_if_eq (tgt := 11) dX2_syncBit_4 rfl (fun h1 => ?_) (fun h1 => ?_)))
  · rw [wr_0, v4] at h1
    refine j_iconst (v := 0) dX2_syncBit_11 rfl (j_iret dX2_syncBit_12 ?_)
    rw [h1] at hp
    exact hp
  · rw [wr_0, v4] at h1
    refine j_iconst (v := 1) dX2_syncBit_7 rfl (j_goto (tgt := 12) dX2_syncBit_8 rfl (j_iret dX2_syncBit_12 ?_))
    rw [show ρ 3 = 1 by rcases h2 with z | z; exact absurd z h1; exact z] at hp
    exact hp
noncomputable def rsF (ρ : RT) : RT := quF (if ρ 3 = 1 then loF ρ else ρ)
theorem c_startOver {g : GT} {Z : ZT} {I : IT} {L : LT} {Post : PT} {r : Nat} {V : IT} {ρ : RT} (hZ : isR Z r) (hV : REC V ρ) (h2 : ρ 3 = 0 ∨ ρ 3 = 1) (hp : ∀ V', REC V' (rsF ρ) → Post none Z (wr I r V') L) : CM g 2 0 0 mX2_startOver [.ref r] Z (wr I r V) L Post := by
  obtain ⟨z1, z2, z3, z4, z5, z6, z7, z8, z9, z10, z11, z12, z13, z14, z15, z16, z17, z18⟩ := id hZ
  obtain ⟨⟨v1, v2, v3, v4, v5, v6, v7, v8, v9, v10, v11, v12, v13⟩, hS, hT⟩ := id hV
  unfold rsF at hp
  refine CM_intro ?_
  refine j_aload_n 0 dX2_startOver_0 rfl (j_getI dX2_startOver_1 fX2_35 (by first | assumption | rfl) (j_if_eq (tgt := 11) dX2_startOver_4 rfl (fun h1 => ?_) (fun h1 => ?_)))
  · rw [wr_0, v4] at h1
    rw [if_neg (by rw [h1]; decide)] at hp
    refine j_aload_n 0 dX2_startOver_11 rfl (j_bipush (v := -9) dX2_startOver_12 rfl (j_putI dX2_startOver_14 fX2_63 (by first | assumption | rfl) (j_aload_n 0 dX2_startOver_17 rfl (j_iconst (v := 0) dX2_startOver_18 rfl (j_putI dX2_startOver_19 fX2_32 (by first | assumption | rfl) (j_vret dX2_startOver_22 ?_))))))
    simp only [upI, wr_0, wu_0, upR_R, upR_s]
    refine hp _ ⟨⟨v1, v2, rfl, v4, v5, v6, v7, v8, v9, v10, v11, v12, rfl⟩, hS.cong (fun j h1 h2 => ?_) rfl rfl rfl rfl rfl, fun k hk => ?_⟩
    · unfold quF; rw [upd_n (by omega), upd_n (by omega)]
    · unfold quF; rw [upd_n (by omega), upd_n (by omega)]; exact hT k hk
  · rw [wr_0, v4] at h1
    have h31 : ρ 3 = 1 := by rcases h2 with z | z; exact absurd z h1; exact z
    rw [if_pos h31] at hp
    refine j_aload_n 0 dX2_startOver_7 rfl (j_V0 dX2_startOver_8 kX2_122 (by first | assumption | rfl) (c_cLose hZ (j_aload_n 0 dX2_startOver_11 rfl (j_bipush (v := -9) dX2_startOver_12 rfl (j_putI dX2_startOver_14 fX2_63 (by first | assumption | rfl) (j_aload_n 0 dX2_startOver_17 rfl (j_iconst (v := 0) dX2_startOver_18 rfl (j_putI dX2_startOver_19 fX2_32 (by first | assumption | rfl) (j_vret dX2_startOver_22 ?_)))))))))
    simp only [upI, wr_0, wu_0, upR_R, upR_s, upR_n (show 0 ≠ 6 by decide)]
    refine hp _ ⟨?_, hS.cong (fun j h1 h2 => ?_) rfl rfl rfl rfl rfl, fun k hk => ?_⟩
    · exact ⟨v1, v2, rfl, rfl, v5, v6, fun z => absurd (show (0 : Int32) = 1 from z) (by decide), v8, v9, v10, congrArg (· + 1) v11, v12, rfl⟩
    · unfold quF loF quF; rw [upd_n (by omega), upd_n (by omega), npF_n (by omega), upd_n (by omega), upd_n (by omega), upd_n (by omega), upd_n (by omega)]
    · unfold quF loF; rw [upd_n (by omega), upd_n (by omega), npF_k hk]
      show flF (V 6) (-9) 4 k = _
      exact flF_i hk
