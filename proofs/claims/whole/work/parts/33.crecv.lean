/-- a receiver's own fields -/
def R0 (f : Nat → Int32) (ρ : RT) : Prop := f 2 = ρ 1 ∧ f 3 = ρ 0 ∧ f 4 = ρ 2 ∧ f 5 = ρ 3 ∧ f 6 = ρ 4 ∧ f 7 = ρ 5 ∧ (ρ 3 = 1 → f 8 = ρ 6) ∧ f 9 = ρ 10 ∧ f 10 = ρ 11 ∧ f 11 = ρ 12 ∧ f 12 = ρ 13 ∧ f 13 = ρ 8 ∧ f 14 = (if ρ 7 = 1 then ρ 9 else -9)
def PTS (V : IT) (ρ : RT) : Prop := ∀ k, k < 4 → V 6 k = ρ (18 + k)
def REC (V : IT) (ρ : RT) : Prop := R0 (V 0) ρ ∧ SHW V ρ ∧ PTS V ρ
theorem R0.cong {f : Nat → Int32} {ρ σ : RT} (h : R0 f ρ) (e : ∀ j, j < 14 → σ j = ρ j) : R0 f σ := by
  unfold R0 at h ⊢
  rw [e 1 (by omega), e 0 (by omega), e 2 (by omega), e 3 (by omega), e 4 (by omega), e 5 (by omega), e 6 (by omega), e 10 (by omega), e 11 (by omega), e 12 (by omega), e 13 (by omega), e 8 (by omega), e 7 (by omega), e 9 (by omega)]
  exact h
theorem SHW.cong {V V' : IT} {ρ σ : RT} (h : SHW V ρ) (e : ∀ j, 14 ≤ j → j < 18 ∨ 22 ≤ j → σ j = ρ j) (h1 : V' 1 = V 1) (h2 : V' 2 = V 2) (h3 : V' 3 = V 3) (h4 : V' 4 = V 4) (h5 : V' 5 = V 5) : SHW V' σ := by
  obtain ⟨v1, v2, v3, v4, v5, v6, v7, v8, v9⟩ := h
  unfold SHW
  rw [h1, h2, h3, h4, h5]
  refine ⟨?_, ?_, ?_, ?_, ?_, fun k hk => ?_, fun k hk => ?_, fun k hk => ?_, fun k hk => ?_⟩
  · rw [e 30 (by omega) (by omega)]; exact v1
  · rw [e 14 (by omega) (by omega)]; exact v2
  · rw [e 15 (by omega) (by omega)]; exact v3
  · rw [e 16 (by omega) (by omega)]; exact v4
  · rw [e 17 (by omega) (by omega)]; exact v5
  · rw [e _ (by omega) (by omega)]; exact v6 k hk
  · rw [e _ (by omega) (by omega)]; exact v7 k hk
  · rw [e _ (by omega) (by omega)]; exact v8 k hk
  · rw [e _ (by omega) (by omega)]; exact v9 k hk
/-- behind a bit: no GROUP is to be looked at, and it is as TG; or one is, and then it is as TG -/
def LKs (Z : ZT) (I : IT) (r : Nat) (L : LT) (Post : PT) (TG : RT) : Prop := (∀ V', REC V' TG → Post (some (.int 0)) Z (wr I r V') L) ∧ (∀ (V' : IT) (τ : RT), SHW V' τ → PTS V' τ → OKp τ → OKL τ → (∀ V'', SHW V'' (laF τ) → V'' 0 = V' 0 → V'' 6 = V' 6 → REC V'' TG) → Post (some (.int 1)) Z (wr I r V') L)
theorem c_fitsLastHit {g : GT} {Z : ZT} {I : IT} {L : LT} {Post : PT} {r k hold : Nat} {V : IT} {σ : RT} (hZ : isR Z r) (hV : R0 (V 0) σ) (hok : OKr hold σ) (hk : k < 4) (ht : fitsB σ k → Post (some (.int 1)) Z (wr I r V) L) (hf : ¬ fitsB σ k → Post (some (.int 0)) Z (wr I r V) L) : CM g 0 0 0 mX2_fitsLastHit [.ref r, .int (nI k)] Z (wr I r V) L Post := by
  obtain ⟨z1, z2, z3, z4, z5, z6, z7, z8, z9, z10, z11, z12, z13, z14, z15, z16, z17, z18⟩ := id hZ
  obtain ⟨v1, v2, v3, v4, v5, v6, v7, v8, v9, v10, v11, v12, v13⟩ := id hV
  obtain ⟨-, -, -, -, -, o6, ⟨ho, hho, eho⟩, -, -⟩ := id hok
  refine CM_intro ?_
  refine j_aload_n 0 dX2_fitsLastHit_0 rfl (j_getI dX2_fitsLastHit_1 fX2_29 (by first | assumption | rfl) (j_aload_n 0 dX2_fitsLastHit_4 rfl (j_getI dX2_fitsLastHit_5 fX2_60 (by first | assumption | rfl) (j_isub dX2_fitsLastHit_8 (j_istore_n (lv' := [(2, _), (0, _), (1, _)]) dX2_fitsLastHit_9 rfl ?_)))))
  rw [wr_0, v2, v12]
  unfold fitsB at ht hf
  generalize σ 0 - σ 8 = off at ht hf ⊢
  refine j_aload_n 1 dX2_fitsLastHit_10 rfl (j_getI dX2_fitsLastHit_11 fX2_63 (by first | assumption | rfl) (j_bipush (v := -9) dX2_fitsLastHit_14 rfl (j_icmp_eq (tgt := 26) dX2_fitsLastHit_16 rfl (fun h1 => ?_) (fun h1 => ?_))))
  · rw [wr_0, v13] at h1
    refine j_iconst (v := 0) dX2_fitsLastHit_26 rfl (j_zret dX2_fitsLastHit_27 (by decide) ?_)
    refine hf (fun z => ?_)
    rw [if_pos z.1, eho] at h1
    exact nI_ne9 (by omega) h1
  · rw [wr_0, v13] at h1
    have h7 : σ 7 = 1 := by
      rcases o6 with z | z
      · rw [if_neg (by rw [z]; decide)] at h1; exact absurd rfl h1
      · exact z
    refine j_iload_n 0 dX2_fitsLastHit_19 rfl (j_bipush (v := 14) dX2_fitsLastHit_20 rfl (j_irem dX2_fitsLastHit_22 (by decide) (j_if_eq (tgt := 28) dX2_fitsLastHit_23 rfl (fun h2 => ?_) (fun h2 => ?_))))
    · refine j_iload_n 0 dX2_fitsLastHit_28 rfl (j_bipush (v := 14) dX2_fitsLastHit_29 rfl (j_idiv dX2_fitsLastHit_31 (by decide) (j_istore_n (lv' := [(3, _), (2, _), (0, _), (1, _)]) dX2_fitsLastHit_32 rfl (j_iload_n 0 dX2_fitsLastHit_33 rfl (j_iconst (v := 1) dX2_fitsLastHit_34 rfl (j_icmp_lt (tgt := 59) dX2_fitsLastHit_35 rfl (fun h3 => ?_) (fun h3 => ?_)))))))
      · refine j_iconst (v := 0) dX2_fitsLastHit_59 rfl (j_zret dX2_fitsLastHit_60 (by decide) ?_)
        exact hf (fun z => absurd h3 (Int32.not_lt.mpr z.2.2.1))
      · refine j_iload_n 0 dX2_fitsLastHit_38 rfl (j_iconst (v := 4) dX2_fitsLastHit_39 rfl (j_icmp_gt (tgt := 59) dX2_fitsLastHit_40 rfl (fun h4 => ?_) (fun h4 => ?_)))
        · refine j_iconst (v := 0) dX2_fitsLastHit_59 rfl (j_zret dX2_fitsLastHit_60 (by decide) ?_)
          exact hf (fun z => absurd h4 (Int32.not_lt.mpr z.2.2.2.1))
        · obtain ⟨t, t1, t2, et⟩ := bt_t (a := 1) (b := 4) (x := off / 14) (by decide) ((i32_le _ _).mp (Int32.not_lt.mp h3)) ((i32_le _ _).mp (Int32.not_lt.mp h4))
          refine j_aload_n 2 dX2_fitsLastHit_43 rfl (j_getI dX2_fitsLastHit_44 fX2_63 (by first | assumption | rfl) (j_iload_n 0 dX2_fitsLastHit_47 rfl (j_iadd dX2_fitsLastHit_48 (j_iconst (v := 3) dX2_fitsLastHit_49 rfl (j_iand dX2_fitsLastHit_50 (j_iload_n 3 dX2_fitsLastHit_51 rfl ?_))))))
          rw [wr_0, v13, if_pos h7, eho, et, nI_add, and3]
          rw [eho, et, nN_nI (show ho < 2 ^ 31 by omega), nN_nI (show t < 2 ^ 31 by omega), ← et] at ht hf
          refine j_icmp_ne (tgt := 59) dX2_fitsLastHit_52 rfl (fun h5 => ?_) (fun h5 => ?_)
          · refine j_iconst (v := 0) dX2_fitsLastHit_59 rfl (j_zret dX2_fitsLastHit_60 (by decide) ?_)
            exact hf (fun z => h5 (by rw [z.2.2.2.2]))
          · refine j_iconst (v := 1) dX2_fitsLastHit_55 rfl (j_goto (tgt := 60) dX2_fitsLastHit_56 rfl (j_zret dX2_fitsLastHit_60 (by decide) ?_))
            exact ht ⟨h7, h2, Int32.not_lt.mp h3, Int32.not_lt.mp h4, nI_inj (by omega) (by omega) h5⟩
    · refine j_iconst (v := 0) dX2_fitsLastHit_26 rfl (j_zret dX2_fitsLastHit_27 (by decide) ?_)
      exact hf (fun z => h2 z.2.1)
theorem c_findSync {g : GT} {Z : ZT} {I : IT} {L : LT} {Post : PT} {r k w : Nat} {V : IT} (hZ : isR Z r) (hk : k < 4) (hw : w < 16384) (ew : V 0 2 = nI w) (hp : Post none Z (wr I r (upR (upR V 0 (upd (upd (upd (upd (upd (V 0) 5 1) 6 (nI ((k + 1) % 4))) 7 0) 8 0) 9 (V 0 9 + 1))) 6 (upd (flF (V 6) (-9) 4) k (nI (w / 64))))) L) : CM g 1 0 0 mX2_findSync [.ref r, .int (nI k)] Z (wr I r V) L Post := by
  obtain ⟨z1, z2, z3, z4, z5, z6, z7, z8, z9, z10, z11, z12, z13, z14, z15, z16, z17, z18⟩ := id hZ
  refine CM_intro ?_
  refine j_aload_n 0 dX2_findSync_0 rfl (j_iconst (v := 1) dX2_findSync_1 rfl (j_putZ dX2_findSync_2 fX2_35 (by decide) (by first | assumption | rfl) (j_aload_n 0 dX2_findSync_5 rfl (j_iload_n 1 dX2_findSync_6 rfl (j_N1 rfl rfl dX2_findSync_7 kX2_112 (c_nextOffset (j_putI dX2_findSync_10 fX2_39 (by first | assumption | rfl) (j_aload_n 0 dX2_findSync_13 rfl (j_iconst (v := 0) dX2_findSync_14 rfl (j_putI dX2_findSync_15 fX2_42 (by first | assumption | rfl) (j_aload_n 0 dX2_findSync_18 rfl (j_iconst (v := 0) dX2_findSync_19 rfl (j_putI dX2_findSync_20 fX2_45 (by first | assumption | rfl) (j_aload_n 0 dX2_findSync_23 rfl (j_dup dX2_findSync_24 rfl (j_getI dX2_findSync_25 fX2_48 (by first | assumption | rfl) (j_iconst (v := 1) dX2_findSync_28 rfl (j_iadd dX2_findSync_29 (j_putI dX2_findSync_30 fX2_48 (by first | assumption | rfl) (j_aload_n 0 dX2_findSync_33 rfl (j_getR (b := r + 6) dX2_findSync_34 fX2_18 rfl (by first | assumption | rfl) (by first | assumption | rfl) (j_bipush (v := -9) dX2_findSync_37 rfl (j_S2 dX2_findSync_39 kX2_66 (c_fill z17 z18 (by decide) (j_aload_n 0 dX2_findSync_42 rfl (j_getR (b := r + 6) dX2_findSync_43 fX2_18 rfl (by first | assumption | rfl) (by first | assumption | rfl) (j_iload_n 1 dX2_findSync_46 rfl (j_aload_n 0 dX2_findSync_47 rfl (j_getI dX2_findSync_48 fX2_25 (by first | assumption | rfl) (j_bipush (v := 6) dX2_findSync_51 rfl (j_ishr dX2_findSync_53 (j_iastore k dX2_findSync_54 (by first | assumption | rfl) (by first | assumption | rfl) (by omega) (j_vret dX2_findSync_55 ?_)))))))))))))))))))))))))))))))))
  simp only [upI, wr_0, wu_0, wr_6, wu_6, upR_R, upR_s, upd_app, upR_n (show 0 ≠ 6 by decide), upR_n (show 6 ≠ 0 by decide)]
  rw [if_neg (show ¬ (2 : Nat) = 9 by decide), if_neg (show ¬ (2 : Nat) = 8 by decide), if_neg (show ¬ (2 : Nat) = 7 by decide), if_neg (show ¬ (2 : Nat) = 6 by decide), if_neg (show ¬ (2 : Nat) = 5 by decide), ew, show (6 : Int32) = nI 6 from rfl, shrI (by omega) (by decide)]
  exact hp
theorem skF_no {c : CT} {σ : RT} (h : σ 2 < 14 ∨ hitN c (nN (σ 1)) = 4) : skF c σ = σ := by unfold skF; exact if_pos h
theorem skF_hit {c : CT} {σ : RT} (h : ¬ (σ 2 < 14 ∨ hitN c (nN (σ 1)) = 4)) (h2 : ¬ fitsB σ (hitN c (nN (σ 1)))) : skF c σ = upd (upd (upd σ 7 1) 8 (σ 0)) 9 (nI (hitN c (nN (σ 1)))) := by unfold skF; rw [if_neg h, if_neg h2]
theorem skF_sync {c : CT} {σ : RT} (h : ¬ (σ 2 < 14 ∨ hitN c (nN (σ 1)) = 4)) (h2 : fitsB σ (hitN c (nN (σ 1)))) : skF c σ = if hitN c (nN (σ 1)) = 3 then laF (upd (upd (npF (upd (upd (upd (upd σ 3 1) 4 (nI ((hitN c (nN (σ 1)) + 1) % 4))) 5 0) 6 0)) 10 (σ 10 + 1)) (18 + hitN c (nN (σ 1))) (nI (nN (σ 1) / 64))) else upd (upd (npF (upd (upd (upd (upd σ 3 1) 4 (nI ((hitN c (nN (σ 1)) + 1) % 4))) 5 0) 6 0)) 10 (σ 10 + 1)) (18 + hitN c (nN (σ 1))) (nI (nN (σ 1) / 64)) := by unfold skF; rw [if_neg h, if_pos h2]
set_option maxHeartbeats 1000000 in
theorem c_seekSync {g : GT} {Z : ZT} {I : IT} {L : LT} {Post : PT} {r : Nat} {V : IT} {σ : RT} {c : CT} (hZ : isR Z r) (hZc : isCo Z) (hc : CC I c) (hr : 8 ≤ r) (hV : REC V σ) (hok : OKr c.2.2.1 σ) (hp : LKs Z I r L Post (skF c σ)) : CM g 2 0 0 mX2_seekSync [.ref r, .ref 3] Z (wr I r V) L Post := by
  obtain ⟨z1, z2, z3, z4, z5, z6, z7, z8, z9, z10, z11, z12, z13, z14, z15, z16, z17, z18⟩ := id hZ
  obtain ⟨hR0, hS, hT⟩ := id hV
  obtain ⟨v1, v2, v3, v4, v5, v6, v7, v8, v9, v10, v11, v12, v13⟩ := id hR0
  obtain ⟨⟨w, hw, ew⟩, o2, o3, o4, o5, o6, o7, o8, o9⟩ := id hok
  have y1 := hZc.1
  have eN : nN (σ 1) = w := by rw [ew]; exact nN_nI (by omega)
  refine CM_intro ?_
  refine j_aload_n 0 dX2_seekSync_0 rfl (j_getI dX2_seekSync_1 fX2_32 (by first | assumption | rfl) (j_bipush (v := 14) dX2_seekSync_4 rfl (j_icmp_lt (tgt := 20) dX2_seekSync_6 rfl (fun h1 => ?_) (fun h1 => ?_))))
  · rw [wr_0, v3] at h1
    refine j_bipush (v := -9) dX2_seekSync_20 rfl (j_istore_n (lv' := [(2, _), (0, _), (1, _)]) dX2_seekSync_22 rfl (j_iload_n 0 dX2_seekSync_23 rfl (j_bipush (v := -9) dX2_seekSync_24 rfl (j_icmp_ne (tgt := 31) dX2_seekSync_26 rfl (fun h9 => absurd (by decide) h9) (fun _ => (j_iconst (v := 0) dX2_seekSync_29 rfl (j_zret dX2_seekSync_30 (by decide) ?_)))))))
    refine hp.1 _ ?_
    rw [skF_no (Or.inl h1)]
    exact hV
  · rw [wr_0, v3] at h1
    refine j_aload_n 1 dX2_seekSync_9 rfl (j_aload_n 0 dX2_seekSync_10 rfl (j_getI dX2_seekSync_11 fX2_25 (by first | assumption | rfl) ?_))
    rw [wr_0, v1, ew]
    refine j_V1 dX2_seekSync_14 kX2_98 (by first | assumption | rfl) (c_hitOf hZc (hc.wr hr V) hw (j_goto (tgt := 22) dX2_seekSync_17 rfl (j_istore_n (lv' := [(2, _), (0, _), (1, _)]) dX2_seekSync_22 rfl ?_)))
    have hle := hitN_le c w
    refine j_iload_n 0 dX2_seekSync_23 rfl (j_bipush (v := -9) dX2_seekSync_24 rfl (j_icmp_ne (tgt := 31) dX2_seekSync_26 rfl (fun h2 => ?_) (fun h2 => ?_)))
    · have hk4 : hitN c w < 4 := by
        have : ¬ hitN c w = 4 := fun z => h2 (by rw [if_pos z])
        omega
      have hno : ¬ (σ 2 < 14 ∨ hitN c (nN (σ 1)) = 4) := by rw [eN]; intro z; rcases z with z | z; exact h1 z; omega
      have e1 := skF_hit (c := c) (σ := σ) hno
      have e2 := skF_sync (c := c) (σ := σ) hno
      rw [eN] at e1 e2
      rw [if_neg (show ¬ hitN c w = 4 by omega)]
      generalize hitN c w = k at hk4 e1 e2 ⊢
      refine j_aload_n 1 dX2_seekSync_31 rfl (j_iload_n 0 dX2_seekSync_32 rfl (j_V1 dX2_seekSync_33 kX2_104 (by first | assumption | rfl) (c_fitsLastHit hZ hR0 hok hk4 (fun hf => ?_) (fun hf => ?_))))
      · have e3 := e2 hf
        refine j_if_ne (tgt := 54) dX2_seekSync_36 rfl (fun _ => (j_aload_n 1 dX2_seekSync_54 rfl (j_iload_n 0 dX2_seekSync_55 rfl ?_))) (fun h9 => absurd h9 (by decide))
        refine j_V1 dX2_seekSync_56 kX2_108 (by first | assumption | rfl) (c_findSync hZ hk4 hw (v1.trans ew) ?_)
        generalize hσ : upd (upd (npF (upd (upd (upd (upd σ 3 1) 4 (nI ((k + 1) % 4))) 5 0) 6 0)) 10 (σ 10 + 1)) (18 + k) (nI (w / 64)) = τ at e3
        have ej : ∀ j, j < 14 → τ j = upd (upd (upd (upd (upd σ 3 1) 4 (nI ((k + 1) % 4))) 5 0) 6 0) 10 (σ 10 + 1) j := by
          intro j hj
          rw [← hσ, upd_n (by omega)]
          by_cases e : j = 10
          · subst e; rfl
          · rw [upd_n e, upd_n e, npF_n (by omega)]
        have hr0 : R0 (upd (upd (upd (upd (upd (V 0) 5 1) 6 (nI ((k + 1) % 4))) 7 0) 8 0) 9 (V 0 9 + 1)) τ := by
          refine R0.cong (ρ := upd (upd (upd (upd (upd σ 3 1) 4 (nI ((k + 1) % 4))) 5 0) 6 0) 10 (σ 10 + 1)) ?_ ej
          exact ⟨v1, v2, v3, rfl, rfl, rfl, fun _ => rfl, congrArg (· + 1) v8, v9, v10, v11, v12, v13⟩
        have hpt : PTS (upR (upR V 0 (upd (upd (upd (upd (upd (V 0) 5 1) 6 (nI ((k + 1) % 4))) 7 0) 8 0) 9 (V 0 9 + 1))) 6 (upd (flF (V 6) (-9) 4) k (nI (w / 64)))) τ := by
          intro j hj
          rw [upR_s, ← hσ]
          by_cases e : j = k
          · subst e; rw [upd_s, upd_s]
          · rw [upd_n e, upd_n (by omega), upd_n (by omega), npF_k hj, flF_i hj]
        have hsh : SHW (upR (upR V 0 (upd (upd (upd (upd (upd (V 0) 5 1) 6 (nI ((k + 1) % 4))) 7 0) 8 0) 9 (V 0 9 + 1))) 6 (upd (flF (V 6) (-9) 4) k (nI (w / 64)))) τ := by
          refine hS.cong (fun j h1 h2 => ?_) rfl rfl rfl rfl rfl
          rw [← hσ, upd_n (by omega), upd_n (by omega), npF_n (by omega), upd_n (by omega), upd_n (by omega), upd_n (by omega), upd_n (by omega)]
        refine j_iload_n 0 dX2_seekSync_59 rfl (j_iconst (v := 3) dX2_seekSync_60 rfl (j_icmp_ne (tgt := 68) dX2_seekSync_61 rfl (fun h4 => ?_) (fun h4 => ?_)))
        · rw [if_neg (fun z => h4 (by rw [z]; rfl))] at e3
          refine j_iconst (v := 0) dX2_seekSync_68 rfl (j_zret dX2_seekSync_69 (by decide) ?_)
          refine hp.1 _ ?_
          rw [e3]
          exact ⟨hr0, hsh, hpt⟩
        · rw [if_pos (nI_inj (b := 3) (by omega) (by decide) h4)] at e3
          refine j_iconst (v := 1) dX2_seekSync_64 rfl (j_goto (tgt := 69) dX2_seekSync_65 rfl (j_zret dX2_seekSync_69 (by decide) ?_))
          refine hp.2 _ τ hsh hpt ?_ ?_ (fun V'' g1 g2 g3 => ?_)
          · rw [← hσ]; exact OKp.set (OKp.cong OKp.np (fun j hj => upd_n (by omega))) hk4 (by omega)
          · exact o9.cong (fun j hj => by rw [← hσ, upd_n (by omega), upd_n (by omega), npF_n (by omega), upd_n (by omega), upd_n (by omega), upd_n (by omega), upd_n (by omega)])
          · rw [e3]
            refine ⟨?_, g1, fun j hj => ?_⟩
            · rw [g2]; exact R0.cong hr0 (fun j hj => laF_n (by omega))
            · rw [g3, laF_n (by omega)]; exact hpt j hj
      · have e3 := e1 hf
        refine j_if_ne (tgt := 54) dX2_seekSync_36 rfl (fun h9 => absurd (by decide) h9) (fun _ => (j_aload_n 1 dX2_seekSync_39 rfl (j_aload_n 1 dX2_seekSync_40 rfl (j_getI dX2_seekSync_41 fX2_29 (by first | assumption | rfl) (j_putI dX2_seekSync_44 fX2_60 (by first | assumption | rfl) (j_aload_n 1 dX2_seekSync_47 rfl (j_iload_n 0 dX2_seekSync_48 rfl (j_putI dX2_seekSync_49 fX2_63 (by first | assumption | rfl) (j_iconst (v := 0) dX2_seekSync_52 rfl (j_zret dX2_seekSync_53 (by decide) ?_))))))))))
        simp only [upI, wr_0, wu_0, upR_R, upR_s]
        refine hp.1 _ ?_
        rw [e3]
        refine ⟨?_, hS.cong (fun j h1 h2 => ?_) rfl rfl rfl rfl rfl, fun j hj => ?_⟩
        · exact ⟨v1, v2, v3, v4, v5, v6, v7, v8, v9, v10, v11, v2, rfl⟩
        · rw [upd_n (by omega), upd_n (by omega), upd_n (by omega)]
        · rw [upd_n (by omega), upd_n (by omega), upd_n (by omega)]; exact hT j hj
    · have hk4 : hitN c w = 4 := by
        rcases Nat.lt_or_ge (hitN c w) 4 with z | z
        · rw [if_neg (by omega)] at h2
          exact absurd h2 (nI_ne9 (by omega))
        · omega
      refine j_iconst (v := 0) dX2_seekSync_29 rfl (j_zret dX2_seekSync_30 (by decide) ?_)
      refine hp.1 _ ?_
      rw [skF_no (Or.inr (by rw [eN]; exact hk4))]
      exact hV
