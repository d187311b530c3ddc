/-- what GROUPS told: the class's rows 1 .. 5 of a receiver are the reference's row -/
def SHW (V : IT) (ρ : RT) : Prop := V 1 4 = ρ 30 ∧ V 1 5 = ρ 14 ∧ V 1 6 = ρ 15 ∧ V 1 7 = ρ 16 ∧ V 1 8 = ρ 17 ∧ (∀ k, k < 4 → V 2 k = ρ (22 + k)) ∧ (∀ k, k < 4 → V 3 k = ρ (26 + k)) ∧ (∀ k, k < 8 → V 4 k = ρ (31 + k)) ∧ (∀ k, k < 8 → V 5 k = ρ (39 + k))
theorem c_clearNames {g : GT} {Z : ZT} {I : IT} {L : LT} {Post : PT} {r : Nat} {V : IT} (hZ : isR Z r) (hp : Post none Z (wr I r (upR (upR V 2 (flF (V 2) (-9) 4)) 3 (flF (V 3) (-9) 4))) L) : CM g 1 0 0 mX3_clearNames [.ref (r + 1)] Z (wr I r V) L Post := by
  obtain ⟨z1, z2, z3, z4, z5, z6, z7, z8, z9, z10, z11, z12, z13, z14, z15, z16, z17, z18⟩ := id hZ
  refine CM_intro ?_
  refine j_aload_n 0 dX3_clearNames_0 rfl (j_getR (b := r + 2) dX3_clearNames_1 fX3_11 rfl (by first | assumption | rfl) (by first | assumption | rfl) (j_bipush (v := -9) dX3_clearNames_4 rfl (j_S2 dX3_clearNames_6 kX3_24 (c_fill z9 z10 (by decide) (j_aload_n 0 dX3_clearNames_9 rfl (j_getR (b := r + 3) dX3_clearNames_10 fX3_15 rfl (by first | assumption | rfl) (by first | assumption | rfl) (j_bipush (v := -9) dX3_clearNames_13 rfl (j_S2 dX3_clearNames_15 kX3_24 (c_fill z11 z12 (by decide) (j_vret dX3_clearNames_18 ?_))))))))))
  simp only [wr_2, wr_3, wu_2, wu_3]
  exact hp
theorem c_takeProgram {g : GT} {Z : ZT} {I : IT} {L : LT} {Post : PT} {r : Nat} {V : IT} {ρ : RT} (hZ : isR Z r) (hV : SHW V ρ) (hp : ∀ V', SHW V' (l1F ρ) → V' 0 = V 0 → V' 6 = V 6 → Post none Z (wr I r V') L) : CM g 0 0 0 mX3_takeProgram [.ref (r + 1), .int (ρ 18)] Z (wr I r V) L Post := by
  obtain ⟨z1, z2, z3, z4, z5, z6, z7, z8, z9, z10, z11, z12, z13, z14, z15, z16, z17, z18⟩ := id hZ
  obtain ⟨v1, v2, v3, v4, v5, v6, v7, v8, v9⟩ := id hV
  unfold l1F at hp
  refine CM_intro ?_
  refine j_iload_n 1 dX3_takeProgram_0 rfl (j_bipush (v := -9) dX3_takeProgram_1 rfl (j_icmp_ne (tgt := 7) dX3_takeProgram_3 rfl (fun h1 => ?_) (fun h1 => ?_)))
  · simp only [if_neg h1] at hp
    refine j_iload_n 1 dX3_takeProgram_7 rfl (j_aload_n 0 dX3_takeProgram_8 rfl (j_getI dX3_takeProgram_9 fX3_37 (by first | assumption | rfl) (j_icmp_ne (tgt := 20) dX3_takeProgram_12 rfl (fun h2 => ?_) (fun h2 => ?_))))
    · rw [wr_1, v3] at h2
      simp only [if_neg (fun z => h2 (Eq.symm z))] at hp
      refine j_aload_n 0 dX3_takeProgram_20 rfl (j_iload_n 1 dX3_takeProgram_21 rfl (j_putI dX3_takeProgram_22 fX3_37 (by first | assumption | rfl) (j_vret dX3_takeProgram_25 ?_)))
      simp only [upI, wr_1, wu_1]
      refine hp _ ⟨v1, v2, rfl, v4, v5, fun k hk => ?_, fun k hk => ?_, fun k hk => ?_, fun k hk => ?_⟩ rfl rfl
      · rw [upd_n (by omega), upd_n (by omega)]; exact v6 k hk
      · rw [upd_n (by omega), upd_n (by omega)]; exact v7 k hk
      · rw [upd_n (by omega), upd_n (by omega)]; exact v8 k hk
      · rw [upd_n (by omega), upd_n (by omega)]; exact v9 k hk
    · rw [wr_1, v3] at h2
      simp only [if_pos h2.symm] at hp
      refine j_aload_n 0 dX3_takeProgram_15 rfl (j_iload_n 1 dX3_takeProgram_16 rfl (j_putI dX3_takeProgram_17 fX3_34 (by first | assumption | rfl) (j_aload_n 0 dX3_takeProgram_20 rfl (j_iload_n 1 dX3_takeProgram_21 rfl (j_putI dX3_takeProgram_22 fX3_37 (by first | assumption | rfl) (j_vret dX3_takeProgram_25 ?_))))))
      simp only [upI, wr_1, wu_1, upR_R, upR_s]
      refine hp _ ⟨v1, rfl, rfl, v4, v5, fun k hk => ?_, fun k hk => ?_, fun k hk => ?_, fun k hk => ?_⟩ rfl rfl
      · rw [upd_n (by omega), upd_n (by omega)]; exact v6 k hk
      · rw [upd_n (by omega), upd_n (by omega)]; exact v7 k hk
      · rw [upd_n (by omega), upd_n (by omega)]; exact v8 k hk
      · rw [upd_n (by omega), upd_n (by omega)]; exact v9 k hk
  · rw [if_pos h1] at hp
    refine j_vret dX3_takeProgram_6 ?_
    exact hp _ hV rfl rfl
theorem c_cTakePair {g : GT} {Z : ZT} {I : IT} {L : LT} {Post : PT} {r pl : Nat} {V : IT} {ρ : RT} {x y : Int32} (hZ : isR Z r) (hV : SHW V ρ) (hpl : pl < 4) (hp : ∀ V', SHW V' (if x ≠ -9 ∧ y ≠ -9 then tpF ρ pl (256 * x + y) else ρ) → V' 0 = V 0 → V' 6 = V 6 → Post none Z (wr I r V') L) : CM g 0 0 0 mX3_takePair [.ref (r + 1), .int (nI pl), .int x, .int y] Z (wr I r V) L Post := by
  obtain ⟨z1, z2, z3, z4, z5, z6, z7, z8, z9, z10, z11, z12, z13, z14, z15, z16, z17, z18⟩ := id hZ
  obtain ⟨v1, v2, v3, v4, v5, v6, v7, v8, v9⟩ := id hV
  refine CM_intro ?_
  refine j_iload_n 2 dX3_takePair_0 rfl (j_bipush (v := -9) dX3_takePair_1 rfl (j_icmp_eq (tgt := 12) dX3_takePair_3 rfl (fun h1 => ?_) (fun h1 => ?_)))
  · rw [if_neg (fun z => z.1 h1)] at hp
    refine j_vret dX3_takePair_12 ?_
    exact hp _ hV rfl rfl
  · refine j_iload_n 3 dX3_takePair_6 rfl (j_bipush (v := -9) dX3_takePair_7 rfl (j_icmp_ne (tgt := 13) dX3_takePair_9 rfl (fun h2 => ?_) (fun h2 => ?_)))
    · rw [if_pos ⟨h1, h2⟩] at hp
      unfold tpF at hp
      refine j_sipush (v := 256) dX3_takePair_13 rfl (j_iload_n 2 dX3_takePair_16 rfl (j_imul dX3_takePair_17 (j_iload_n 3 dX3_takePair_18 rfl (j_iadd dX3_takePair_19 (j_istore (lv' := [(4, _), (0, _), (1, _), (2, _), (3, _)]) dX3_takePair_20 rfl (j_iload 0 dX3_takePair_22 rfl (j_aload_n 1 dX3_takePair_24 rfl (j_getR (b := r + 3) dX3_takePair_25 fX3_15 rfl (by first | assumption | rfl) (by first | assumption | rfl) (j_iload_n 2 dX3_takePair_28 rfl (j_iaload pl dX3_takePair_29 (by first | assumption | rfl) (by first | assumption | rfl) (by omega) (j_icmp_ne (tgt := 41) dX3_takePair_30 rfl (fun h3 => ?_) (fun h3 => ?_))))))))))))
      · rw [wr_3, v7 pl hpl] at h3
        simp only [if_neg (fun z => h3 (Eq.symm z))] at hp
        refine j_aload_n 1 dX3_takePair_41 rfl (j_getR (b := r + 3) dX3_takePair_42 fX3_15 rfl (by first | assumption | rfl) (by first | assumption | rfl) (j_iload_n 2 dX3_takePair_45 rfl (j_iload 0 dX3_takePair_46 rfl (j_iastore pl dX3_takePair_48 (by first | assumption | rfl) (by first | assumption | rfl) (by omega) (j_vret dX3_takePair_49 ?_)))))
        simp only [upI, wr_3, wu_3]
        refine hp _ ⟨v1.trans (upd_n (by omega)).symm, v2.trans (upd_n (by omega)).symm, v3.trans (upd_n (by omega)).symm, v4.trans (upd_n (by omega)).symm, v5.trans (upd_n (by omega)).symm, fun k hk => ?_, fun k hk => ?_, fun k hk => ?_, fun k hk => ?_⟩ rfl rfl
        · rw [upd_n (by omega)]; exact v6 k hk
        · show upd (V 3) pl _ k = _
          by_cases e : k = pl
          · subst e; rw [upd_s, upd_s]
          · rw [upd_n e, upd_n (by omega)]; exact v7 k hk
        · rw [upd_n (by omega)]; exact v8 k hk
        · rw [upd_n (by omega)]; exact v9 k hk
      · rw [wr_3, v7 pl hpl] at h3
        simp only [if_pos h3.symm] at hp
        refine j_aload_n 1 dX3_takePair_33 rfl (j_getR (b := r + 2) dX3_takePair_34 fX3_11 rfl (by first | assumption | rfl) (by first | assumption | rfl) (j_iload_n 2 dX3_takePair_37 rfl (j_iload 0 dX3_takePair_38 rfl (j_iastore pl dX3_takePair_40 (by first | assumption | rfl) (by first | assumption | rfl) (by omega) (j_aload_n 1 dX3_takePair_41 rfl (j_getR (b := r + 3) dX3_takePair_42 fX3_15 rfl (by first | assumption | rfl) (by first | assumption | rfl) (j_iload_n 2 dX3_takePair_45 rfl (j_iload 0 dX3_takePair_46 rfl (j_iastore pl dX3_takePair_48 (by first | assumption | rfl) (by first | assumption | rfl) (by omega) (j_vret dX3_takePair_49 ?_))))))))))
        simp only [upI, wr_3, wr_2, wu_3, wu_2, upR_n (show 3 ≠ 2 by decide)]
        refine hp _ ⟨v1.trans (by rw [upd_n (by omega), upd_n (by omega)]), v2.trans (by rw [upd_n (by omega), upd_n (by omega)]), v3.trans (by rw [upd_n (by omega), upd_n (by omega)]), v4.trans (by rw [upd_n (by omega), upd_n (by omega)]), v5.trans (by rw [upd_n (by omega), upd_n (by omega)]), fun k hk => ?_, fun k hk => ?_, fun k hk => ?_, fun k hk => ?_⟩ rfl rfl
        · show upd (V 2) pl _ k = _
          by_cases e : k = pl
          · subst e; rw [upd_s, upd_n (by omega), upd_s]
          · rw [upd_n e, upd_n (by omega), upd_n (by omega)]; exact v6 k hk
        · show upd (V 3) pl _ k = _
          by_cases e : k = pl
          · subst e; rw [upd_s, upd_s]
          · rw [upd_n e, upd_n (by omega), upd_n (by omega)]; exact v7 k hk
        · rw [upd_n (by omega), upd_n (by omega)]; exact v8 k hk
        · rw [upd_n (by omega), upd_n (by omega)]; exact v9 k hk
    · rw [if_neg (fun z => z.2 h2)] at hp
      refine j_vret dX3_takePair_12 ?_
      exact hp _ hV rfl rfl
/-- a PART: not there, or a byte -/
def ptI (x : Int32) : Prop := x = -9 ∨ ∃ p, p < 256 ∧ x = nI p
theorem pt_nn {x : Int32} (h : ptI x) : x ≠ -9 ↔ ¬ x < 0 := by
  rcases h with h | ⟨p, hp, h⟩
  · subst h; decide
  · subst h; exact ⟨fun _ => nI_pos (by omega), fun _ => nI_ne9 (by omega)⟩
theorem c_takeClock {g : GT} {Z : ZT} {I : IT} {L : LT} {Post : PT} {r : Nat} {V : IT} {ρ : RT} {x y : Int32} (hZ : isR Z r) (hV : SHW V ρ) (hx : ptI x) (hy : ptI y) (hp : ∀ V', SHW V' (if x ≠ -9 ∧ y ≠ -9 ∧ x < 24 ∧ y < 60 then upd ρ 16 (60 * x + y) else ρ) → V' 0 = V 0 → V' 6 = V 6 → Post none Z (wr I r V') L) : CM g 0 0 0 mX3_takeClock [.ref (r + 1), .int x, .int y] Z (wr I r V) L Post := by
  obtain ⟨z1, z2, z3, z4, z5, z6, z7, z8, z9, z10, z11, z12, z13, z14, z15, z16, z17, z18⟩ := id hZ
  obtain ⟨v1, v2, v3, v4, v5, v6, v7, v8, v9⟩ := id hV
  have e24 : ∀ z : Int32, z < 24 ↔ ¬ 23 < z := fun z => by rw [i32_lt, i32_lt]; show z.toInt < 24 ↔ ¬ 23 < z.toInt; omega
  have e60 : ∀ z : Int32, z < 60 ↔ ¬ 59 < z := fun z => by rw [i32_lt, i32_lt]; show z.toInt < 60 ↔ ¬ 59 < z.toInt; omega
  have n1 := pt_nn hx
  have n2 := pt_nn hy
  refine CM_intro ?_
  refine j_iload_n 1 dX3_takeClock_0 rfl (j_if_lt (tgt := 30) dX3_takeClock_1 rfl (fun h1 => ?_) (fun h1 => ?_))
  · rw [if_neg (fun z => n1.mp z.1 h1)] at hp
    refine j_vret dX3_takeClock_30 ?_
    exact hp _ hV rfl rfl
  · refine j_iload_n 1 dX3_takeClock_4 rfl (j_bipush (v := 23) dX3_takeClock_5 rfl (j_icmp_gt (tgt := 30) dX3_takeClock_7 rfl (fun h2 => ?_) (fun h2 => ?_)))
    · rw [if_neg (fun z => (e24 x).mp z.2.2.1 h2)] at hp
      refine j_vret dX3_takeClock_30 ?_
      exact hp _ hV rfl rfl
    · refine j_iload_n 2 dX3_takeClock_10 rfl (j_if_lt (tgt := 30) dX3_takeClock_11 rfl (fun h3 => ?_) (fun h3 => ?_))
      · rw [if_neg (fun z => n2.mp z.2.1 h3)] at hp
        refine j_vret dX3_takeClock_30 ?_
        exact hp _ hV rfl rfl
      · refine j_iload_n 2 dX3_takeClock_14 rfl (j_bipush (v := 59) dX3_takeClock_15 rfl (j_icmp_gt (tgt := 30) dX3_takeClock_17 rfl (fun h4 => ?_) (fun h4 => ?_)))
        · rw [if_neg (fun z => (e60 y).mp z.2.2.2 h4)] at hp
          refine j_vret dX3_takeClock_30 ?_
          exact hp _ hV rfl rfl
        · rw [if_pos ⟨n1.mpr h1, n2.mpr h3, (e24 x).mpr h2, (e60 y).mpr h4⟩] at hp
          refine j_aload_n 0 dX3_takeClock_20 rfl (j_bipush (v := 60) dX3_takeClock_21 rfl (j_iload_n 1 dX3_takeClock_23 rfl (j_imul dX3_takeClock_24 (j_iload_n 2 dX3_takeClock_25 rfl (j_iadd dX3_takeClock_26 (j_putI dX3_takeClock_27 fX3_40 (by first | assumption | rfl) (j_vret dX3_takeClock_30 ?_)))))))
          simp only [upI, wr_1, wu_1]
          refine hp _ ⟨v1, v2, v3, rfl, v5, fun k hk => ?_, fun k hk => ?_, fun k hk => ?_, fun k hk => ?_⟩ rfl rfl
          · rw [upd_n (by omega)]; exact v6 k hk
          · rw [upd_n (by omega)]; exact v7 k hk
          · rw [upd_n (by omega)]; exact v8 k hk
          · rw [upd_n (by omega)]; exact v9 k hk
theorem c_cTakeFlag {g : GT} {Z : ZT} {I : IT} {L : LT} {Post : PT} {r : Nat} {V : IT} {ρ : RT} {f : Int32} (hZ : isR Z r) (hV : SHW V ρ) (hp : ∀ V', SHW V' (tfF ρ f) → V' 0 = V 0 → V' 6 = V 6 → Post none Z (wr I r V') L) : CM g 2 0 0 mX3_takeFlag [.ref (r + 1), .int f] Z (wr I r V) L Post := by
  obtain ⟨z1, z2, z3, z4, z5, z6, z7, z8, z9, z10, z11, z12, z13, z14, z15, z16, z17, z18⟩ := id hZ
  obtain ⟨v1, v2, v3, v4, v5, v6, v7, v8, v9⟩ := id hV
  unfold tfF at hp
  refine CM_intro ?_
  refine j_iload_n 1 dX3_takeFlag_0 rfl (j_aload_n 0 dX3_takeFlag_1 rfl (j_getI dX3_takeFlag_2 fX3_43 (by first | assumption | rfl) (j_icmp_eq (tgt := 12) dX3_takeFlag_5 rfl (fun h1 => ?_) (fun h1 => ?_))))
  · rw [wr_1, v5] at h1
    rw [if_pos h1.symm] at hp
    refine j_aload_n 0 dX3_takeFlag_12 rfl (j_iload_n 1 dX3_takeFlag_13 rfl (j_putI dX3_takeFlag_14 fX3_43 (by first | assumption | rfl) (j_vret dX3_takeFlag_17 ?_)))
    simp only [upI, wr_1, wu_1]
    exact hp _ ⟨v1, v2, v3, v4, h1, v6, v7, v8, v9⟩ rfl rfl
  · rw [wr_1, v5] at h1
    rw [if_neg (fun z => h1 z.symm)] at hp
    refine j_aload_n 0 dX3_takeFlag_8 rfl (j_V0 dX3_takeFlag_9 kX3_46 (by first | assumption | rfl) (c_clearNames hZ (j_aload_n 0 dX3_takeFlag_12 rfl (j_iload_n 1 dX3_takeFlag_13 rfl (j_putI dX3_takeFlag_14 fX3_43 (by first | assumption | rfl) (j_vret dX3_takeFlag_17 ?_))))))
    simp only [upI, wr_1, wu_1]
    refine hp _ ⟨v1, v2, v3, v4, rfl, fun k hk => ?_, fun k hk => ?_, fun k hk => ?_, fun k hk => ?_⟩ rfl rfl
    · rcases (show k = 0 ∨ k = 1 ∨ k = 2 ∨ k = 3 by omega) with rfl | rfl | rfl | rfl <;> rfl
    · rcases (show k = 0 ∨ k = 1 ∨ k = 2 ∨ k = 3 by omega) with rfl | rfl | rfl | rfl <;> rfl
    · show V 4 k = _
      rw [v8 k hk, upd_n (by omega), upd_n (by omega), upd_n (by omega), upd_n (by omega), upd_n (by omega), upd_n (by omega), upd_n (by omega), upd_n (by omega), upd_n (by omega)]
    · show V 5 k = _
      rw [v9 k hk, upd_n (by omega), upd_n (by omega), upd_n (by omega), upd_n (by omega), upd_n (by omega), upd_n (by omega), upd_n (by omega), upd_n (by omega), upd_n (by omega)]
set_option maxHeartbeats 1000000 in
theorem c_takeStation {g : GT} {Z : ZT} {I : IT} {L : LT} {Post : PT} {r : Nat} {V : IT} {ρ : RT} {s : Int32} (hZ : isR Z r) (hV : SHW V ρ) (hli : OKL ρ) (hp : ∀ V', SHW V' (hoF ρ s) → V' 0 = V 0 → V' 6 = V 6 → Post none Z (wr I r V') L) : CM g 1 0 0 mX3_takeStation [.ref (r + 1), .int s] Z (wr I r V) L Post := by
  obtain ⟨z1, z2, z3, z4, z5, z6, z7, z8, z9, z10, z11, z12, z13, z14, z15, z16, z17, z18⟩ := id hZ
  obtain ⟨v1, v2, v3, v4, v5, v6, v7, v8, v9⟩ := id hV
  obtain ⟨m, m8, em, mt, md⟩ := id hli
  have e1 : ∀ z : Int32, 1 ≤ z ↔ ¬ z < 1 := fun z => by rw [Int32.not_lt]
  unfold hoF at hp
  rw [em, nN_nI (show m < 2 ^ 31 by omega)] at hp
  generalize hq : fIx (fun k => decide (ρ (31 + k) = s)) m 0 = q at hp
  have hqm : q ≤ m := by have := fIx_le (fun k => decide (ρ (31 + k) = s)) m 0; omega
  refine CM_intro ?_
  refine j_iload_n 1 dX3_takeStation_0 rfl (j_iconst (v := 1) dX3_takeStation_1 rfl (j_icmp_lt (tgt := 12) dX3_takeStation_2 rfl (fun h1 => ?_) (fun h1 => ?_)))
  · rw [if_neg (fun z => absurd h1 ((e1 s).mp z.1))] at hp
    refine j_vret dX3_takeStation_12 ?_
    exact hp _ hV rfl rfl
  · refine j_iload_n 1 dX3_takeStation_5 rfl (j_sipush (v := 204) dX3_takeStation_6 rfl (j_icmp_le (tgt := 13) dX3_takeStation_9 rfl (fun h2 => ?_) (fun h2 => ?_)))
    · rw [if_pos ⟨(e1 s).mpr h1, h2⟩] at hp
      have fin0 : q = m → JW g mX3_takeStation (rmO 1 0 0) (QM Post 0 0) 59 [(2, .int (nI q)), (0, .ref (r + 1)), (1, .int s)] [] 0 0 Z (wr I r V) L := by
        intro hqe
        rw [if_neg (by omega)] at hp
        refine j_aload_n 1 dX3_takeStation_59 rfl (j_getI dX3_takeStation_60 fX3_30 (by first | assumption | rfl) (j_bipush (v := 8) dX3_takeStation_63 rfl (j_icmp_ge (tgt := 98) dX3_takeStation_65 rfl (fun h3 => ?_) (fun h3 => ?_))))
        · rw [wr_1, v1, em] at h3
          rw [if_neg (fun z => absurd h3 (nI_ge z (by decide)))] at hp
          refine j_vret dX3_takeStation_98 ?_
          exact hp _ hV rfl rfl
        · rw [wr_1, v1, em] at h3
          have hlt : m < 8 := by
            rcases Nat.lt_or_ge m 8 with z | z
            · exact z
            · exact absurd (nI_le z (by omega)) h3
          rw [if_pos hlt] at hp
          have e0 : wr I r V (r + 1) 4 = nI m := by rw [wr_1, v1, em]
          refine j_aload_n 1 dX3_takeStation_68 rfl (j_getR (b := r + 4) dX3_takeStation_69 fX3_18 rfl (by first | assumption | rfl) (by first | assumption | rfl) (j_aload_n 1 dX3_takeStation_72 rfl (j_getI dX3_takeStation_73 fX3_30 (by first | assumption | rfl) (j_iload_n 2 dX3_takeStation_76 rfl (j_iastore m dX3_takeStation_77 e0 (by first | assumption | rfl) (by omega) ?_)))))
          simp only [upI, wr_4, wu_4]
          have e0 : wr I r (upR V 4 (upd (V 4) m s)) (r + 1) 4 = nI m := by rw [wr_1]; exact v1.trans em
          refine j_aload_n 1 dX3_takeStation_78 rfl (j_getR (b := r + 5) dX3_takeStation_79 fX3_21 rfl (by first | assumption | rfl) (by first | assumption | rfl) (j_aload_n 1 dX3_takeStation_82 rfl (j_getI dX3_takeStation_83 fX3_30 (by first | assumption | rfl) (j_iconst (v := 1) dX3_takeStation_86 rfl (j_iastore m dX3_takeStation_87 e0 (by first | assumption | rfl) (by omega) ?_)))))
          simp only [upI, wr_5, wu_5]
          refine j_aload_n 1 dX3_takeStation_88 rfl (j_dup dX3_takeStation_89 rfl (j_getI dX3_takeStation_90 fX3_30 (by first | assumption | rfl) (j_iconst (v := 1) dX3_takeStation_93 rfl (j_iadd dX3_takeStation_94 (j_putI dX3_takeStation_95 fX3_30 (by first | assumption | rfl) (j_vret dX3_takeStation_98 ?_))))))
          simp only [upI, wr_1, wu_1]
          refine hp _ ⟨?_, ?_, ?_, ?_, ?_, fun k hk => ?_, fun k hk => ?_, fun k hk => ?_, fun k hk => ?_⟩ rfl rfl
          · rw [upd_s]; show V 1 4 + 1 = _; rw [v1, em]
          · rw [upd_n (by omega), upd_n (by omega), upd_n (by omega)]; exact v2
          · rw [upd_n (by omega), upd_n (by omega), upd_n (by omega)]; exact v3
          · rw [upd_n (by omega), upd_n (by omega), upd_n (by omega)]; exact v4
          · rw [upd_n (by omega), upd_n (by omega), upd_n (by omega)]; exact v5
          · rw [upd_n (by omega), upd_n (by omega), upd_n (by omega)]; exact v6 k hk
          · rw [upd_n (by omega), upd_n (by omega), upd_n (by omega)]; exact v7 k hk
          · rw [upd_n (by omega), upd_n (by omega)]
            show upd (V 4) m s k = _
            by_cases e : k = m
            · subst e; rw [upd_s, upd_s]
            · rw [upd_n e, upd_n (by omega)]; exact v8 k hk
          · rw [upd_n (by omega)]
            show upd (V 5) m 1 k = _
            by_cases e : k = m
            · subst e; rw [upd_s, upd_s]
            · rw [upd_n e, upd_n (by omega), upd_n (by omega)]; exact v9 k hk
      have fin1 : q < m → JW g mX3_takeStation (rmO 1 0 0) (QM Post 0 0) 33 [(2, .int (nI q)), (0, .ref (r + 1)), (1, .int s)] [] 0 0 Z (wr I r V) L := by
        intro hlt
        rw [if_pos hlt] at hp
        obtain ⟨t, t1, t2, et⟩ := mt q hlt
        refine j_aload_n 1 dX3_takeStation_33 rfl (j_getR (b := r + 5) dX3_takeStation_34 fX3_21 rfl (by first | assumption | rfl) (by first | assumption | rfl) (j_iload_n 0 dX3_takeStation_37 rfl (j_aload_n 1 dX3_takeStation_38 rfl (j_getR (b := r + 5) dX3_takeStation_39 fX3_21 rfl (by first | assumption | rfl) (by first | assumption | rfl) (j_iload_n 0 dX3_takeStation_42 rfl (j_iaload q dX3_takeStation_43 (by first | assumption | rfl) (by first | assumption | rfl) (by omega) (j_iconst (v := 1) dX3_takeStation_44 rfl (j_iadd dX3_takeStation_45 (j_bipush (v := 99) dX3_takeStation_46 rfl (j_mmin dX3_takeStation_48 kX3_73 (j_iastore q dX3_takeStation_51 (by first | assumption | rfl) (by first | assumption | rfl) (by omega) (j_vret dX3_takeStation_52 ?_))))))))))))
        simp only [upI, wr_5, wu_5]
        refine hp _ ⟨?_, ?_, ?_, ?_, ?_, fun k hk => ?_, fun k hk => ?_, fun k hk => ?_, fun k hk => ?_⟩ rfl rfl
        · rw [upd_n (by omega)]; exact v1
        · rw [upd_n (by omega)]; exact v2
        · rw [upd_n (by omega)]; exact v3
        · rw [upd_n (by omega)]; exact v4
        · rw [upd_n (by omega)]; exact v5
        · rw [upd_n (by omega)]; exact v6 k hk
        · rw [upd_n (by omega)]; exact v7 k hk
        · rw [upd_n (by omega)]; exact v8 k hk
        · show upd (V 5) q _ k = _
          by_cases e : k = q
          · subst e
            rw [upd_s, upd_s, v9 k hk, et, nI_1]
            rcases Nat.lt_or_ge t 99 with z | z
            · rw [if_neg (show ¬ (99 : Int32) < nI (t + 1) from nI_nlt (a := 99) (b := t + 1) (by omega) (by decide)), if_pos (show nI t < 99 from nI_lt (b := 99) z (by decide)), nI_1]
            · have : t = 99 := by omega
              subst this
              rfl
          · rw [upd_n e, upd_n (by omega)]; exact v9 k hk
      have loop : ∀ (n k : Nat), k + n = m → fIx (fun k => decide (ρ (31 + k) = s)) n k = q → JW g mX3_takeStation (rmO 1 0 0) (QM Post 0 0) 15 [(2, .int (nI k)), (0, .ref (r + 1)), (1, .int s)] [] 0 0 Z (wr I r V) L := by
        intro n
        induction n with
        | zero =>
          intro k hk hf
          have hf : k = q := hf
          subst hf
          refine j_iload_n 0 dX3_takeStation_15 rfl (j_aload_n 1 dX3_takeStation_16 rfl (j_getI dX3_takeStation_17 fX3_30 (by first | assumption | rfl) (j_icmp_ge (tgt := 59) dX3_takeStation_20 rfl (fun h3 => ?_) (fun h3 => ?_))))
          · exact fin0 (by omega)
          · rw [wr_1, v1, em] at h3
            exact absurd (nI_le (by omega) (by omega)) h3
        | succ n ih =>
          intro k hk hf
          unfold fIx at hf
          refine j_iload_n 0 dX3_takeStation_15 rfl (j_aload_n 1 dX3_takeStation_16 rfl (j_getI dX3_takeStation_17 fX3_30 (by first | assumption | rfl) (j_icmp_ge (tgt := 59) dX3_takeStation_20 rfl (fun h3 => ?_) (fun h3 => ?_))))
          · rw [wr_1, v1, em] at h3
            exact absurd h3 (nI_ge (by omega) (by omega))
          · refine j_aload_n 1 dX3_takeStation_23 rfl (j_getR (b := r + 4) dX3_takeStation_24 fX3_18 rfl (by first | assumption | rfl) (by first | assumption | rfl) (j_iload_n 0 dX3_takeStation_27 rfl (j_iaload k dX3_takeStation_28 (by first | assumption | rfl) (by first | assumption | rfl) (by omega) (j_iload_n 2 dX3_takeStation_29 rfl (j_icmp_ne (tgt := 53) dX3_takeStation_30 rfl (fun h4 => ?_) (fun h4 => ?_))))))
            · rw [wr_4, v8 k (by omega)] at h4
              rw [if_neg (by simpa using h4)] at hf
              refine j_iinc (y := 1) (lv' := [(2, _), (0, _), (1, _)]) 0 dX3_takeStation_53 rfl rfl rfl (j_goto (tgt := 15) dX3_takeStation_56 rfl ?_)
              rw [nI_1]
              exact JW.locals [0, 1, 2] rfl (ih (k + 1) (by omega) hf)
            · rw [wr_4, v8 k (by omega)] at h4
              rw [if_pos (by simpa using h4)] at hf
              subst hf
              exact fin1 (by omega)
      refine j_iconst (v := 0) dX3_takeStation_13 rfl (j_istore_n (lv' := [(2, _), (0, _), (1, _)]) dX3_takeStation_14 rfl ?_)
      exact JW.locals [0, 1, 2] rfl (loop m 0 (by omega) hq)
    · rw [if_neg (fun z => h2 z.2)] at hp
      refine j_vret dX3_takeStation_12 ?_
      exact hp _ hV rfl rfl
set_option maxHeartbeats 1000000 in
theorem c_takeGroup {g : GT} {Z : ZT} {I : IT} {L : LT} {Post : PT} {r : Nat} {V : IT} {ρ : RT} (hZ : isR Z r) (hV : SHW V ρ) (hP : ∀ k, k < 4 → V 6 k = ρ (18 + k)) (hok : OKp ρ) (hli : OKL ρ) (hp : ∀ V', SHW V' (laF ρ) → V' 0 = V 0 → V' 6 = V 6 → Post none Z (wr I r V') L) : CM g 3 0 0 mX3_takeGroup [.ref (r + 1), .ref (r + 6)] Z (wr I r V) L Post := by
  obtain ⟨z1, z2, z3, z4, z5, z6, z7, z8, z9, z10, z11, z12, z13, z14, z15, z16, z17, z18⟩ := id hZ
  have hok1 := hok.l1
  have hli1 : OKL (l1F ρ) := hli.cong (fun j hj => l1F_n (by omega) (by omega))
  refine CM_intro ?_
  refine j_aload_n 0 dX3_takeGroup_0 rfl (j_aload_n 1 dX3_takeGroup_1 rfl (j_iconst (v := 0) dX3_takeGroup_2 rfl (j_iaload 0 dX3_takeGroup_3 (by first | assumption | rfl) (by first | assumption | rfl) (by omega) ?_)))
  rw [wr_6, show V 6 0 = ρ 18 from hP 0 (by decide)]
  refine j_V1 dX3_takeGroup_4 kX3_55 (by first | assumption | rfl) (c_takeProgram hZ hV ?_)
  intro V1 hV1 q0 q6
  have hP1 : ∀ k, k < 4 → V1 6 k = l1F ρ (18 + k) := fun k hk => by rw [q6, l1F_n (by omega) (by omega)]; exact hP k hk
  have hp : ∀ V', SHW V' (l2F (l1F ρ)) → V' 0 = V1 0 → V' 6 = V1 6 → Post none Z (wr I r V') L := fun V' h1 h2 h3 => hp V' h1 (h2.trans q0) (h3.trans q6)
  clear hP hV hok hli q0 q6
  generalize l1F ρ = σ at hok1 hli1 hV1 hP1 hp
  unfold l2F at hp
  have p1 : V1 6 1 = σ 19 := hP1 1 (by decide)
  have p2 : V1 6 2 = σ 20 := hP1 2 (by decide)
  have p3 : V1 6 3 = σ 21 := hP1 3 (by decide)
  have t2 : ptI (σ 20) := hok1 2 (by decide)
  have t3 : ptI (σ 21) := hok1 3 (by decide)
  refine j_aload_n 1 dX3_takeGroup_7 rfl (j_iconst (v := 1) dX3_takeGroup_8 rfl (j_iaload 1 dX3_takeGroup_9 (by first | assumption | rfl) (by first | assumption | rfl) (by omega) (j_bipush (v := -9) dX3_takeGroup_10 rfl (j_icmp_ne (tgt := 16) dX3_takeGroup_12 rfl (fun h1 => ?_) (fun h1 => ?_)))))
  · rw [wr_6, p1] at h1
    rw [if_neg h1] at hp
    obtain ⟨b, hb, eb⟩ : ∃ p, p < 256 ∧ σ 19 = nI p := by
      rcases hok1 1 (by decide) with z | z
      · exact absurd z h1
      · exact z
    rw [eb, nN_nI (show b < 2 ^ 31 by omega)] at hp
    refine j_aload_n 1 dX3_takeGroup_16 rfl (j_iconst (v := 1) dX3_takeGroup_17 rfl (j_iaload 1 dX3_takeGroup_18 (by first | assumption | rfl) (by first | assumption | rfl) (by omega) (j_bipush (v := 63) dX3_takeGroup_19 rfl (j_iand dX3_takeGroup_21 (j_istore_n (lv' := [(2, _), (0, _), (1, _)]) dX3_takeGroup_22 rfl (j_aload_n 2 dX3_takeGroup_23 rfl (j_iconst (v := 1) dX3_takeGroup_24 rfl (j_iaload 1 dX3_takeGroup_25 (by first | assumption | rfl) (by first | assumption | rfl) (by omega) (j_bipush (v := 6) dX3_takeGroup_26 rfl (j_ishr dX3_takeGroup_28 ?_))))))))))
    rw [wr_6, p1, eb, show (6 : Int32) = nI 6 from rfl, shrI (by omega) (by decide), and63, show b / 2 ^ 6 = b / 64 from rfl]
    have hq : b / 64 = 0 ∨ b / 64 = 1 ∨ b / 64 = 2 ∨ b / 64 = 3 := by omega
    rcases hq with hq | hq | hq | hq
    · rw [if_pos hq] at hp
      rw [hq]
      refine j_tsIn (tgt := 56) dX3_takeGroup_29 (by decide) (by decide) rfl rfl ?_
      refine j_aload_n 1 dX3_takeGroup_56 rfl (j_iload_n 0 dX3_takeGroup_57 rfl (j_iconst (v := 3) dX3_takeGroup_58 rfl (j_iand dX3_takeGroup_59 (j_aload_n 2 dX3_takeGroup_60 rfl (j_iconst (v := 2) dX3_takeGroup_61 rfl (j_iaload 2 dX3_takeGroup_62 (by first | assumption | rfl) (by first | assumption | rfl) (by omega) (j_aload_n 2 dX3_takeGroup_63 rfl (j_iconst (v := 3) dX3_takeGroup_64 rfl (j_iaload 3 dX3_takeGroup_65 (by first | assumption | rfl) (by first | assumption | rfl) (by omega) ?_)))))))))
      rw [wr_6, p2, p3, and3, show b % 64 % 4 = b % 4 by omega]
      refine j_V3 dX3_takeGroup_66 kX3_59 (by first | assumption | rfl) (c_cTakePair hZ hV1 (Nat.mod_lt _ (by decide)) ?_)
      intro V2 g1 g2 g3
      refine j_goto (tgt := 109) dX3_takeGroup_69 rfl (j_vret dX3_takeGroup_109 ?_)
      exact hp _ g1 g2 g3
    · rw [if_neg (by omega), if_pos hq] at hp
      rw [hq]
      refine j_tsIn (tgt := 72) dX3_takeGroup_29 (by decide) (by decide) rfl rfl ?_
      refine j_aload_n 1 dX3_takeGroup_72 rfl (j_aload_n 2 dX3_takeGroup_73 rfl (j_iconst (v := 2) dX3_takeGroup_74 rfl (j_iaload 2 dX3_takeGroup_75 (by first | assumption | rfl) (by first | assumption | rfl) (by omega) (j_aload_n 2 dX3_takeGroup_76 rfl (j_iconst (v := 3) dX3_takeGroup_77 rfl (j_iaload 3 dX3_takeGroup_78 (by first | assumption | rfl) (by first | assumption | rfl) (by omega) ?_))))))
      rw [wr_6, p2, p3]
      refine j_V2 dX3_takeGroup_79 kX3_63 (by first | assumption | rfl) (c_takeClock hZ hV1 t2 t3 ?_)
      intro V2 g1 g2 g3
      refine j_goto (tgt := 109) dX3_takeGroup_82 rfl (j_vret dX3_takeGroup_109 ?_)
      exact hp _ g1 g2 g3
    · rw [if_neg (by omega), if_neg (by omega), if_pos hq] at hp
      rw [hq]
      refine j_tsIn (tgt := 85) dX3_takeGroup_29 (by decide) (by decide) rfl rfl ?_
      refine j_aload_n 1 dX3_takeGroup_85 rfl (j_aload_n 2 dX3_takeGroup_86 rfl (j_iconst (v := 2) dX3_takeGroup_87 rfl (j_iaload 2 dX3_takeGroup_88 (by first | assumption | rfl) (by first | assumption | rfl) (by omega) ?_)))
      rw [wr_6, p2]
      refine j_V1 dX3_takeGroup_89 kX3_67 (by first | assumption | rfl) (c_takeStation hZ hV1 hli1 ?_)
      intro V2 g1 g2 g3
      refine j_aload_n 1 dX3_takeGroup_92 rfl (j_aload_n 2 dX3_takeGroup_93 rfl (j_iconst (v := 3) dX3_takeGroup_94 rfl (j_iaload 3 dX3_takeGroup_95 (by first | assumption | rfl) (by first | assumption | rfl) (by omega) ?_)))
      rw [wr_6, g3, p3]
      refine j_V1 dX3_takeGroup_96 kX3_67 (by first | assumption | rfl) (c_takeStation hZ g1 (hli1.ho _) ?_)
      intro V3 f1 f2 f3
      refine j_goto (tgt := 109) dX3_takeGroup_99 rfl (j_vret dX3_takeGroup_109 ?_)
      exact hp _ f1 (f2.trans g2) (f3.trans g3)
    · rw [if_neg (by omega), if_neg (by omega), if_neg (by omega)] at hp
      rw [hq]
      refine j_tsOut (tgt := 102) dX3_takeGroup_29 (Or.inr (by decide)) rfl ?_
      refine j_aload_n 1 dX3_takeGroup_102 rfl (j_iload_n 0 dX3_takeGroup_103 rfl (j_iconst (v := 1) dX3_takeGroup_104 rfl (j_iand dX3_takeGroup_105 ?_)))
      rw [and1, show b % 64 % 2 = b % 2 by omega]
      refine j_V1 dX3_takeGroup_106 kX3_70 (by first | assumption | rfl) (c_cTakeFlag hZ hV1 ?_)
      intro V2 g1 g2 g3
      refine j_vret dX3_takeGroup_109 ?_
      exact hp _ g1 g2 g3
  · rw [wr_6, p1] at h1
    rw [if_pos h1] at hp
    refine j_vret dX3_takeGroup_15 ?_
    exact hp _ hV1 rfl rfl
