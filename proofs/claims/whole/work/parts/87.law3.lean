theorem w_loop {g : GT} {nm : String} {Qf : QF} {Z : ZT} (hX : isX Z) (hM : isM Z) (hg : g.2.1 ≤ 2560) (hend : ∀ (i : Nat) (I : IT) (L : LT), JW g (mLw nm) room_1 Qf 1211 [(3, .int (nI i)), (2, .ref 198), (1, .ref 0), (0, .ref 1001)] [] 213 2924 Z I L) : ∀ (m i : Nat) (I : IT) (L : LT), i ≤ 2560 → g.2.1 < i + m → RSt I L → JW g (mLw nm) room_1 Qf 18 [(3, .int (nI i)), (2, .ref 198), (1, .ref 0), (0, .ref 1001)] [] 213 2924 Z I L := by
  intro m
  induction m with
  | zero =>
    intro i I L hi hm hs
    refine j_iload_n 0 dL_law_18 rfl (j_aload_n 3 dL_law_19 rfl (j_salen dL_law_20 (j_iconst (v := 5) dL_law_21 rfl (j_isub dL_law_22 ?_))))
    refine j_icmp_gt (tgt := 1211) dL_law_23 rfl (fun g1 => ?_) (fun g1 => ?_)
    · exact hend i I L
    · refine absurd ?_ g1
      rw [i32_lt, nI_toInt (by omega)]
      have := pk_sub_toInt (a := g.2.1) (b := 5) (by omega) (by decide)
      rw [show nI g.2.1 - (5 : Int32) = nI g.2.1 - nI 5 from rfl]
      omega
  | succ m ih =>
    intro i I L hi hm hs
    refine j_iload_n 0 dL_law_18 rfl (j_aload_n 3 dL_law_19 rfl (j_salen dL_law_20 (j_iconst (v := 5) dL_law_21 rfl (j_isub dL_law_22 ?_))))
    refine j_icmp_gt (tgt := 1211) dL_law_23 rfl (fun g1 => ?_) (fun g1 => ?_)
    · exact hend i I L
    · have hi5 : i + 5 ≤ g.2.1 := by
        rw [i32_lt, nI_toInt (by omega)] at g1
        have := pk_sub_toInt (a := g.2.1) (b := 5) (by omega) (by decide)
        rw [show nI g.2.1 - (5 : Int32) = nI g.2.1 - nI 5 from rfl] at g1
        omega
      have hg31 : g.2.1 < 2 ^ 31 := by omega
      have next : ∀ I' L', RSt I' L' → JW g (mLw nm) room_1 Qf 1205 [(3, .int (nI i)), (2, .ref 198), (1, .ref 0), (0, .ref 1001)] [] 213 2924 Z I' L' := by
        intro I' L' hs'
        refine j_iinc (hn := Nat.le_of_ble_eq_true rfl) (y := 5) (lv' := [(3, _), (2, _), (1, _), (0, _)]) 0 dL_law_1205 rfl rfl rfl (j_goto (tgt := 18) dL_law_1208 rfl ?_)
        rw [show nI i + (5 : Int32) = nI (i + 5) from nI_add i 5]
        exact ih (i + 5) I' L' (by omega) (by omega) hs'
      refine j_aload_n 3 dL_law_26 rfl (j_iload_n 0 dL_law_27 rfl (j_saload i dL_law_28 rfl (by omega) (by omega) (j_bipush (v := 63) dL_law_29 rfl (j_iand dL_law_31 ?_))))
      obtain ⟨j, hj, e⟩ := pk_andE (g.2.2 i) (m := 63) 6 rfl
      rw [e]
      have hj : j < 64 := hj
      have h33 : j = 0 ∨ j = 1 ∨ j = 2 ∨ j = 3 ∨ j = 4 ∨ j = 5 ∨ j = 6 ∨ j = 7 ∨ j = 8 ∨ j = 9 ∨ j = 10 ∨ j = 11 ∨ j = 12 ∨ j = 13 ∨ j = 14 ∨ j = 15 ∨ j = 16 ∨ j = 17 ∨ j = 18 ∨ j = 19 ∨ j = 20 ∨ j = 21 ∨ j = 22 ∨ j = 23 ∨ j = 24 ∨ j = 25 ∨ j = 26 ∨ j = 27 ∨ j = 28 ∨ j = 29 ∨ j = 30 ∨ j = 31 ∨ j = 32 ∨ 33 ≤ j := by omega
      rcases h33 with e9 | e9 | e9 | e9 | e9 | e9 | e9 | e9 | e9 | e9 | e9 | e9 | e9 | e9 | e9 | e9 | e9 | e9 | e9 | e9 | e9 | e9 | e9 | e9 | e9 | e9 | e9 | e9 | e9 | e9 | e9 | e9 | e9 | e9
      · subst e9
        exact j_tsIn (tgt := 180) dL_law_32 (by decide) (by decide) rfl rfl (w_write hX hM hi5 hg31 hs next)
      · subst e9
        exact j_tsIn (tgt := 203) dL_law_32 (by decide) (by decide) rfl rfl (w_wipe hX hM hi5 hg31 hs next)
      · subst e9
        exact j_tsIn (tgt := 216) dL_law_32 (by decide) (by decide) rfl rfl (w_fault hX hM hi5 hg31 hs next)
      · subst e9
        exact j_tsIn (tgt := 229) dL_law_32 (by decide) (by decide) rfl rfl (w_station hX hM hi5 hg31 hs next)
      · subst e9
        exact j_tsIn (tgt := 242) dL_law_32 (by decide) (by decide) rfl rfl (w_about hX hM hi5 hg31 hs next)
      · subst e9
        exact j_tsIn (tgt := 265) dL_law_32 (by decide) (by decide) rfl rfl (w_offset hX hM hi5 hg31 hs next)
      · subst e9
        exact j_tsIn (tgt := 288) dL_law_32 (by decide) (by decide) rfl rfl (w_told hX hM hi5 hg31 hs next)
      · subst e9
        exact j_tsIn (tgt := 311) dL_law_32 (by decide) (by decide) rfl rfl (w_part hX hM hi5 hg31 hs next)
      · subst e9
        exact j_tsIn (tgt := 334) dL_law_32 (by decide) (by decide) rfl rfl (w_name hX hM hi5 hg31 hs next)
      · subst e9
        exact j_tsIn (tgt := 383) dL_law_32 (by decide) (by decide) rfl rfl (w_list hX hM hi5 hg31 hs next)
      · subst e9
        exact j_tsIn (tgt := 432) dL_law_32 (by decide) (by decide) rfl rfl (w_word hX hM hi5 hg31 hs next)
      · subst e9
        exact j_tsIn (tgt := 465) dL_law_32 (by decide) (by decide) rfl rfl (w_rest hX hM hi5 hg31 hs next)
      · subst e9
        exact j_tsIn (tgt := 498) dL_law_32 (by decide) (by decide) rfl rfl (w_mended hX hM hi5 hg31 hs next)
      · subst e9
        exact j_tsIn (tgt := 531) dL_law_32 (by decide) (by decide) rfl rfl (w_distance hX hM hi5 hg31 hs next)
      · subst e9
        exact j_tsIn (tgt := 544) dL_law_32 (by decide) (by decide) rfl rfl (w_flips hX hM hi5 hg31 hs next)
      · subst e9
        exact j_tsIn (tgt := 577) dL_law_32 (by decide) (by decide) rfl rfl (w_slips hX hM hi5 hg31 hs next)
      · subst e9
        exact j_tsIn (tgt := 620) dL_law_32 (by decide) (by decide) rfl rfl (w_bits hX hM hi5 hg31 hs next)
      · subst e9
        exact j_tsIn (tgt := 653) dL_law_32 (by decide) (by decide) rfl rfl (w_hear hX hM hi5 hg31 hs next)
      · subst e9
        exact j_tsIn (tgt := 696) dL_law_32 (by decide) (by decide) rfl rfl (w_group hX hM hi5 hg31 hs next)
      · subst e9
        exact j_tsIn (tgt := 729) dL_law_32 (by decide) (by decide) rfl rfl (w_reset hX hM hi5 hg31 hs next)
      · subst e9
        exact j_tsIn (tgt := 742) dL_law_32 (by decide) (by decide) rfl rfl (w_undo hX hM hi5 hg31 hs next)
      · subst e9
        exact j_tsIn (tgt := 755) dL_law_32 (by decide) (by decide) rfl rfl (w_ahead hX hM hi5 hg31 hs next)
      · subst e9
        exact j_tsIn (tgt := 798) dL_law_32 (by decide) (by decide) rfl rfl (w_needs hX hM hi5 hg31 hs next)
      · subst e9
        exact j_tsIn (tgt := 821) dL_law_32 (by decide) (by decide) rfl rfl (w_judge hX hM hi5 hg31 hs next)
      · subst e9
        exact j_tsIn (tgt := 884) dL_law_32 (by decide) (by decide) rfl rfl (w_see hX hM hi5 hg31 hs next)
      · subst e9
        exact j_tsIn (tgt := 927) dL_law_32 (by decide) (by decide) rfl rfl (w_unsee hX hM hi5 hg31 hs next)
      · subst e9
        exact j_tsIn (tgt := 940) dL_law_32 (by decide) (by decide) rfl rfl (w_which hX hM hi5 hg31 hs next)
      · subst e9
        exact j_tsIn (tgt := 954) dL_law_32 (by decide) (by decide) rfl rfl (w_share hX hM hi5 hg31 hs next)
      · subst e9
        exact j_tsIn (tgt := 1013) dL_law_32 (by decide) (by decide) rfl rfl (w_chance hX hM hi5 hg31 hs next)
      · subst e9
        exact j_tsIn (tgt := 1082) dL_law_32 (by decide) (by decide) rfl rfl (w_seed hX hM hi5 hg31 hs next)
      · subst e9
        exact j_tsIn (tgt := 1136) dL_law_32 (by decide) (by decide) rfl rfl (w_drawn hX hM hi5 hg31 hs next)
      · subst e9
        exact j_tsIn (tgt := 1159) dL_law_32 (by decide) (by decide) rfl rfl (w_keep hX hM hi5 hg31 hs next)
      · subst e9
        exact j_tsIn (tgt := 1182) dL_law_32 (by decide) (by decide) rfl rfl (w_again hX hM hi5 hg31 hs next)
      · refine j_tsOut (tgt := 1205) dL_law_32 (Or.inr ?_) rfl (next I L hs)
        rw [nI_toInt (by omega)]
        omega
theorem w_all {g : GT} {nm : String} {Qf : QF} {Z : ZT} {I : IT} {L : LT} (hg : g.2.1 ≤ 2560) (hkk : okK Z) (hn : zN Z = 0) (hend : ∀ (Z' : ZT) (i : Nat) (I : IT) (L : LT), JW g (mLw nm) room_1 Qf 1211 [(3, .int (nI i)), (2, .ref 198), (1, .ref 0), (0, .ref 1001)] [] 213 2924 Z' I L) : JW g (mLw nm) room_1 Qf 0 [(0, .ref 1001)] [] 0 0 Z I L := by
  refine j_new2 (n := 0) (ci := 5) hn dL_law_0 (nwd5 clL_7) (by decide) hkk (rfr (by omega) rfn) (by decide) ⟨Nat.le_of_ble_eq_true rfl, Nat.le_of_ble_eq_true rfl⟩ (fun Z1 z1 n1 p1 => ?_)
  refine j_dup dL_law_3 rfl ?_
  refine j_I (a := 0) (d := 6) (mc := 197) (ms := 1833) (as := []) (st := [.ref 0]) dL_law_4 kL_9 rfl rfl (Or.inr (rf_of (rfr (by omega) (rfr (by omega) rfn)))) (Nat.le_of_ble_eq_true rfl) (Nat.le_of_ble_eq_true rfl) ⟨Nat.le_of_ble_eq_true rfl, Nat.le_of_ble_eq_true rfl⟩ (Nat.le_of_ble_eq_true rfl) (c_xInit z1.2.1 n1 p1 (fun Z2 I2 L2 z2 n2 hX sc => ?_))
  refine j_astore_n (hn := Nat.le_of_ble_eq_true rfl) (lv' := [(1, _), (0, _)]) dL_law_7 rfl ?_
  refine j_new2 (n := 198) (ci := 6) n2 dL_law_8 (nwd6 clL_10) (by decide) z2.2.1 (rfr (by omega) (rfr (by omega) rfn)) (by decide) ⟨Nat.le_of_ble_eq_true rfl, Nat.le_of_ble_eq_true rfl⟩ (fun Z3 z3 n3 p3 => ?_)
  refine j_dup dL_law_11 rfl ?_
  refine j_I (a := 198) (d := 3) (mc := 14) (ms := 1052) (as := []) (st := [.ref 198]) dL_law_12 kL_12 rfl rfl (Or.inr (rf_of (rfr (by omega) (rfr (by omega) (rfr (by omega) rfn))))) (Nat.le_of_ble_eq_true rfl) (Nat.le_of_ble_eq_true rfl) ⟨Nat.le_of_ble_eq_true rfl, Nat.le_of_ble_eq_true rfl⟩ (Nat.le_of_ble_eq_true rfl) (c_mInit z3.2.1 n3 p3 (upR_s _ _ _) (upL_s _ _ _) (fun Z4 I4 L4 z4 hM e4 l4 sm => ?_))
  have hX4 := (hX.zm z3 (by omega)).zm z4 (by omega)
  have hs : RSt I4 L4 := ⟨_, _, _, _, _, _, _, _, _, sc.eqC (fun a ha => by rw [e4 a ha, upR_n (by omega)]) (by rw [l4 0 (by decide), upL_n (by decide)]), sm, OKs0⟩
  refine j_astore_n (hn := Nat.le_of_ble_eq_true rfl) (lv' := [(2, _), (1, _), (0, _)]) dL_law_15 rfl (j_iconst (v := 0) dL_law_16 rfl (j_istore_n (hn := Nat.le_of_ble_eq_true rfl) (lv' := [(3, _), (2, _), (1, _), (0, _)]) dL_law_17 rfl ?_))
  exact JW.locals [0, 1, 2, 3] rfl (w_loop hX4 hM hg (hend Z4) 2561 0 I4 L4 (by omega) (by omega) hs)
