/-- THE TEXT by places: letters t, of which n stand -/
def nuN (t : Nat → Nat) (i : Nat) : Nat := 10 * (t i - 48) + (t (i + 1) - 48)
def noN (t : Nat → Nat) (v : Nat) : Nat → Bool
  | 0 => true
  | k + 1 => noN t v k && decide (nuN t (3 + 2 * k) ≠ v)
def digB (t : Nat → Nat) (i : Nat) : Prop := 48 ≤ t i ∧ t i ≤ 57
def enB (t : Nat → Nat) (i : Nat) : Bool := decide (nuN t (i - 1) ≤ 63) && (if i < 3 then decide (nuN t (i - 1) % 2 = 1) else noN t (nuN t (i - 1)) ((i - 4) / 2))
def fitN (t : Nat → Nat) (i : Nat) : Bool :=
  if i = 0 then decide (t 0 = 83) else decide (48 ≤ t i) && (decide (t i ≤ 57) && (if i = 11 then decide (t i - 48 ≤ 3) else if i = 12 then decide (1 ≤ t i - 48) else if i % 2 = 1 then decide (t i - 48 ≤ 6) else enB t i))
theorem fitN_dig {t : Nat → Nat} {i : Nat} (hi : i ≠ 0) (h : fitN t i = true) : digB t i := by
  unfold fitN at h
  rw [if_neg hi, Bool.and_eq_true, Bool.and_eq_true] at h
  exact ⟨of_decide_eq_true h.1, of_decide_eq_true h.2.1⟩
theorem noN_f {t : Nat → Nat} {v o : Nat} (e : nuN t (3 + 2 * o) = v) : ∀ {k}, o < k → noN t v k = false
  | 0, h => absurd h (Nat.not_lt_zero _)
  | k + 1, h => by
    show (noN t v k && decide (nuN t (3 + 2 * k) ≠ v)) = false
    rcases Nat.lt_or_ge o k with z | z
    · rw [noN_f e z]; rfl
    · have : o = k := by omega
      subst this
      rw [decide_eq_false (fun z => z e), Bool.and_false]
def fauF (t : Nat → Nat) (n : Nat) : Int32 := if fIx (fun i => !fitN t i) (min n 13) 0 < min n 13 then nI (fIx (fun i => !fitN t i) (min n 13) 0) else if n = 13 then -9 else nI (min n 13)
def TX (I : IT) (a b : Nat) (j : Nat) (t : Nat → Nat) (n : Nat) : Prop := n ≤ 40 ∧ I a j = nI n ∧ (∀ i, i < 40 → I b i = nI (t i)) ∧ (∀ i, i < 40 → t i ≤ 255)
def isTx (Z : ZT) : Prop := zK Z 1 = 4 ∧ zS Z 1 0 = true ∧ zK Z 2 = 7 ∧ zL Z 2 = 40
theorem sub48 {a : Nat} (h : 48 ≤ a) : nI a - (48 : Int32) = nI (a - 48) := by
  have : nI a = nI (a - 48) + (48 : Int32) := by rw [show (48 : Int32) = nI 48 from rfl, nI_add]; exact congrArg nI (by omega)
  rw [this, Int32.add_sub_cancel]
theorem sub48n : ∀ {a : Nat}, a < 48 → nI a - (48 : Int32) < 0 := by decide
theorem c_figureAt {g : GT} {Z : ZT} {I : IT} {L : LT} {Post : PT} {i n : Nat} {t : Nat → Nat} (hZ : isTx Z) (hT : TX I 1 2 1 t n) (hi : i < 40) (hp : Post (some (.int (nI (t i) - 48))) Z I L) : CM g 0 0 0 mX4_figureAt [.ref 1, .int (nI i)] Z I L Post := by
  obtain ⟨z1, z2, z3, z4⟩ := id hZ
  refine CM_intro ?_
  refine j_aload_n 0 dX4_figureAt_0 rfl (j_getR (b := 2) dX4_figureAt_1 fX4_11 rfl (by first | assumption | rfl) (by first | assumption | rfl) (j_iload_n 1 dX4_figureAt_4 rfl (j_iaload i dX4_figureAt_5 (by first | assumption | rfl) (by first | assumption | rfl) (by omega) (j_bipush (v := 48) dX4_figureAt_6 rfl (j_isub dX4_figureAt_8 (j_iret dX4_figureAt_9 ?_))))))
  rw [hT.2.2.1 i hi]
  exact hp
theorem c_numberAt {g : GT} {Z : ZT} {I : IT} {L : LT} {Post : PT} {i n : Nat} {t : Nat → Nat} (hZ : isTx Z) (hT : TX I 1 2 1 t n) (hi : i + 1 < 40) (h1 : 48 ≤ t i) (h2 : 48 ≤ t (i + 1)) (hp : Post (some (.int (nI (nuN t i)))) Z I L) : CM g 1 0 0 mX4_numberAt [.ref 1, .int (nI i)] Z I L Post := by
  obtain ⟨z1, z2, z3, z4⟩ := id hZ
  refine CM_intro ?_
  refine j_bipush (v := 10) dX4_numberAt_0 rfl (j_aload_n 0 dX4_numberAt_2 rfl (j_iload_n 1 dX4_numberAt_3 rfl (j_V1 dX4_numberAt_4 kX4_29 (by first | assumption | rfl) (c_figureAt hZ hT (by omega) ?_))))
  refine j_imul dX4_numberAt_7 (j_aload_n 0 dX4_numberAt_8 rfl (j_iload_n 1 dX4_numberAt_9 rfl (j_iconst (v := 1) dX4_numberAt_10 rfl (j_iadd dX4_numberAt_11 ?_))))
  rw [nI_1]
  refine j_V1 dX4_numberAt_12 kX4_29 (by first | assumption | rfl) (c_figureAt hZ hT hi ?_)
  refine j_iadd dX4_numberAt_15 (j_iret dX4_numberAt_16 ?_)
  rw [sub48 h1, sub48 h2, show (10 : Int32) * nI (t i - 48) = nI (10 * (t i - 48)) from pk_mul 10 _, nI_add]
  exact hp
theorem c_add {g : GT} {Z : ZT} {I : IT} {L : LT} {Post : PT} {l n : Nat} {t : Nat → Nat} (hZ : isTx Z) (hT : TX I 1 2 1 t n) (hl : l ≤ 255) (hf : n = 40 → Post (some (.int 0)) Z I L) (hp : n < 40 → Post (some (.int 1)) Z (upI (upI I 2 n (nI l)) 1 1 (nI (n + 1))) L) : CM g 0 0 0 mX4_add [.ref 1, .int (nI l)] Z I L Post := by
  obtain ⟨z1, z2, z3, z4⟩ := id hZ
  obtain ⟨t1, t2, t3, t4⟩ := id hT
  refine CM_intro ?_
  refine j_aload_n 0 dX4_add_0 rfl (j_getI dX4_add_1 fX4_15 (by first | assumption | rfl) (j_bipush (v := 40) dX4_add_4 rfl (j_icmp_lt (tgt := 11) dX4_add_6 rfl (fun h1 => ?_) (fun h1 => ?_))))
  · rw [t2] at h1
    have hn : n < 40 := by
      rcases Nat.lt_or_ge n 40 with z | z
      · exact z
      · exact absurd h1 (nI_nlt (b := 40) z (by omega))
    refine j_aload_n 0 dX4_add_11 rfl (j_getR (b := 2) dX4_add_12 fX4_11 rfl (by first | assumption | rfl) (by first | assumption | rfl) (j_aload_n 0 dX4_add_15 rfl (j_getI dX4_add_16 fX4_15 (by first | assumption | rfl) (j_iload_n 1 dX4_add_19 rfl (j_iastore n dX4_add_20 t2 (by first | assumption | rfl) (by omega) (j_aload_n 0 dX4_add_21 rfl (j_dup dX4_add_22 rfl (j_getI dX4_add_23 fX4_15 (by first | assumption | rfl) (j_iconst (v := 1) dX4_add_26 rfl (j_iadd dX4_add_27 ?_))))))))))
    rw [show (upI I 2 n (nI l)) 1 1 = nI n from t2, nI_1]
    refine j_putI dX4_add_28 fX4_15 (by first | assumption | rfl) (j_iconst (v := 1) dX4_add_31 rfl (j_zret dX4_add_32 (by decide) ?_))
    exact hp hn
  · rw [t2] at h1
    have hn : n = 40 := by
      rcases Nat.lt_or_ge n 40 with z | z
      · exact absurd (nI_lt (b := 40) z (by decide)) h1
      · omega
    refine j_iconst (v := 0) dX4_add_9 rfl (j_zret dX4_add_10 (by decide) ?_)
    exact hf hn
theorem c_endsNumber {g : GT} {Z : ZT} {I : IT} {L : LT} {Post : PT} {i n : Nat} {t : Nat → Nat} (hZ : isTx Z) (hT : TX I 1 2 1 t n) (hi : i = 2 ∨ i = 4 ∨ i = 6 ∨ i = 8 ∨ i = 10) (hd : ∀ j, 1 ≤ j → j ≤ i → digB t j) (hp : Post (some (.int (if enB t i = true then 1 else 0))) Z I L) : CM g 2 0 0 mX4_endsNumber [.ref 1, .int (nI i)] Z I L Post := by
  obtain ⟨z1, z2, z3, z4⟩ := id hZ
  refine CM_intro ?_
  have e1 : nI i - (1 : Int32) = nI (i - 1) := pk_sub (b := 1) (by omega)
  have hu : nuN t (i - 1) < 2 ^ 31 := by
    have a := hd (i - 1) (by omega) (by omega)
    have b := hd (i - 1 + 1) (by omega) (by omega)
    unfold nuN digB at *
    omega
  refine j_aload_n 0 dX4_endsNumber_0 rfl (j_iload_n 1 dX4_endsNumber_1 rfl (j_iconst (v := 1) dX4_endsNumber_2 rfl (j_isub dX4_endsNumber_3 ?_)))
  rw [e1]
  refine j_V1 dX4_endsNumber_4 kX4_36 (by first | assumption | rfl) (c_numberAt hZ hT (by omega) (hd (i - 1) (by omega) (by omega)).1 (hd (i - 1 + 1) (by omega) (by omega)).1 ?_)
  unfold enB at hp
  generalize hv : nuN t (i - 1) = v at hp hu ⊢
  refine j_istore_n (lv' := [(2, _), (0, _), (1, _)]) dX4_endsNumber_7 rfl (j_iload_n 0 dX4_endsNumber_8 rfl (j_bipush (v := 63) dX4_endsNumber_9 rfl (j_icmp_le (tgt := 16) dX4_endsNumber_11 rfl (fun h1 => ?_) (fun h1 => ?_))))
  · have hv63 : v ≤ 63 := by
      rcases Nat.lt_or_ge 63 v with z | z
      · exact absurd h1 (nI_ge (a := 63) z hu)
      · exact z
    rw [decide_eq_true hv63, Bool.true_and] at hp
    refine j_iload_n 2 dX4_endsNumber_16 rfl (j_iconst (v := 3) dX4_endsNumber_17 rfl (j_icmp_ge (tgt := 34) dX4_endsNumber_18 rfl (fun h2 => ?_) (fun h2 => ?_)))
    · have h3 : ¬ i < 3 := fun z => absurd h2 (nI_ge (b := 3) z (by decide))
      rw [if_neg h3] at hp
      have loop : ∀ (m k : Nat), k + m = (i - 4) / 2 → noN t v k = true → JW g mX4_endsNumber (rmO 2 0 0) (QM Post 0 0) 36 [(3, .int (nI (3 + 2 * k))), (2, .int (nI v)), (0, .ref 1), (1, .int (nI i))] [] 0 0 Z I L := by
        intro m
        induction m with
        | zero =>
          intro k hk hn
          have : k = (i - 4) / 2 := by omega
          subst this
          refine j_iload_n 0 dX4_endsNumber_36 rfl (j_iload_n 3 dX4_endsNumber_37 rfl (j_iconst (v := 1) dX4_endsNumber_38 rfl (j_isub dX4_endsNumber_39 (j_icmp_ge (tgt := 60) dX4_endsNumber_40 rfl (fun h4 => ?_) (fun h4 => ?_)))))
          · refine j_iconst (v := 1) dX4_endsNumber_60 rfl (j_zret dX4_endsNumber_61 (by decide) ?_)
            rw [hn] at hp
            exact hp
          · rw [e1] at h4
            exact absurd (nI_le (b := 3 + 2 * ((i - 4) / 2)) (by omega) (by omega)) h4
        | succ m ih =>
          intro k hk hn
          refine j_iload_n 0 dX4_endsNumber_36 rfl (j_iload_n 3 dX4_endsNumber_37 rfl (j_iconst (v := 1) dX4_endsNumber_38 rfl (j_isub dX4_endsNumber_39 (j_icmp_ge (tgt := 60) dX4_endsNumber_40 rfl (fun h4 => ?_) (fun h4 => ?_)))))
          · rw [e1] at h4
            exact absurd h4 (nI_ge (b := i - 1) (by omega) (by omega))
          · refine j_aload_n 2 dX4_endsNumber_43 rfl (j_iload_n 0 dX4_endsNumber_44 rfl (j_V1 dX4_endsNumber_45 kX4_36 (by first | assumption | rfl) (c_numberAt hZ hT (by omega) (hd (3 + 2 * k) (by omega) (by omega)).1 (hd (3 + 2 * k + 1) (by omega) (by omega)).1 ?_)))
            have hu2 : nuN t (3 + 2 * k) < 2 ^ 31 := by
              have a := hd (3 + 2 * k) (by omega) (by omega)
              have b := hd (3 + 2 * k + 1) (by omega) (by omega)
              unfold nuN digB at *
              omega
            refine j_iload_n 1 dX4_endsNumber_48 rfl (j_icmp_ne (tgt := 54) dX4_endsNumber_49 rfl (fun h5 => ?_) (fun h5 => ?_))
            · refine j_iinc (y := 2) (lv' := [(3, _), (2, _), (0, _), (1, _)]) 0 dX4_endsNumber_54 rfl rfl rfl (j_goto (tgt := 36) dX4_endsNumber_57 rfl ?_)
              rw [show nI (3 + 2 * k) + (2 : Int32) = nI (3 + 2 * (k + 1)) from (nI_add (3 + 2 * k) 2).trans (congrArg nI (by omega))]
              refine JW.locals [0, 1, 2, 3] rfl (ih (k + 1) (by omega) ?_)
              show (noN t v k && decide (nuN t (3 + 2 * k) ≠ v)) = true
              rw [hn, decide_eq_true (show nuN t (3 + 2 * k) ≠ v from fun z => h5 (by rw [z]))]
              rfl
            · refine j_iconst (v := 0) dX4_endsNumber_52 rfl (j_zret dX4_endsNumber_53 (by decide) ?_)
              rw [noN_f (nI_inj hu2 hu h5) (by omega)] at hp
              exact hp
      refine j_iconst (v := 3) dX4_endsNumber_34 rfl (j_istore_n (lv' := [(3, _), (2, _), (0, _), (1, _)]) dX4_endsNumber_35 rfl ?_)
      exact JW.locals [0, 1, 2, 3] rfl (loop ((i - 4) / 2) 0 (by omega) rfl)
    · have h3 : i < 3 := by
        rcases Nat.lt_or_ge i 3 with z | z
        · exact z
        · exact absurd (nI_le (a := 3) z (by omega)) h2
      rw [if_pos h3] at hp
      refine j_iload_n 0 dX4_endsNumber_21 rfl (j_iconst (v := 1) dX4_endsNumber_22 rfl (j_iand dX4_endsNumber_23 ?_))
      rw [and1]
      refine j_iconst (v := 1) dX4_endsNumber_24 rfl (j_icmp_ne (tgt := 32) dX4_endsNumber_25 rfl (fun h4 => ?_) (fun h4 => ?_))
      · refine j_iconst (v := 0) dX4_endsNumber_32 rfl (j_zret dX4_endsNumber_33 (by decide) ?_)
        rw [decide_eq_false (fun z => h4 (by rw [z]; rfl))] at hp
        exact hp
      · refine j_iconst (v := 1) dX4_endsNumber_28 rfl (j_goto (tgt := 33) dX4_endsNumber_29 rfl (j_zret dX4_endsNumber_33 (by decide) ?_))
        rw [decide_eq_true (nI_inj (b := 1) (by omega) (by decide) h4)] at hp
        exact hp
  · have hv63 : ¬ v ≤ 63 := fun z => h1 (nI_le (b := 63) z (by decide))
    rw [decide_eq_false hv63, Bool.false_and] at hp
    refine j_iconst (v := 0) dX4_endsNumber_14 rfl (j_zret dX4_endsNumber_15 (by decide) ?_)
    exact hp
theorem c_fits {g : GT} {Z : ZT} {I : IT} {L : LT} {Post : PT} {i n : Nat} {t : Nat → Nat} (hZ : isTx Z) (hT : TX I 1 2 1 t n) (hi : i < 13) (hd : ∀ j, 1 ≤ j → j < i → digB t j) (hp : Post (some (.int (if fitN t i = true then 1 else 0))) Z I L) : CM g 3 0 0 mX4_fits [.ref 1, .int (nI i)] Z I L Post := by
  obtain ⟨z1, z2, z3, z4⟩ := id hZ
  obtain ⟨t1, t2, t3, t4⟩ := id hT
  refine CM_intro ?_
  unfold fitN at hp
  have hti := t4 i (by omega)
  refine j_iload_n 1 dX4_fits_0 rfl (j_if_ne (tgt := 21) dX4_fits_1 rfl (fun h1 => ?_) (fun h1 => ?_))
  · have hi0 : i ≠ 0 := fun z => h1 (by rw [z]; rfl)
    rw [if_neg hi0] at hp
    refine j_aload_n 0 dX4_fits_21 rfl (j_iload_n 1 dX4_fits_22 rfl (j_V1 dX4_fits_23 kX4_29 (by first | assumption | rfl) (c_figureAt hZ hT (by omega) ?_)))
    rcases Nat.lt_or_ge (t i) 48 with hlo | hlo
    · rw [decide_eq_false (show ¬ 48 ≤ t i by omega), Bool.false_and] at hp
      have hneg := sub48n hlo
      generalize nI (t i) - (48 : Int32) = q at hneg ⊢
      refine j_istore_n (lv' := [(2, _), (0, _), (1, _)]) dX4_fits_26 rfl (j_iload_n 0 dX4_fits_27 rfl (j_if_lt (tgt := 37) dX4_fits_28 rfl (fun h2 => ?_) (fun h2 => ?_)))
      · refine j_iconst (v := 0) dX4_fits_37 rfl (j_zret dX4_fits_38 (by decide) ?_)
        exact hp
      · exact absurd hneg h2
    · rw [decide_eq_true hlo, Bool.true_and] at hp
      rw [sub48 hlo]
      refine j_istore_n (lv' := [(2, _), (0, _), (1, _)]) dX4_fits_26 rfl (j_iload_n 0 dX4_fits_27 rfl (j_if_lt (tgt := 37) dX4_fits_28 rfl (fun h2 => ?_) (fun h2 => ?_)))
      · exact absurd h2 (nI_pos (by omega))
      · refine j_iload_n 0 dX4_fits_31 rfl (j_bipush (v := 9) dX4_fits_32 rfl (j_icmp_le (tgt := 39) dX4_fits_34 rfl (fun h3 => ?_) (fun h3 => ?_)))
        · have h9 : t i ≤ 57 := by
            rcases Nat.lt_or_ge 9 (t i - 48) with z | z
            · exact absurd h3 (nI_ge (a := 9) z (by omega))
            · omega
          rw [decide_eq_true h9, Bool.true_and] at hp
          have hd' : ∀ j, 1 ≤ j → j ≤ i → digB t j := fun j h1 h2 => by
            rcases Nat.lt_or_ge j i with z | z
            · exact hd j h1 z
            · have : j = i := by omega
              subst this
              exact ⟨hlo, h9⟩
          refine j_iload_n 2 dX4_fits_39 rfl (j_bipush (v := 11) dX4_fits_40 rfl (j_icmp_ne (tgt := 56) dX4_fits_42 rfl (fun h4 => ?_) (fun h4 => ?_)))
          · have h11 : i ≠ 11 := fun z => h4 (by rw [z]; rfl)
            rw [if_neg h11] at hp
            refine j_iload_n 2 dX4_fits_56 rfl (j_bipush (v := 12) dX4_fits_57 rfl (j_icmp_ne (tgt := 73) dX4_fits_59 rfl (fun h5 => ?_) (fun h5 => ?_)))
            · have h12 : i ≠ 12 := fun z => h5 (by rw [z]; rfl)
              rw [if_neg h12] at hp
              refine j_iload_n 2 dX4_fits_73 rfl (j_iconst (v := 1) dX4_fits_74 rfl (j_iand dX4_fits_75 ?_))
              rw [and1]
              refine j_iconst (v := 1) dX4_fits_76 rfl (j_icmp_ne (tgt := 94) dX4_fits_77 rfl (fun h6 => ?_) (fun h6 => ?_))
              · have ho : ¬ i % 2 = 1 := fun z => h6 (by rw [z]; rfl)
                rw [if_neg ho] at hp
                refine j_aload_n 1 dX4_fits_94 rfl (j_iload_n 2 dX4_fits_95 rfl (j_V1 dX4_fits_96 kX4_33 (by first | assumption | rfl) (c_endsNumber hZ hT (by omega) hd' ?_)))
                have hb : (if enB t i = true then (1 : Int32) else 0) = 0 ∨ (if enB t i = true then (1 : Int32) else 0) = 1 := by
                  by_cases y : enB t i = true
                  · rw [if_pos y]; exact Or.inr rfl
                  · rw [if_neg y]; exact Or.inl rfl
                generalize (if enB t i = true then (1 : Int32) else 0) = b at hp hb ⊢
                rcases hb with hb | hb
                · subst hb
                  refine j_zret dX4_fits_99 (by decide) ?_
                  exact hp
                · subst hb
                  refine j_zret dX4_fits_99 (by decide) ?_
                  exact hp
              · have ho : i % 2 = 1 := nI_inj (b := 1) (by omega) (by decide) h6
                rw [if_pos ho] at hp
                refine j_iload_n 0 dX4_fits_80 rfl (j_bipush (v := 6) dX4_fits_81 rfl (j_icmp_gt (tgt := 90) dX4_fits_83 rfl (fun h7 => ?_) (fun h7 => ?_)))
                · refine j_iconst (v := 0) dX4_fits_90 rfl (j_goto (tgt := 99) dX4_fits_91 rfl (j_zret dX4_fits_99 (by decide) ?_))
                  rw [decide_eq_false (fun z => absurd h7 (nI_nlt (a := 6) z (by decide)))] at hp
                  exact hp
                · refine j_iconst (v := 1) dX4_fits_86 rfl (j_goto (tgt := 99) dX4_fits_87 rfl (j_zret dX4_fits_99 (by decide) ?_))
                  rw [decide_eq_true (by
                    rcases Nat.lt_or_ge 6 (t i - 48) with z | z
                    · exact absurd (nI_lt (a := 6) z (by omega)) h7
                    · exact z)] at hp
                  exact hp
            · have h12 : i = 12 := nI_inj (b := 12) (by omega) (by decide) h5
              rw [if_pos h12] at hp
              refine j_iload_n 0 dX4_fits_62 rfl (j_iconst (v := 1) dX4_fits_63 rfl (j_icmp_lt (tgt := 71) dX4_fits_64 rfl (fun h6 => ?_) (fun h6 => ?_)))
              · refine j_iconst (v := 0) dX4_fits_71 rfl (j_zret dX4_fits_72 (by decide) ?_)
                rw [decide_eq_false (fun z => absurd h6 (nI_nlt (b := 1) z (by omega)))] at hp
                exact hp
              · refine j_iconst (v := 1) dX4_fits_67 rfl (j_goto (tgt := 72) dX4_fits_68 rfl (j_zret dX4_fits_72 (by decide) ?_))
                rw [decide_eq_true (by
                  rcases Nat.lt_or_ge (t i - 48) 1 with z | z
                  · exact absurd (nI_lt (b := 1) z (by decide)) h6
                  · exact z)] at hp
                exact hp
          · have h11 : i = 11 := nI_inj (b := 11) (by omega) (by decide) h4
            rw [if_pos h11] at hp
            refine j_iload_n 0 dX4_fits_45 rfl (j_iconst (v := 3) dX4_fits_46 rfl (j_icmp_gt (tgt := 54) dX4_fits_47 rfl (fun h5 => ?_) (fun h5 => ?_)))
            · refine j_iconst (v := 0) dX4_fits_54 rfl (j_zret dX4_fits_55 (by decide) ?_)
              rw [decide_eq_false (fun z => absurd h5 (nI_nlt (a := 3) z (by decide)))] at hp
              exact hp
            · refine j_iconst (v := 1) dX4_fits_50 rfl (j_goto (tgt := 55) dX4_fits_51 rfl (j_zret dX4_fits_55 (by decide) ?_))
              rw [decide_eq_true (by
                rcases Nat.lt_or_ge 3 (t i - 48) with z | z
                · exact absurd (nI_lt (a := 3) z (by omega)) h5
                · exact z)] at hp
              exact hp
        · refine j_iconst (v := 0) dX4_fits_37 rfl (j_zret dX4_fits_38 (by decide) ?_)
          rw [decide_eq_false (show ¬ t i ≤ 57 from fun z => h3 (nI_le (b := 9) (by omega) (by decide))), Bool.false_and] at hp
          exact hp
  · have hi0 : i = 0 := nI_inj (b := 0) (by omega) (by decide) h1
    subst hi0
    rw [if_pos rfl] at hp
    refine j_aload_n 0 dX4_fits_4 rfl (j_getR (b := 2) dX4_fits_5 fX4_11 rfl (by first | assumption | rfl) (by first | assumption | rfl) (j_iconst (v := 0) dX4_fits_8 rfl (j_iaload 0 dX4_fits_9 (by first | assumption | rfl) (by first | assumption | rfl) (by omega) (j_bipush (v := 83) dX4_fits_10 rfl (j_icmp_ne (tgt := 19) dX4_fits_12 rfl (fun h2 => ?_) (fun h2 => ?_))))))
    · refine j_iconst (v := 0) dX4_fits_19 rfl (j_zret dX4_fits_20 (by decide) ?_)
      rw [t3 0 (by decide)] at h2
      rw [decide_eq_false (fun z => h2 (by rw [z]; rfl))] at hp
      exact hp
    · refine j_iconst (v := 1) dX4_fits_15 rfl (j_goto (tgt := 20) dX4_fits_16 rfl (j_zret dX4_fits_20 (by decide) ?_))
      rw [t3 0 (by decide)] at h2
      rw [decide_eq_true (nI_inj (b := 83) (by omega) (by decide) h2)] at hp
      exact hp
