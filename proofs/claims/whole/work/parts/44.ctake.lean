theorem min13 {n : Nat} (h : n ≤ 40) : (if (13 : Int32) < nI n then (13 : Int32) else nI n) = nI (min n 13) := by
  rcases Nat.lt_or_ge 13 n with z | z
  · rw [if_pos (show (13 : Int32) < nI n from nI_lt (a := 13) z (by omega)), Nat.min_eq_right (by omega)]; rfl
  · rw [if_neg (show ¬ (13 : Int32) < nI n from nI_nlt (a := 13) z (by decide)), Nat.min_eq_left z]
theorem c_firstFault {g : GT} {Z : ZT} {I : IT} {L : LT} {Post : PT} {n : Nat} {t : Nat → Nat} (hZ : isTx Z) (hT : TX I 1 2 1 t n) (hp : Post (some (.int (fauF t n))) Z I L) : CM g 4 0 0 mX4_firstFault [.ref 1] Z I L Post := by
  obtain ⟨z1, z2, z3, z4⟩ := id hZ
  obtain ⟨t1, t2, t3, t4⟩ := id hT
  refine CM_intro ?_
  unfold fauF at hp
  have he : min n 13 ≤ 13 := Nat.min_le_right n 13
  have loop : ∀ (m k : Nat), k + m = min n 13 → fIx (fun i => !fitN t i) m k = fIx (fun i => !fitN t i) (min n 13) 0 → (∀ j, j < k → fitN t j = true) → JW g mX4_firstFault (rmO 4 0 0) (QM Post 0 0) 12 [(2, .int (nI k)), (1, .int (nI (min n 13))), (0, .ref 1)] [] 0 0 Z I L := by
    intro m
    induction m with
    | zero =>
      intro k hk hq hf
      have : k = min n 13 := by omega
      subst this
      rw [← hq, if_neg (show ¬ fIx (fun i => !fitN t i) 0 (min n 13) < min n 13 from Nat.lt_irrefl _)] at hp
      refine j_iload_n 0 dX4_firstFault_12 rfl (j_iload_n 1 dX4_firstFault_13 rfl (j_icmp_ge (tgt := 33) dX4_firstFault_14 rfl (fun h1 => ?_) (fun h1 => ?_)))
      · refine j_aload_n 2 dX4_firstFault_33 rfl (j_getI dX4_firstFault_34 fX4_15 (by first | assumption | rfl) (j_bipush (v := 13) dX4_firstFault_37 rfl (j_icmp_ne (tgt := 47) dX4_firstFault_39 rfl (fun h2 => ?_) (fun h2 => ?_))))
        · refine j_iload_n 1 dX4_firstFault_47 rfl (j_iret dX4_firstFault_48 ?_)
          rw [if_neg (fun z => h2 (by rw [t2, z]; rfl))] at hp
          exact hp
        · rw [t2] at h2
          refine j_bipush (v := -9) dX4_firstFault_42 rfl (j_goto (tgt := 48) dX4_firstFault_44 rfl (j_iret dX4_firstFault_48 ?_))
          rw [if_pos (nI_inj (b := 13) (by omega) (by decide) h2)] at hp
          exact hp
      · exact absurd (nI_le (Nat.le_refl _) (by omega)) h1
    | succ m ih =>
      intro k hk hq hf
      refine j_iload_n 0 dX4_firstFault_12 rfl (j_iload_n 1 dX4_firstFault_13 rfl (j_icmp_ge (tgt := 33) dX4_firstFault_14 rfl (fun h1 => ?_) (fun h1 => ?_)))
      · exact absurd h1 (nI_ge (by omega) (by omega))
      · refine j_aload_n 2 dX4_firstFault_17 rfl (j_iload_n 0 dX4_firstFault_18 rfl (j_V1 dX4_firstFault_19 kX4_25 (by first | assumption | rfl) (c_fits hZ hT (by omega) (fun j h1 h2 => fitN_dig (by omega) (hf j h2)) ?_)))
        by_cases hfi : fitN t k = true
        · rw [if_pos hfi]
          refine j_if_ne (tgt := 27) dX4_firstFault_22 rfl (fun _ => (j_iinc (y := 1) (lv' := [(2, _), (1, _), (0, _)]) 0 dX4_firstFault_27 rfl rfl rfl (j_goto (tgt := 12) dX4_firstFault_30 rfl ?_))) (fun h9 => absurd h9 (by decide))
          rw [nI_1]
          refine JW.locals [0, 1, 2] rfl (ih (k + 1) (by omega) ?_ (fun j hj => ?_))
          · rw [← hq]
            show _ = if (!fitN t k) = true then k else fIx (fun i => !fitN t i) m (k + 1)
            rw [hfi]
            rfl
          · rcases Nat.lt_or_ge j k with z | z
            · exact hf j z
            · have : j = k := by omega
              subst this
              exact hfi
        · rw [if_neg hfi]
          refine j_if_ne (tgt := 27) dX4_firstFault_22 rfl (fun h9 => absurd (by decide) h9) (fun _ => (j_iload_n 0 dX4_firstFault_25 rfl (j_iret dX4_firstFault_26 ?_)))
          have hfe : fitN t k = false := by simpa using hfi
          have e : fIx (fun i => !fitN t i) (m + 1) k = k := by
            show (if (!fitN t k) = true then k else fIx (fun i => !fitN t i) m (k + 1)) = k
            rw [hfe]
            rfl
          rw [← hq, e, if_pos (by omega)] at hp
          exact hp
  refine j_aload_n 0 dX4_firstFault_0 rfl (j_getI dX4_firstFault_1 fX4_15 (by first | assumption | rfl) (j_bipush (v := 13) dX4_firstFault_4 rfl (j_mmin dX4_firstFault_6 kX4_19 (j_istore_n (lv' := [(1, _), (0, _)]) dX4_firstFault_9 rfl ?_))))
  rw [t2, min13 t1]
  refine j_iconst (v := 0) dX4_firstFault_10 rfl (j_istore_n (lv' := [(2, _), (1, _), (0, _)]) dX4_firstFault_11 rfl ?_)
  exact JW.locals [0, 1, 2] rfl (loop (min n 13) 0 (by omega) rfl (fun j hj => absurd hj (Nat.not_lt_zero _)))
theorem fau_ok {t : Nat → Nat} {n : Nat} (h : fauF t n = -9) : n = 13 ∧ ∀ j, j < 13 → fitN t j = true := by
  unfold fauF at h
  have he : min n 13 ≤ 13 := Nat.min_le_right n 13
  by_cases a : fIx (fun i => !fitN t i) (min n 13) 0 < min n 13
  · rw [if_pos a] at h
    exact absurd h (nI_ne9 (by omega))
  · rw [if_neg a] at h
    by_cases b : n = 13
    · subst b
      refine ⟨rfl, fun j hj => ?_⟩
      have := fIx_no (fun i => !fitN t i) (min 13 13) 0 j (Nat.zero_le _) (by omega)
      simpa using this
    · rw [if_neg b] at h
      exact absurd h (nI_ne9 (by omega))
theorem noN_t {t : Nat → Nat} {v : Nat} : ∀ {k}, noN t v k = true → ∀ o, o < k → nuN t (3 + 2 * o) ≠ v := by
  intro k h o ho e
  rw [noN_f e ho] at h
  exact absurd h (by decide)
def STX (t : Nat → Nat) : Prop := nuN t 1 < 64 ∧ nuN t 1 % 2 = 1 ∧ (∀ k, k < 4 → nuN t (3 + 2 * k) < 64) ∧ (∀ i j, i < 4 → j < 4 → nuN t (3 + 2 * i) = nuN t (3 + 2 * j) → i = j) ∧ t 11 - 48 < 4 ∧ 1 ≤ t 12 - 48 ∧ t 12 - 48 ≤ 9 ∧ (∀ j, 1 ≤ j → j < 13 → digB t j)
theorem fit_en {t : Nat → Nat} {i : Nat} (hi : i = 2 ∨ i = 4 ∨ i = 6 ∨ i = 8 ∨ i = 10) (h : fitN t i = true) : enB t i = true := by
  unfold fitN at h
  rw [if_neg (by omega), Bool.and_eq_true, Bool.and_eq_true, if_neg (by omega), if_neg (by omega), if_neg (by omega)] at h
  exact h.2.2
theorem stx_of {t : Nat → Nat} (h : ∀ j, j < 13 → fitN t j = true) : STX t := by
  have hd : ∀ j, 1 ≤ j → j < 13 → digB t j := fun j h1 h2 => fitN_dig (by omega) (h j h2)
  have e2 := fit_en (by omega) (h 2 (by decide))
  have e4 := fit_en (by omega) (h 4 (by decide))
  have e6 := fit_en (by omega) (h 6 (by decide))
  have e8 := fit_en (by omega) (h 8 (by decide))
  have e10 := fit_en (by omega) (h 10 (by decide))
  have e11 := h 11 (by decide)
  have e12 := h 12 (by decide)
  unfold enB at e2 e4 e6 e8 e10
  unfold fitN at e11 e12
  rw [if_pos (by decide), Bool.and_eq_true] at e2
  rw [if_neg (by decide), Bool.and_eq_true] at e4 e6 e8 e10
  rw [if_neg (by decide), Bool.and_eq_true, Bool.and_eq_true, if_pos rfl] at e11
  rw [if_neg (by decide), Bool.and_eq_true, Bool.and_eq_true, if_neg (by decide), if_pos rfl] at e12
  have a2 := of_decide_eq_true e2.1
  have a4 := of_decide_eq_true e4.1
  have a6 := of_decide_eq_true e6.1
  have a8 := of_decide_eq_true e8.1
  have a10 := of_decide_eq_true e10.1
  have b6 := noN_t e6.2
  have b8 := noN_t e8.2
  have b10 := noN_t e10.2
  have hlt : ∀ k, k < 4 → nuN t (3 + 2 * k) < 64 := fun k hk => by
    have : k = 0 ∨ k = 1 ∨ k = 2 ∨ k = 3 := by omega
    rcases this with r | r | r | r <;> subst r
    · exact Nat.lt_succ_of_le a4
    · exact Nat.lt_succ_of_le a6
    · exact Nat.lt_succ_of_le a8
    · exact Nat.lt_succ_of_le a10
  have hne : ∀ i j, i < j → j < 4 → nuN t (3 + 2 * i) ≠ nuN t (3 + 2 * j) := fun i j hij hj => by
    have : j = 1 ∨ j = 2 ∨ j = 3 := by omega
    rcases this with r | r | r <;> subst r
    · exact b6 i hij
    · exact b8 i hij
    · exact b10 i hij
  refine ⟨Nat.lt_succ_of_le a2, of_decide_eq_true e2.2, hlt, fun i j hi hj e => ?_, Nat.lt_succ_of_le (of_decide_eq_true e11.2.2), of_decide_eq_true e12.2.2, ?_, hd⟩
  · rcases Nat.lt_trichotomy i j with z | z | z
    · exact absurd e (hne i j z hj)
    · exact z
    · exact absurd e.symm (hne j i z hi)
  · have := hd 12 (by decide) (by decide)
    unfold digB at this
    omega
theorem TX.up {I I' : IT} {a b j : Nat} {t : Nat → Nat} {n : Nat} (h : TX I a b j t n) (h1 : I' a j = I a j) (h2 : I' b = I b) : TX I' a b j t n := by
  unfold TX at h ⊢
  rw [h1, h2]
  exact h
theorem c_takeFrom {g : GT} {Z : ZT} {I : IT} {L : LT} {Post : PT} {n : Nat} {t : Nat → Nat} (hZ : isTx Z) (hC : isCo Z) (hT : TX I 1 2 1 t n) (hs : STX t) (hp : ∀ I', (∀ a, a ≠ 3 → a ≠ 4 → a ≠ 5 → a ≠ 6 → a ≠ 7 → I' a = I a) → CC I' (mkC (nuN t 1) (fun k => nuN t (3 + 2 * k)) (t 11 - 48) (t 12 - 48)) → I' 3 5 = nI (t 11 - 48) → I' 3 7 = nI (CL (t 11 - 48)).length → I' 3 8 = nI (snB (nuN t 1) (t 11 - 48) 64) → Post none Z I' L) : CM g 4 0 0 mX1_takeFrom [.ref 3, .ref 1] Z I L Post := by
  obtain ⟨z1, z2, z3, z4⟩ := id hZ
  obtain ⟨y1, y2, y3, y4, y5, y6, y7, y8, y9, y10, y11, y12, y13⟩ := id hC
  obtain ⟨s1, s2, s3, s4, s5, s6, s7, s8⟩ := id hs
  refine CM_intro ?_
  have loop : ∀ (m k : Nat) (f : Nat → Int32), k + m = 4 → (∀ j, j < k → f j = nI (nuN t (3 + 2 * j))) → JW g mX1_takeFrom (rmO 4 0 0) (QM Post 0 0) 11 [(2, .int (nI k)), (0, .ref 3), (1, .ref 1)] [] 0 0 Z (upR (upI I 3 4 (nI (nuN t 1))) 4 f) L := by
    intro m
    induction m with
    | zero =>
      intro k f hk hf
      have : k = 4 := by omega
      subst this
      have hT' : TX (upR (upI I 3 4 (nI (nuN t 1))) 4 f) 1 2 1 t n := hT.up rfl rfl
      refine j_iload_n 0 dX1_takeFrom_11 rfl (j_iconst (v := 4) dX1_takeFrom_12 rfl (j_icmp_ge (tgt := 40) dX1_takeFrom_13 rfl (fun h1 => ?_) (fun h1 => ?_)))
      · refine j_aload_n 1 dX1_takeFrom_40 rfl (j_aload_n 2 dX1_takeFrom_41 rfl (j_bipush (v := 11) dX1_takeFrom_42 rfl (j_V1 dX1_takeFrom_44 kX1_49 (by first | assumption | rfl) (c_figureAt hZ hT' (by decide) ?_))))
        rw [sub48 (s8 11 (by decide) (by decide)).1]
        refine j_putI dX1_takeFrom_47 fX1_28 (by first | assumption | rfl) (j_aload_n 1 dX1_takeFrom_50 rfl (j_aload_n 2 dX1_takeFrom_51 rfl (j_bipush (v := 12) dX1_takeFrom_52 rfl (j_V1 dX1_takeFrom_54 kX1_49 (by first | assumption | rfl) (c_figureAt hZ (hT'.up rfl rfl) (by decide) ?_)))))
        rw [sub48 (s8 12 (by decide) (by decide)).1]
        refine j_putI dX1_takeFrom_57 fX1_31 (by first | assumption | rfl) (j_aload_n 1 dX1_takeFrom_60 rfl (j_V0 dX1_takeFrom_61 kX1_40 (by first | assumption | rfl) (c_fillRows (gn := nuN t 1) (w := t 11 - 48) (hold := t 12 - 48) (o := fun k => nuN t (3 + 2 * k)) hC s1 s2 s5 s6 s7 s3 s4 rfl (fun k hk => hf k hk) rfl rfl ?_)))
        intro I' g1 g2 g3 g4 g5
        refine j_vret dX1_takeFrom_64 ?_
        refine hp I' (fun a h3 h4 h5 h6 h7 => ?_) g3 ?_ g4 g5
        · rw [g1 a h3 h5 h6 h7]
          show upR _ 3 _ a = _
          rw [upR_n h3]
          show upR _ 3 _ a = _
          rw [upR_n h3, upR_n h4]
          show upR _ 3 _ a = _
          rw [upR_n h3]
        · rw [g2 5 (by decide) (by decide)]
          rfl
      · exact absurd (by decide) h1
    | succ m ih =>
      intro k f hk hf
      have hk4 : k < 4 := by omega
      have hT' : TX (upR (upI I 3 4 (nI (nuN t 1))) 4 f) 1 2 1 t n := hT.up rfl rfl
      refine j_iload_n 0 dX1_takeFrom_11 rfl (j_iconst (v := 4) dX1_takeFrom_12 rfl (j_icmp_ge (tgt := 40) dX1_takeFrom_13 rfl (fun h1 => ?_) (fun h1 => ?_)))
      · exact absurd h1 (nI_ge hk4 (by decide))
      · refine j_aload_n 1 dX1_takeFrom_16 rfl (j_getR (b := 4) dX1_takeFrom_17 fX1_9 rfl (by first | assumption | rfl) (by first | assumption | rfl) (j_iload_n 0 dX1_takeFrom_20 rfl (j_aload_n 2 dX1_takeFrom_21 rfl (j_iconst (v := 3) dX1_takeFrom_22 rfl (j_iconst (v := 2) dX1_takeFrom_23 rfl (j_iload_n 0 dX1_takeFrom_24 rfl (j_imul dX1_takeFrom_25 (j_iadd dX1_takeFrom_26 ?_))))))))
        rw [show (3 : Int32) + 2 * nI k = nI (3 + 2 * k) from (congrArg (fun x => (3 : Int32) + x) (pk_mul 2 k)).trans (nI_add 3 (2 * k))]
        refine j_V1 dX1_takeFrom_27 kX1_45 (by first | assumption | rfl) (c_numberAt hZ hT' (by omega) (s8 _ (by omega) (by omega)).1 (s8 _ (by omega) (by omega)).1 ?_)
        refine j_bipush (v := 63) dX1_takeFrom_30 rfl (j_iand dX1_takeFrom_32 ?_)
        rw [and63, Nat.mod_eq_of_lt (s3 k hk4)]
        refine j_iastore k dX1_takeFrom_33 (by first | assumption | rfl) (by first | assumption | rfl) (by omega) (j_iinc (y := 1) (lv' := [(2, _), (0, _), (1, _)]) 0 dX1_takeFrom_34 rfl rfl rfl (j_goto (tgt := 11) dX1_takeFrom_37 rfl ?_))
        rw [nI_1]
        show JW g mX1_takeFrom _ _ _ _ _ _ _ _ (upR (upR _ 4 f) 4 (upd (upR _ 4 f 4) k _)) _
        simp only [upR_R, upR_s]
        refine JW.locals [0, 1, 2] rfl (ih (k + 1) _ (by omega) (fun j hj => ?_))
        by_cases e : j = k
        · subst e; rw [upd_s]
        · rw [upd_n e]; exact hf j (by omega)
  refine j_aload_n 0 dX1_takeFrom_0 rfl (j_aload_n 1 dX1_takeFrom_1 rfl (j_iconst (v := 1) dX1_takeFrom_2 rfl (j_V1 dX1_takeFrom_3 kX1_45 (by first | assumption | rfl) (c_numberAt (i := 1) hZ hT (by decide) (s8 1 (by decide) (by decide)).1 (s8 2 (by decide) (by decide)).1 ?_))))
  refine j_putI dX1_takeFrom_6 fX1_24 (by first | assumption | rfl) (j_iconst (v := 0) dX1_takeFrom_9 rfl (j_istore_n (lv' := [(2, _), (0, _), (1, _)]) dX1_takeFrom_10 rfl ?_))
  have := loop 4 0 (I 4) rfl (fun j hj => absurd hj (Nat.not_lt_zero _))
  rw [show upR (upI I 3 4 (nI (nuN t 1))) 4 (I 4) = upI I 3 4 (nI (nuN t 1)) from ?_] at this
  · exact JW.locals [0, 1, 2] rfl this
  · funext a
    by_cases e : a = 4
    · subst e; rw [upR_s]; rfl
    · rw [upR_n e]
