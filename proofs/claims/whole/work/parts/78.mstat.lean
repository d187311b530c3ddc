/-! THE REFERENCE'S BURSTS, a station -/
theorem hIx_ge (p : Nat → Bool) {i : Nat} (hi : p i = true) : ∀ n, i < n → i ≤ hIx p n
  | 0, h => absurd h (Nat.not_lt_zero _)
  | n + 1, h => by
    show i ≤ if p n then n else hIx p n
    split
    · omega
    · rename_i hn
      have : i ≠ n := fun e => hn (by rw [← e]; exact hi)
      exact hIx_ge p hi n (by omega)
theorem hIx_le (p : Nat → Bool) : ∀ n, hIx p n ≤ n
  | 0 => Nat.le_refl 0
  | n + 1 => by
    have := hIx_le p n
    show (if p n then n else hIx p n) ≤ n + 1
    split <;> omega
theorem ex_bit {m : Nat} (h0 : 0 < m) (h : m < 16384) : ∃ i, i < 14 ∧ m.testBit i = true := by
  obtain ⟨i, hi⟩ := Nat.exists_testBit_of_ne_zero (Nat.ne_of_gt h0)
  refine ⟨i, ?_, hi⟩
  rcases Nat.lt_or_ge i 14 with z | z
  · exact z
  · rw [bits_lt (show m < 2 ^ 14 from h) z] at hi
    exact absurd hi (by decide)
theorem fIx_lt (p : Nat → Bool) {i : Nat} (hi : p i = true) : ∀ n k, k ≤ i → i < k + n → fIx p n k ≤ i
  | 0, k, h1, h2 => by omega
  | n + 1, k, h1, h2 => by
    show (if p k then k else fIx p n (k + 1)) ≤ i
    split
    · exact h1
    · rename_i hn
      have : i ≠ k := fun e => hn (by rw [← e]; exact hi)
      exact fIx_lt p hi n (k + 1) (by omega) (by omega)
theorem lo_le_hi {m : Nat} (h0 : 0 < m) (h : m < 16384) : loN m ≤ hiN m ∧ hiN m < 14 := by
  obtain ⟨i, h1, h2⟩ := ex_bit h0 h
  have a := fIx_lt (fun k => m.testBit k) h2 14 0 (Nat.zero_le _) (by omega)
  have b := hIx_ge (fun k => m.testBit k) h2 14 h1
  refine ⟨Nat.le_trans a b, ?_⟩
  have hl : ∀ n, 0 < n → hIx (fun k => m.testBit k) n < n := by
    intro n
    induction n with
    | zero => intro h; exact absurd h (Nat.lt_irrefl _)
    | succ n ih =>
      intro _
      show (if m.testBit n = true then n else hIx (fun k => m.testBit k) n) < n + 1
      split
      · omega
      · have := hIx_le (fun k => m.testBit k) n
        omega
  exact hl 14 (by decide)
theorem c_spanOf {g : GT} {Z : ZT} {I : IT} {L : LT} {Post : PT} {m : Nat} (h0 : 0 < m) (h : m < 16384) (hp : Post (some (.int (nI (spN m)))) Z I L) : CM g 1 0 0 mX6_spanOf [.int (nI m)] Z I L Post := by
  obtain ⟨i, hi14, hib⟩ := ex_bit h0 h
  have hlh := lo_le_hi h0 h
  refine CM_intro ?_
  have loop2 : ∀ (q j : Nat), q = j + 1 → j < 14 → hIx (fun k => m.testBit k) (j + 1) = hiN m → i ≤ j → JW g mX6_spanOf (rmO 1 0 0) (QM Post 0 0) 19 [(2, .int (nI j)), (1, .int (nI (loN m))), (0, .int (nI m))] [] 0 0 Z I L := by
    intro q
    induction q with
    | zero =>
      intro j hq
      omega
    | succ q ih =>
      intro j hq hj he hij
      have hst : hIx (fun k => m.testBit k) (j + 1) = if m.testBit j = true then j else hIx (fun k => m.testBit k) j := rfl
      refine j_iload_n 2 dX6_spanOf_19 rfl (j_iload_n 0 dX6_spanOf_20 rfl (j_S2 dX6_spanOf_21 kX6_72 (c_has (s := m) (j := j) (by omega) (by omega) (fun hb => ?_) (fun hb => ?_))))
      · rw [hst, if_pos hb] at he
        refine j_if_ne (tgt := 33) dX6_spanOf_24 rfl (fun _ => (j_iload_n 0 dX6_spanOf_33 rfl (j_iload_n 1 dX6_spanOf_34 rfl (j_isub dX6_spanOf_35 ?_)))) (fun h9 => absurd h9 (by decide))
        rw [he, pk_sub hlh.1]
        refine j_iret dX6_spanOf_36 ?_
        exact hp
      · rw [hst, if_neg (by rw [hb]; decide)] at he
        have hne : i ≠ j := fun e => by rw [e, hb] at hib; exact absurd hib (by decide)
        refine j_if_ne (tgt := 33) dX6_spanOf_24 rfl (fun h9 => absurd (by decide) h9) (fun _ => (j_iinc (y := -1) (lv' := [(2, _), (1, _), (0, _)]) 0 dX6_spanOf_27 rfl rfl rfl (j_goto (tgt := 19) dX6_spanOf_30 rfl ?_)))
        have hj1 : j = (j - 1) + 1 := by omega
        rw [show nI j + (-1) = nI (j - 1) from by rw [hj1]; exact pk_m1 (j - 1)]
        rw [hj1] at he
        exact ih (j - 1) (by omega) (by omega) he (by omega)
  have loop : ∀ (q j : Nat), j + q = 14 → fIx (fun k => m.testBit k) q j = loN m → j ≤ i → JW g mX6_spanOf (rmO 1 0 0) (QM Post 0 0) 2 [(1, .int (nI j)), (0, .int (nI m))] [] 0 0 Z I L := by
    intro q
    induction q with
    | zero =>
      intro j hj he hji
      omega
    | succ q ih =>
      intro j hj he hji
      have hst : fIx (fun k => m.testBit k) (q + 1) j = if m.testBit j = true then j else fIx (fun k => m.testBit k) q (j + 1) := rfl
      refine j_iload_n 1 dX6_spanOf_2 rfl (j_iload_n 0 dX6_spanOf_3 rfl (j_S2 dX6_spanOf_4 kX6_72 (c_has (s := m) (j := j) (by omega) (by omega) (fun hb => ?_) (fun hb => ?_))))
      · rw [hst, if_pos hb] at he
        refine j_if_ne (tgt := 16) dX6_spanOf_7 rfl (fun _ => (j_bipush (v := 13) dX6_spanOf_16 rfl (j_istore_n (lv' := [(2, _), (1, _), (0, _)]) dX6_spanOf_18 rfl ?_))) (fun h9 => absurd h9 (by decide))
        rw [he]
        exact JW.locals [0, 1, 2] rfl (loop2 14 13 rfl (by decide) rfl (by omega))
      · rw [hst, if_neg (by rw [hb]; decide)] at he
        have hne : i ≠ j := fun e => by rw [e, hb] at hib; exact absurd hib (by decide)
        refine j_if_ne (tgt := 16) dX6_spanOf_7 rfl (fun h9 => absurd (by decide) h9) (fun _ => (j_iinc (y := 1) (lv' := [(1, _), (0, _)]) 0 dX6_spanOf_10 rfl rfl rfl (j_goto (tgt := 2) dX6_spanOf_13 rfl ?_)))
        rw [nI_1]
        exact ih (j + 1) (by omega) he (by omega)
  refine j_iconst (v := 0) dX6_spanOf_0 rfl (j_istore_n (lv' := [(1, _), (0, _)]) dX6_spanOf_1 rfl ?_)
  exact JW.locals [0, 1] rfl (loop 14 0 rfl rfl (Nat.zero_le _))
/-- what lies in the reference's rows behind the bursts of a list -/
def BL (I : IT) (gn : Nat) (l : List Nat) : Prop := I 198 8 = nI l.length ∧ ∀ r, r < 64 → I 201 r = nI (wiR gn l r).length ∧ (∀ x, (wiR gn l r) = [x] → I 202 r = nI x)
theorem ML_s (w m : Nat) : ML w (m + 1) = if isB w m = true then ML w m ++ [m] else ML w m := by
  unfold ML
  rw [List.range_succ, List.filter_append, List.filter_cons, List.filter_nil]
  split
  · rfl
  · exact List.append_nil _
theorem ML_0 : ∀ m, ML 0 m = []
  | 0 => rfl
  | m + 1 => by
    rw [ML_s, ML_0 m, if_neg]
    unfold isB
    rw [decide_eq_false (Nat.not_lt_zero _), Bool.and_false]
    decide
theorem ML_len (w : Nat) : ∀ m, (ML w m).length ≤ m
  | 0 => Nat.le_refl 0
  | m + 1 => by
    have := ML_len w m
    rw [ML_s]
    split
    · rw [List.length_append]
      show (ML w m).length + 1 ≤ m + 1
      omega
    · omega
theorem wi_len (gn : Nat) (l : List Nat) (r : Nat) : (wiR gn l r).length ≤ l.length := List.length_filter_le _ _
theorem BL.add {I : IT} {gn m : Nat} {l : List Nat} (h : BL I gn l) (hg : gn < 64) (hm : m < 16384) : BL (upI (upI (upI I 201 (lfN gn m) (nI ((wiR gn l (lfN gn m)).length + 1))) 202 (lfN gn m) (nI m)) 198 8 (nI (l.length + 1))) gn (l ++ [m]) := by
  refine ⟨by rw [upI_s, upd_s, List.length_append]; rfl, fun r hr => ?_⟩
  have h2 := h.2 r hr
  rw [wiR_app, upI_n (by decide), upI_n (by decide), upI_s, upd_app, upI_n (by decide), upI_s, upd_app, upI_n (show 202 ≠ 201 by decide)]
  by_cases e : lfN gn m = r
  · subst e
    rw [if_pos rfl, if_pos rfl, if_pos rfl]
    refine ⟨by rw [List.length_append]; rfl, fun x hx => ?_⟩
    have hl := congrArg List.length hx
    rw [List.length_append] at hl
    have hnil : wiR gn l (lfN gn m) = [] := List.eq_nil_of_length_eq_zero (by have : ([m] : List Nat).length = 1 := rfl; have : ([x] : List Nat).length = 1 := rfl; omega)
    rw [hnil, List.nil_append] at hx
    rw [List.cons.inj hx |>.1]
  · rw [if_neg e, if_neg (Ne.symm e), if_neg (Ne.symm e)]
    exact h2
theorem su_bl {I : IT} {gn w r : Nat} (h : BL I gn (ML w 16384)) (hr : r < 64) (hw : w < 4) : (if 0 < r ∧ I 201 r = 1 then I 202 r else 0) = nI (suB gn w r) := by
  have h2 := h.2 r hr
  have hl := wi_len gn (ML w 16384) r
  have hl2 := ML_len w 16384
  unfold suB
  rw [← suL_perm (ml_perm hw)]
  unfold suL
  by_cases e : r ≠ 0 ∧ (wiR gn (ML w 16384) r).length = 1
  · rw [if_pos e, if_pos ⟨by omega, by rw [h2.1, e.2]; rfl⟩]
    match hx : wiR gn (ML w 16384) r, e.2 with
    | [a], _ => rw [h2.2 a hx]; rfl
  · rw [if_neg e, if_neg (fun z => e ⟨by omega, nI_inj (b := 1) (by omega) (by decide) (by rw [← h2.1]; exact z.2)⟩)]
    rfl
theorem sn_bl {gn w r : Nat} (hw : w < 4) (h1 : 1 ≤ r) : (wiR gn (ML w 16384) r).length = 1 ↔ suB gn w r ≠ 0 := by
  have hf : List.Perm (wiR gn (ML w 16384) r) (wiR gn (CL w) r) := (ml_perm hw).filter _
  rw [suB_ne hw, hf.length_eq]
  exact ⟨fun h => ⟨by omega, h⟩, fun h => h.2⟩
theorem c_layBursts {g : GT} {Z : ZT} {I : IT} {L : LT} {Post : PT} {gn w : Nat} (hM : isM Z) (hgn : gn < 64) (hw : w < 4) (eg : I 198 2 = nI gn) (ew : I 198 4 = nI w) (hp : ∀ I', (∀ a, a ≠ 198 → a ≠ 201 → a ≠ 202 → I' a = I a) → (∀ j, j ≠ 8 → j ≠ 9 → I' 198 j = I 198 j) → I' 198 8 = nI (CL w).length → I' 198 9 = nI (snB gn w 64) → (∀ r, r < 64 → (if 0 < r ∧ I' 201 r = 1 then I' 202 r else 0) = nI (suB gn w r)) → Post none Z I' L) : CM g 2 0 0 mX6_layBursts [.ref 198] Z I L Post := by
  obtain ⟨m0, f0, f3, f6, f7, f10, f11, f12, f15, f16, f17, f18, f19, f22, f24, k199, l199, k200, l200, k201, l201, k202, l202, k203, l203, k204, l204, k205, l205, k206, l206, k207, l207, k208, l208, k209, l209, k210, l210, k211, l211, k212, l212⟩ := id hM
  refine CM_intro ?_
  have last : ∀ (m k : Nat) (I1 : IT), k + m = 64 → 1 ≤ k → (∀ a, a ≠ 198 → a ≠ 201 → a ≠ 202 → I1 a = I a) → (∀ j, j ≠ 8 → j ≠ 9 → I1 198 j = I 198 j) → BL I1 gn (ML w 16384) → I1 198 9 = nI (snB gn w k) → JW g mX6_layBursts (rmO 2 0 0) (QM Post 0 0) 99 [(1, .int (nI k)), (0, .ref 198)] [] 0 0 Z I1 L := by
    intro m
    induction m with
    | zero =>
      intro k I1 hk h1 e e8 hB h9
      have : k = 64 := by omega
      subst this
      refine j_iload_n 0 dX6_layBursts_99 rfl (j_bipush (v := 64) dX6_layBursts_100 rfl (j_icmp_ge (tgt := 135) dX6_layBursts_102 rfl (fun g1 => ?_) (fun g1 => ?_)))
      · refine j_vret dX6_layBursts_135 ?_
        exact hp I1 e e8 (by rw [hB.1, (ml_perm hw).length_eq]) h9 (fun r hr => su_bl hB hr hw)
      · exact absurd (by decide) g1
    | succ m ih =>
      intro k I1 hk h1 e e8 hB h9
      have hb := hB.2 k (by omega)
      have hl := wi_len gn (ML w 16384) k
      have hl2 := ML_len w 16384
      have hst : snB gn w (k + 1) = snB gn w k + if suB gn w k = 0 then 0 else 1 := rfl
      have next : ∀ v : Int32, v = nI (snB gn w (k + 1)) → JW g mX6_layBursts (rmO 2 0 0) (QM Post 0 0) 126 [(1, .int (nI k)), (0, .ref 198)] [.int v, .ref 198] 0 0 Z I1 L := by
        intro v hv
        subst hv
        refine j_putI dX6_layBursts_126 fX6_79 (by first | assumption | rfl) (j_iinc (y := 1) (lv' := [(1, _), (0, _)]) 0 dX6_layBursts_129 rfl rfl rfl (j_goto (tgt := 99) dX6_layBursts_132 rfl ?_))
        rw [nI_1]
        refine JW.locals [0, 1] rfl (ih (k + 1) _ (by omega) (by omega) (fun a h1 h2 h3 => by rw [upI_n h1]; exact e a h1 h2 h3) (fun j h1 h2 => by rw [upI_s, upd_n h2]; exact e8 j h1 h2) ⟨by rw [upI_s, upd_n (by decide)]; exact hB.1, fun r hr => by rw [upI_n (by decide), upI_n (by decide)]; exact hB.2 r hr⟩ (by rw [upI_s, upd_s]))
      refine j_iload_n 0 dX6_layBursts_99 rfl (j_bipush (v := 64) dX6_layBursts_100 rfl (j_icmp_ge (tgt := 135) dX6_layBursts_102 rfl (fun g1 => ?_) (fun g1 => ?_)))
      · exact absurd g1 (nI_ge (b := 64) (by omega) (by decide))
      · refine j_aload_n 1 dX6_layBursts_105 rfl (j_dup dX6_layBursts_106 rfl (j_getI dX6_layBursts_107 fX6_79 (by first | assumption | rfl) (j_aload_n 1 dX6_layBursts_110 rfl (j_getR (b := 201) dX6_layBursts_111 fX6_16 rfl (by first | assumption | rfl) (by first | assumption | rfl) (j_iload_n 0 dX6_layBursts_114 rfl (j_iaload k dX6_layBursts_115 (by first | assumption | rfl) (by first | assumption | rfl) (by omega) (j_iconst (v := 1) dX6_layBursts_116 rfl (j_icmp_ne (tgt := 124) dX6_layBursts_117 rfl (fun g2 => ?_) (fun g2 => ?_)))))))))
        · rw [hb.1] at g2
          have hz : suB gn w k = 0 := by
            rcases Nat.eq_zero_or_pos (suB gn w k) with z | z
            · exact z
            · exact absurd (by rw [(sn_bl hw h1).mpr (by omega)]; rfl) g2
          rw [hz, if_pos rfl] at hst
          refine j_iconst (v := 0) dX6_layBursts_124 rfl (j_iadd dX6_layBursts_125 ?_)
          refine next _ ?_
          rw [h9, Int32.add_zero, hst]
          rfl
        · rw [hb.1] at g2
          have hz : suB gn w k ≠ 0 := (sn_bl hw h1).mp (nI_inj (b := 1) (by omega) (by decide) g2)
          rw [if_neg hz] at hst
          refine j_iconst (v := 1) dX6_layBursts_120 rfl (j_goto (tgt := 125) dX6_layBursts_121 rfl (j_iadd dX6_layBursts_125 ?_))
          refine next _ ?_
          rw [h9, hst, nI_1]
  have t97 : ∀ (I1 : IT) (lv2 : List (Nat × Value)), (∀ a, a ≠ 198 → a ≠ 201 → a ≠ 202 → I1 a = I a) → (∀ j, j ≠ 8 → j ≠ 9 → I1 198 j = I 198 j) → BL I1 gn (ML w 16384) → I1 198 9 = 0 → ∀ x : Int32, JW g mX6_layBursts (rmO 2 0 0) (QM Post 0 0) 97 [(1, .int x), (0, .ref 198)] [] 0 0 Z I1 L := by
    intro I1 _ e e8 hB h9 x
    refine j_iconst (v := 1) dX6_layBursts_97 rfl (j_istore_n (lv' := [(1, _), (0, _)]) dX6_layBursts_98 rfl ?_)
    refine JW.locals [0, 1] rfl (last 63 1 I1 rfl (by decide) e e8 hB ?_)
    rw [h9]
    show (0 : Int32) = nI (0 + if suB gn w 0 = 0 then 0 else 1)
    rw [suB_0]
    rfl
  have main : ∀ (q m : Nat) (I1 : IT), m + q = 16384 → 1 ≤ m → (∀ a, a ≠ 198 → a ≠ 201 → a ≠ 202 → I1 a = I a) → (∀ j, j ≠ 8 → j ≠ 9 → I1 198 j = I 198 j) → BL I1 gn (ML w m) → I1 198 9 = 0 → JW g mX6_layBursts (rmO 2 0 0) (QM Post 0 0) 33 [(1, .int (nI m)), (0, .ref 198)] [] 0 0 Z I1 L := by
    intro q
    induction q with
    | zero =>
      intro m I1 hm h1 e e8 hB h9
      have hm2 : m = 16384 := by omega
      rw [hm2] at hB
      refine j_iload_n 0 dX6_layBursts_33 rfl (j_sipush (v := 16383) dX6_layBursts_34 rfl (j_icmp_gt (tgt := 97) dX6_layBursts_37 rfl (fun g1 => ?_) (fun g1 => ?_)))
      · exact t97 I1 [] e e8 hB h9 _
      · exact absurd (nI_lt (a := 16383) (by omega) (by omega)) g1
    | succ q ih =>
      intro m I1 hm h1 e e8 hB h9
      have e4 : I1 198 4 = nI w := (e8 4 (by decide) (by decide)).trans ew
      have e2 : I1 198 2 = nI gn := (e8 2 (by decide) (by decide)).trans eg
      refine j_iload_n 0 dX6_layBursts_33 rfl (j_sipush (v := 16383) dX6_layBursts_34 rfl (j_icmp_gt (tgt := 97) dX6_layBursts_37 rfl (fun g1 => ?_) (fun g1 => ?_)))
      · exact absurd g1 (nI_nlt (a := 16383) (by omega) (by decide))
      · refine j_aload_n 1 dX6_layBursts_40 rfl (j_getI dX6_layBursts_41 fX6_82 (by first | assumption | rfl) (j_if_le (tgt := 97) dX6_layBursts_44 rfl (fun g2 => ?_) (fun g2 => ?_)))
        · rw [e4] at g2
          have w0 : w = 0 := by
            rcases Nat.eq_zero_or_pos w with z | z
            · exact z
            · exact absurd g2 (nI_nle z (by omega))
          rw [w0, ML_0 m] at hB
          refine t97 I1 [] e e8 ?_ h9 _
          rw [w0, ML_0 16384]
          exact hB
        · have hsl : spN m < 14 := by
            have := lo_le_hi (show 0 < m by omega) (show m < 16384 by omega)
            unfold spN
            omega
          have hbl : isB w m = decide (spN m < w) := by
            unfold isB
            rw [decide_eq_true (show 0 < m by omega), Bool.true_and]
          have hs := ML_s w m
          refine j_iload_n 0 dX6_layBursts_47 rfl (j_S1 dX6_layBursts_48 kX6_85 (c_spanOf (show 0 < m by omega) (show m < 16384 by omega) ?_))
          refine j_aload_n 1 dX6_layBursts_51 rfl (j_getI dX6_layBursts_52 fX6_82 (by first | assumption | rfl) (j_icmp_ge (tgt := 91) dX6_layBursts_55 rfl (fun g3 => ?_) (fun g3 => ?_)))
          · rw [e4] at g3
            have hns : ¬ spN m < w := fun z => absurd g3 (nI_ge z (by omega))
            rw [hbl, decide_eq_false hns, if_neg (by decide)] at hs
            rw [← hs] at hB
            refine j_iinc (y := 1) (lv' := [(1, _), (0, _)]) 0 dX6_layBursts_91 rfl rfl rfl (j_goto (tgt := 33) dX6_layBursts_94 rfl ?_)
            rw [nI_1]
            exact ih (m + 1) I1 (by omega) (by omega) e e8 hB h9
          · rw [e4] at g3
            have hys : spN m < w := Nat.lt_of_not_le (fun z => g3 (nI_le z (by omega)))
            rw [hbl, decide_eq_true hys, if_pos rfl] at hs
            have hr := lfN_lt (n := m) hgn (by omega)
            have hadd := hB.add hgn (show m < 16384 by omega)
            rw [← hs] at hadd
            refine j_aload_n 1 dX6_layBursts_58 rfl (j_iload_n 0 dX6_layBursts_59 rfl (j_V1 dX6_layBursts_60 kX6_89 (by first | assumption | rfl) (c_left m0 e2 hgn (by omega) ?_)))
            refine j_istore_n (lv' := [(2, _), (1, _), (0, _)]) dX6_layBursts_63 rfl (j_aload_n 2 dX6_layBursts_64 rfl (j_getR (b := 201) dX6_layBursts_65 fX6_16 rfl (by first | assumption | rfl) (by first | assumption | rfl) (j_iload_n 0 dX6_layBursts_68 rfl (j_dup2 dX6_layBursts_69 rfl rfl (j_iaload (lfN gn m) dX6_layBursts_70 (by first | assumption | rfl) (by first | assumption | rfl) (by omega) (j_iconst (v := 1) dX6_layBursts_71 rfl (j_iadd dX6_layBursts_72 ?_)))))))
            rw [(hB.2 _ hr).1, nI_1]
            refine j_iastore (lfN gn m) dX6_layBursts_73 (by first | assumption | rfl) (by first | assumption | rfl) (by omega) (j_aload_n 2 dX6_layBursts_74 rfl (j_getR (b := 202) dX6_layBursts_75 fX6_19 rfl (by first | assumption | rfl) (by first | assumption | rfl) (j_iload_n 0 dX6_layBursts_78 rfl (j_iload_n 1 dX6_layBursts_79 rfl (j_iastore (lfN gn m) dX6_layBursts_80 (by first | assumption | rfl) (by first | assumption | rfl) (by omega) (j_aload_n 2 dX6_layBursts_81 rfl (j_dup dX6_layBursts_82 rfl (j_getI dX6_layBursts_83 fX6_76 (by first | assumption | rfl) (j_iconst (v := 1) dX6_layBursts_86 rfl (j_iadd dX6_layBursts_87 ?_))))))))))
            rw [upI_n (show 198 ≠ 202 by decide), upI_n (show 198 ≠ 201 by decide), hB.1, nI_1]
            refine j_putI dX6_layBursts_88 fX6_76 (by first | assumption | rfl) (j_iinc (y := 1) (lv' := [(1, _), (2, _), (0, _)]) 1 dX6_layBursts_91 rfl rfl rfl (j_goto (tgt := 33) dX6_layBursts_94 rfl ?_))
            rw [nI_1]
            exact JW.locals [0, 2] rfl (ih (m + 1) _ (by omega) (by omega) (fun a h1 h2 h3 => by rw [upI_n h1, upI_n h3, upI_n h2]; exact e a h1 h2 h3) (fun j h1 h2 => by rw [upI_s, upd_n h1, upI_n (by decide), upI_n (by decide)]; exact e8 j h1 h2) hadd (by rw [upI_s, upd_n (by decide), upI_n (by decide), upI_n (by decide)]; exact h9))
  have first : ∀ (m k : Nat) (I1 : IT), k + m = 64 → (∀ a, a ≠ 198 → a ≠ 201 → a ≠ 202 → I1 a = I a) → (∀ j, j ≠ 8 → j ≠ 9 → I1 198 j = I 198 j) → I1 198 8 = 0 → I1 198 9 = 0 → (∀ r, r < k → I1 201 r = 0) → JW g mX6_layBursts (rmO 2 0 0) (QM Post 0 0) 12 [(1, .int (nI k)), (0, .ref 198)] [] 0 0 Z I1 L := by
    intro m
    induction m with
    | zero =>
      intro k I1 hk e e8 h8 h9 hr
      have : k = 64 := by omega
      subst this
      refine j_iload_n 0 dX6_layBursts_12 rfl (j_bipush (v := 64) dX6_layBursts_13 rfl (j_icmp_ge (tgt := 31) dX6_layBursts_15 rfl (fun g1 => ?_) (fun g1 => ?_)))
      · refine j_iconst (v := 1) dX6_layBursts_31 rfl (j_istore_n (lv' := [(1, _), (0, _)]) dX6_layBursts_32 rfl ?_)
        have hml : ML w 1 = [] := by
          rw [show (1 : Nat) = 0 + 1 from rfl, ML_s, if_neg]
          · rfl
          · unfold isB
            rw [decide_eq_false (Nat.lt_irrefl 0), Bool.false_and]
            decide
        refine JW.locals [0, 1] rfl (main 16383 1 I1 rfl (by decide) e e8 ?_ h9)
        rw [hml]
        exact ⟨h8, fun r hr2 => ⟨hr r hr2, fun x hx => absurd hx (by rw [wiR_nil]; exact (List.cons_ne_nil x []).symm)⟩⟩
      · exact absurd (by decide) g1
    | succ m ih =>
      intro k I1 hk e e8 h8 h9 hr
      refine j_iload_n 0 dX6_layBursts_12 rfl (j_bipush (v := 64) dX6_layBursts_13 rfl (j_icmp_ge (tgt := 31) dX6_layBursts_15 rfl (fun g1 => ?_) (fun g1 => ?_)))
      · exact absurd g1 (nI_ge (b := 64) (by omega) (by decide))
      · refine j_aload_n 1 dX6_layBursts_18 rfl (j_getR (b := 201) dX6_layBursts_19 fX6_16 rfl (by first | assumption | rfl) (by first | assumption | rfl) (j_iload_n 0 dX6_layBursts_22 rfl (j_iconst (v := 0) dX6_layBursts_23 rfl (j_iastore k dX6_layBursts_24 (by first | assumption | rfl) (by first | assumption | rfl) (by omega) (j_iinc (y := 1) (lv' := [(1, _), (0, _)]) 0 dX6_layBursts_25 rfl rfl rfl (j_goto (tgt := 12) dX6_layBursts_28 rfl ?_))))))
        rw [nI_1]
        refine ih (k + 1) _ (by omega) (fun a h1 h2 h3 => by rw [upI_n h2]; exact e a h1 h2 h3) (fun j h1 h2 => by rw [upI_n (by decide)]; exact e8 j h1 h2) (by rw [upI_n (by decide)]; exact h8) (by rw [upI_n (by decide)]; exact h9) (fun r hr2 => ?_)
        rw [upI_s, upd_app]
        by_cases er : r = k
        · rw [if_pos er]
        · rw [if_neg er]
          exact hr r (by omega)
  refine j_aload_n 0 dX6_layBursts_0 rfl (j_iconst (v := 0) dX6_layBursts_1 rfl (j_putI dX6_layBursts_2 fX6_76 (by first | assumption | rfl) (j_aload_n 0 dX6_layBursts_5 rfl (j_iconst (v := 0) dX6_layBursts_6 rfl (j_putI dX6_layBursts_7 fX6_79 (by first | assumption | rfl) (j_iconst (v := 0) dX6_layBursts_10 rfl (j_istore_n (lv' := [(1, _), (0, _)]) dX6_layBursts_11 rfl ?_)))))))
  exact JW.locals [0, 1] rfl (first 64 0 _ rfl (fun a h1 _ _ => by rw [upI_n h1, upI_n h1]) (fun j h1 h2 => by rw [upI_s, upd_n h2, upI_s, upd_n h1]) (by rw [upI_s, upd_n (by decide), upI_s, upd_s]) (by rw [upI_s, upd_s]) (fun r hr => absurd hr (Nat.not_lt_zero _)))
theorem q_station_l {g : GT} {Z : ZT} {I : IT} {L : LT} {Post : PT} {t : Nat → Nat} {n : Nat} {c : CT} {w : Nat} {ρ : RT} {A : Nat × Nat × (Nat → RT)} {K : (Nat → RT) × (Nat → Bool)} {E : (Nat → Int32) × (Nat → Nat) × (Nat → Nat) × Nat} {sd : Int64}  (hM : isM Z) (hs : MSt t n c w ρ A K E sd I L) (ho : OKs c w ρ A K E) (hf : fauF t n ≠ -9) (hp : ∀ I', MSt t n c w ρ A K E sd I' L → eqC I I' → Post (some (.int (-3))) Z I' L) : CM g 3 0 0 mX6_station [.ref 198] Z I L Post := by
  obtain ⟨m0, f0, f3, f6, f7, f10, f11, f12, f15, f16, f17, f18, f19, f22, f24, k199, l199, k200, l200, k201, l201, k202, l202, k203, l203, k204, l204, k205, l205, k206, l206, k207, l207, k208, l208, k209, l209, k210, l210, k211, l211, k212, l212⟩ := id hM
  have hMo : isMo Z := ⟨m0, f3, f6, f7, k200, l200, k201, l201, k202, l202⟩
  obtain ⟨sT, ⟨sC, s4, s8, s9⟩, sN, sA, sK, sE, sL, sZ⟩ := id hs
  obtain ⟨oC, oW, oN, oA, oK, oE⟩ := id ho
  refine CM_intro ?_
  refine j_aload_n 0 dX6_station_0 rfl (j_V0 dX6_station_1 kX6_114 (by first | assumption | rfl) (c_readText hM sT (fun I1 hF hR => ?_)))
  refine j_bipush (v := -9) dX6_station_4 rfl (j_icmp_eq (tgt := 12) dX6_station_6 rfl (fun g1 => ?_) (fun g1 => ?_))
  · exact absurd g1 hf
  · refine j_bipush (v := -3) dX6_station_9 rfl (j_iret dX6_station_11 ?_)
    exact hp I1 (hs.scr hF.2 (fun a h1 h2 _ => hF.1 a (by omega) (by omega)) (by rw [hF.1 204 (by decide) (by decide)]; exact sZ)) (fun a ha => hF.1 a (by omega) (by omega))

theorem q_station {g : GT} {Z : ZT} {I : IT} {L : LT} {Post : PT} {t : Nat → Nat} {n : Nat} {c : CT} {w : Nat} {ρ : RT} {A : Nat × Nat × (Nat → RT)} {K : (Nat → RT) × (Nat → Bool)} {E : (Nat → Int32) × (Nat → Nat) × (Nat → Nat) × Nat} {sd : Int64}  (hM : isM Z) (hs : MSt t n c w ρ A K E sd I L) (ho : OKs c w ρ A K E) (hf : fauF t n = -9) (hp : ∀ I', MSt t n (stC t) (t 11 - 48) fr0 (A.1, 0, A.2.2) (K.1, fun _ => false) E sd I' L → eqC I I' → Post (some (.int (nI (nuN t 1)))) Z I' L) : CM g 3 0 0 mX6_station [.ref 198] Z I L Post := by
  obtain ⟨m0, f0, f3, f6, f7, f10, f11, f12, f15, f16, f17, f18, f19, f22, f24, k199, l199, k200, l200, k201, l201, k202, l202, k203, l203, k204, l204, k205, l205, k206, l206, k207, l207, k208, l208, k209, l209, k210, l210, k211, l211, k212, l212⟩ := id hM
  have hMo : isMo Z := ⟨m0, f3, f6, f7, k200, l200, k201, l201, k202, l202⟩
  obtain ⟨sT, ⟨sC, s4, s8, s9⟩, sN, sA, sK, sE, sL, sZ⟩ := id hs
  obtain ⟨oC, oW, oN, oA, oK, oE⟩ := id ho
  refine CM_intro ?_
  have hst := stx_of (fau_ok hf).2
  obtain ⟨s1, s2, s3, s5, s6, s7, s10, s11⟩ := id hst
  have rest : ∀ (I1 : IT), FR I I1 → RD I1 t 13 → ∀ I2 : IT, (∀ a, a ≠ 198 → a ≠ 200 → I2 a = I1 a) → (∀ j, j ≠ 2 → I2 198 j = I1 198 j) → I2 198 2 = nI (nuN t 1) → (∀ o, o < 4 → I2 200 o = nI (nuN t (3 + 2 * o))) → ∀ x : Int32, JW g mX6_station (rmO 3 0 0) (QM Post 0 0) 45 [(1, .int x), (0, .ref 198)] [] 0 0 Z I2 L := by
    intro I1 hF hR I2 e e8 eg eo x
    refine j_aload_n 1 dX6_station_45 rfl (j_aload_n 1 dX6_station_46 rfl (j_getI dX6_station_47 fX6_105 (by first | assumption | rfl) ?_))
    rw [e8 25 (by decide), hR.2.2.2.1 (by decide)]
    refine j_putI dX6_station_50 fX6_82 (by first | assumption | rfl) (j_aload_n 1 dX6_station_53 rfl (j_aload_n 1 dX6_station_54 rfl (j_getI dX6_station_55 fX6_108 (by first | assumption | rfl) ?_)))
    rw [upI_s, upd_n (show 26 ≠ 4 by decide), e8 26 (by decide), hR.2.2.2.2 (by decide)]
    refine j_putI dX6_station_58 fX6_57 (by first | assumption | rfl) (j_aload_n 1 dX6_station_61 rfl (j_V0 dX6_station_62 kX6_60 (by first | assumption | rfl) (c_layBursts (gn := nuN t 1) (w := t 11 - 48) hM s1 s6 (by rw [upI_s, upd_n (by decide), upI_s, upd_n (by decide)]; exact eg) (by rw [upI_s, upd_n (by decide), upI_s, upd_s]) (fun I3 e3 e38 q8 q9 qs => ?_))))
    have a3 : ∀ a, a ≠ 198 → a ≠ 200 → a ≠ 201 → a ≠ 202 → a ≠ 212 → I3 a = I a := fun a h1 h2 h3 h4 h5 => by
      rw [e3 a h1 h3 h4, upI_n h1, upI_n h1, e a h1 h2]
      exact hF.1 a h1 h5
    have f3 : ∀ j, j < 23 → j ≠ 2 → j ≠ 4 → j ≠ 5 → j ≠ 8 → j ≠ 9 → I3 198 j = I 198 j := fun j hj h2 h4 h5 h8 h9 => by
      rw [e38 j h8 h9, upI_s, upd_n h5, upI_s, upd_n h4, e8 j h2]
      exact hF.2 j hj
    have n3 : I3 203 = ρ := (a3 203 (by decide) (by decide) (by decide) (by decide) (by decide)).trans sN
    have g3 : I3 198 2 = nI (nuN t 1) := by rw [e38 2 (by decide) (by decide), upI_s, upd_n (by decide), upI_s, upd_n (by decide)]; exact eg
    have w3 : I3 198 4 = nI (t 11 - 48) := by rw [e38 4 (by decide) (by decide), upI_s, upd_n (by decide), upI_s, upd_s]
    have h3 : I3 198 5 = nI (t 12 - 48) := by rw [e38 5 (by decide) (by decide), upI_s, upd_s]
    have o3 : ∀ o, o < 4 → I3 200 o = nI (nuN t (3 + 2 * o)) := fun o ho => by rw [e3 200 (by decide) (by decide) (by decide), upI_n (by decide), upI_n (by decide)]; exact eo o ho
    refine j_aload_n 1 dX6_station_65 rfl (j_V0 dX6_station_66 kX6_63 (by first | assumption | rfl) (c_fresh m0 f10 k203 l203 (by rw [n3]; exact oN.2) ?_))
    refine j_aload_n 1 dX6_station_69 rfl (j_iconst (v := 0) dX6_station_70 rfl (j_putI dX6_station_71 fX6_118 (by first | assumption | rfl) (j_aload_n 1 dX6_station_74 rfl (j_getR (b := 207) dX6_station_75 fX6_34 rfl (by first | assumption | rfl) (by first | assumption | rfl) (j_iconst (v := 0) dX6_station_78 rfl (j_iconst (v := 0) dX6_station_79 rfl (j_bastore 0 dX6_station_80 (by first | assumption | rfl) (by decide) (by first | assumption | rfl) (by omega) (j_aload_n 1 dX6_station_81 rfl (j_getR (b := 207) dX6_station_82 fX6_34 rfl (by first | assumption | rfl) (by first | assumption | rfl) (j_iconst (v := 1) dX6_station_85 rfl (j_iconst (v := 0) dX6_station_86 rfl (j_bastore 1 dX6_station_87 (by first | assumption | rfl) (by decide) (by first | assumption | rfl) (by omega) (j_aload_n 1 dX6_station_88 rfl (j_getI dX6_station_89 fX6_53 (by first | assumption | rfl) ?_))))))))))))))
    rw [upI_n (show 198 ≠ 207 by decide), upI_n (show 198 ≠ 207 by decide), upI_s, upd_n (show 2 ≠ 13 by decide), upR_n (show 198 ≠ 203 by decide), g3]
    refine j_iret dX6_station_92 ?_
    have pl : ∀ a, a ≠ 198 → a ≠ 203 → a ≠ 207 → upI (upI (upI (upR I3 203 fr0) 198 13 0) 207 0 0) 207 1 0 a = I3 a := fun a h1 h2 h3 => by rw [upI_n h3, upI_n h3, upI_n h1, upR_n h2]
    have p8 : ∀ j, j ≠ 13 → upI (upI (upI (upR I3 203 fr0) 198 13 0) 207 0 0) 207 1 0 198 j = I3 198 j := fun j h => by rw [upI_n (by decide), upI_n (by decide), upI_s, upd_n h, upR_n (by decide)]
    have hcl : MC (upI (upI (upI (upR I3 203 fr0) 198 13 0) 207 0 0) 207 1 0) (stC t) := by
      refine ⟨(p8 2 (by decide)).trans g3, s1, fun k hk => by rw [pl 200 (by decide) (by decide) (by decide)]; exact o3 k hk, s3, (p8 5 (by decide)).trans h3, s7, s10, fun r hr => by rw [pl 201 (by decide) (by decide) (by decide), pl 202 (by decide) (by decide) (by decide)]; exact qs r hr, fun r hr => suB_lt s6, s5⟩
    refine hp _ ⟨sT.up (by rw [p8 1 (by decide), f3 1 (by decide) (by decide) (by decide) (by decide) (by decide) (by decide)]) (by rw [pl 199 (by decide) (by decide) (by decide), a3 199 (by decide) (by decide) (by decide) (by decide) (by decide)]), ⟨hcl, (p8 4 (by decide)).trans w3, (p8 8 (by decide)).trans q8, (p8 9 (by decide)).trans q9⟩, by rw [upI_n (by decide), upI_n (by decide), upI_n (by decide), upR_s], ⟨sA.1, Nat.zero_le _, by rw [p8 14 (by decide), f3 14 (by decide) (by decide) (by decide) (by decide) (by decide) (by decide)]; exact sA.2.2.1, by rw [upI_n (by decide), upI_n (by decide), upI_s, upd_s]; rfl, fun j hj => absurd hj (Nat.not_lt_zero _)⟩, fun i hi => ⟨?_, fun z => absurd z Bool.false_ne_true⟩, sE.fr (by rw [p8 20 (by decide), f3 20 (by decide) (by decide) (by decide) (by decide) (by decide) (by decide)]) (by rw [pl 208 (by decide) (by decide) (by decide), a3 208 (by decide) (by decide) (by decide) (by decide) (by decide)]) (by rw [pl 209 (by decide) (by decide) (by decide), a3 209 (by decide) (by decide) (by decide) (by decide) (by decide)]) (by rw [pl 210 (by decide) (by decide) (by decide), a3 210 (by decide) (by decide) (by decide) (by decide) (by decide)]), sL, by rw [pl 204 (by decide) (by decide) (by decide), a3 204 (by decide) (by decide) (by decide) (by decide) (by decide)]; exact sZ⟩ (fun a ha => by rw [pl a (by omega) (by omega) (by omega), a3 a (by omega) (by omega) (by omega) (by omega) (by omega)])
    rw [upI_s, upd_app, upI_s, upd_app]
    have : i = 0 ∨ i = 1 := by omega
    rcases this with e0 | e0 <;> subst e0 <;> rfl
  have loop : ∀ (I1 : IT), FR I I1 → RD I1 t 13 → ∀ (m k : Nat) (I2 : IT), k + m = 4 → (∀ a, a ≠ 198 → a ≠ 200 → I2 a = I1 a) → (∀ j, j ≠ 2 → I2 198 j = I1 198 j) → I2 198 2 = nI (nuN t 1) → (∀ o, o < k → I2 200 o = nI (nuN t (3 + 2 * o))) → JW g mX6_station (rmO 3 0 0) (QM Post 0 0) 22 [(1, .int (nI k)), (0, .ref 198)] [] 0 0 Z I2 L := by
    intro I1 hF hR m
    induction m with
    | zero =>
      intro k I2 hk e e8 eg eo
      have : k = 4 := by omega
      subst this
      refine j_iload_n 0 dX6_station_22 rfl (j_iconst (v := 4) dX6_station_23 rfl (j_icmp_ge (tgt := 45) dX6_station_24 rfl (fun g1 => ?_) (fun g1 => ?_)))
      · exact rest I1 hF hR I2 e e8 eg eo _
      · exact absurd (by decide) g1
    | succ m ih =>
      intro k I2 hk e e8 eg eo
      have hk4 : k < 4 := by omega
      refine j_iload_n 0 dX6_station_22 rfl (j_iconst (v := 4) dX6_station_23 rfl (j_icmp_ge (tgt := 45) dX6_station_24 rfl (fun g1 => ?_) (fun g1 => ?_)))
      · exact absurd g1 (nI_ge (b := 4) (by omega) (by decide))
      · refine j_aload_n 1 dX6_station_27 rfl (j_getR (b := 200) dX6_station_28 fX6_13 rfl (by first | assumption | rfl) (by first | assumption | rfl) (j_iload_n 0 dX6_station_31 rfl (j_aload_n 1 dX6_station_32 rfl (j_getR (b := 212) dX6_station_33 fX6_50 rfl (by first | assumption | rfl) (by first | assumption | rfl) (j_iload_n 0 dX6_station_36 rfl (j_iaload k dX6_station_37 (by first | assumption | rfl) (by first | assumption | rfl) (by omega) (j_iastore k dX6_station_38 (by first | assumption | rfl) (by first | assumption | rfl) (by omega) (j_iinc (y := 1) (lv' := [(1, _), (0, _)]) 0 dX6_station_39 rfl rfl rfl (j_goto (tgt := 22) dX6_station_42 rfl ?_)))))))))
        rw [nI_1]
        refine ih (k + 1) _ (by omega) (fun a h1 h2 => by rw [upI_n h2]; exact e a h1 h2) (fun j h => by rw [upI_n (by decide)]; exact e8 j h) (by rw [upI_n (by decide)]; exact eg) (fun o ho => ?_)
        rw [upI_s, upd_app]
        by_cases ek : o = k
        · rw [if_pos ek, e 212 (by decide) (by decide), ek]
          exact (hR.2.2.1 k hk4).2 (by omega)
        · rw [if_neg ek]
          exact eo o (by omega)
  refine j_aload_n 0 dX6_station_0 rfl (j_V0 dX6_station_1 kX6_114 (by first | assumption | rfl) (c_readText hM sT (fun I1 hF hR => ?_)))
  have hR := hR hf
  refine j_bipush (v := -9) dX6_station_4 rfl (j_icmp_eq (tgt := 12) dX6_station_6 rfl (fun g1 => ?_) (fun g1 => ?_))
  · refine j_aload_n 0 dX6_station_12 rfl (j_aload_n 0 dX6_station_13 rfl (j_getI dX6_station_14 fX6_99 (by first | assumption | rfl) ?_))
    rw [hR.2.1 (by decide)]
    refine j_putI dX6_station_17 fX6_53 (by first | assumption | rfl) (j_iconst (v := 0) dX6_station_20 rfl (j_istore_n (lv' := [(1, _), (0, _)]) dX6_station_21 rfl ?_))
    exact JW.locals [0, 1] rfl (loop I1 hF hR 4 0 _ rfl (fun a h1 _ => upI_n h1) (fun j h => by rw [upI_s, upd_n h]) (by rw [upI_s, upd_s]) (fun o ho => absurd ho (Nat.not_lt_zero _)))
  · exact absurd hf g1

