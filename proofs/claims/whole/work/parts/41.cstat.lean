def sbI (g : Nat) (l : List Nat) (r : Nat) : Int32 := if wiR g l r = [] then 0 else if r ≠ 0 ∧ (wiR g l r).length = 1 then nI ((wiR g l r).headD 0) else -1
theorem sbI_nz {g r : Nat} {l : List Nat} (hl : ∀ x ∈ l, 0 < x ∧ x < 16384) : sbI g l r ≠ 0 ↔ wiR g l r ≠ [] := by
  unfold sbI
  split
  · rename_i h; exact ⟨fun z => absurd rfl z, fun z => absurd h z⟩
  · rename_i h
    refine ⟨fun _ => h, fun _ => ?_⟩
    split
    · rename_i h1
      match hw : wiR g l r, h1.2 with
      | [a], _ =>
        have := hl a (wiR_mem (by rw [hw]; exact List.mem_singleton.mpr rfl))
        exact nI_ne0 (n := a) this.1 (by omega)
    · decide
theorem sbI_same {g m r : Nat} {l : List Nat} (h : lfN g m ≠ r) : sbI g (l ++ [m]) r = sbI g l r := by unfold sbI; rw [wiR_app, if_neg h]
theorem sbI_new {g m : Nat} {l : List Nat} (hl : ∀ x ∈ l, 0 < x ∧ x < 16384) : sbI g (l ++ [m]) (lfN g m) = if lfN g m = 0 ∨ sbI g l (lfN g m) ≠ 0 then -1 else nI m := by
  have nz := sbI_nz (g := g) (r := lfN g m) hl
  have e : sbI g (l ++ [m]) (lfN g m) = if lfN g m ≠ 0 ∧ (wiR g l (lfN g m) ++ [m]).length = 1 then nI ((wiR g l (lfN g m) ++ [m]).headD 0) else -1 := by
    unfold sbI
    rw [wiR_app, if_pos rfl, if_neg (by simp)]
  rw [e]
  by_cases h0 : wiR g l (lfN g m) = []
  · rw [h0]
    by_cases hr : lfN g m = 0
    · rw [if_neg (fun z => z.1 hr), if_pos (Or.inl hr)]
    · rw [if_pos ⟨hr, rfl⟩, if_neg (fun z => z.elim hr (fun q => nz.mp q h0))]
      rfl
  · rw [if_pos (Or.inr (nz.mpr h0)), if_neg]
    intro z
    have hlen := z.2
    rw [List.length_append] at hlen
    have : 0 < (wiR g l (lfN g m)).length := List.length_pos_iff.mpr h0
    have : ([m] : List Nat).length = 1 := rfl
    omega
theorem sb_max {g w r : Nat} (hw : w < 4) : (if sbI g (CL w) r < 0 then 0 else sbI g (CL w) r) = nI (suB g w r) := by
  unfold sbI suB suL
  by_cases h0 : wiR g (CL w) r = []
  · rw [if_pos h0, h0, if_neg (show ¬ (r ≠ 0 ∧ ([] : List Nat).length = 1) by intro z; exact absurd z.2 (by decide))]
    rfl
  · rw [if_neg h0]
    by_cases h1 : r ≠ 0 ∧ (wiR g (CL w) r).length = 1
    · rw [if_pos h1, if_pos h1]
      match hl : wiR g (CL w) r, h1.2 with
      | [a], _ =>
        have := cl_lt w hw a (wiR_mem (by rw [hl]; exact List.mem_singleton.mpr rfl))
        exact if_neg (nI_pos (by show a < 2 ^ 31; omega))
    · rw [if_neg h1, if_neg h1]
      rfl
theorem c_noteBurst {g : GT} {Z : ZT} {I : IT} {L : LT} {Post : PT} {gn m : Nat} (hZ : isCo Z) (hgn : gn < 64) (h5 : ∀ d, d < 256 → I 5 d = nI (lfN gn (64 * d))) (hm : m < 16384) (hp : Post none Z (upI (upI I 7 (lfN gn m) (if lfN gn m = 0 ∨ I 7 (lfN gn m) ≠ 0 then -1 else nI m)) 3 7 (I 3 7 + 1)) L) : CM g 1 0 0 mX1_noteBurst [.ref 3, .int (nI m)] Z I L Post := by
  obtain ⟨z1, z2, z3, z4, z5, z6, z7, z8, z9, z10, z11, z12, z13⟩ := id hZ
  have hx := lfN_lt hgn hm
  refine CM_intro ?_
  refine j_aload_n 0 dX1_noteBurst_0 rfl (j_iload_n 1 dX1_noteBurst_1 rfl (j_V1 dX1_noteBurst_2 kX1_71 (by first | assumption | rfl) (c_cRestOf z1 z3 z8 z9 (h5 _ (by omega)) hm (j_istore_n (lv' := [(2, _), (0, _), (1, _)]) dX1_noteBurst_5 rfl ?_))))
  generalize lfN gn m = x at hx hp ⊢
  refine j_aload_n 1 dX1_noteBurst_6 rfl (j_getR (b := 7) dX1_noteBurst_7 fX1_21 rfl (by first | assumption | rfl) (by first | assumption | rfl) (j_iload_n 0 dX1_noteBurst_10 rfl (j_iload_n 0 dX1_noteBurst_11 rfl (j_if_eq (tgt := 24) dX1_noteBurst_12 rfl (fun h1 => ?_) (fun h1 => ?_)))))
  · rw [if_pos (Or.inl (nI_inj (b := 0) (by omega) (by decide) h1))] at hp
    refine j_iconst (v := -1) dX1_noteBurst_24 rfl (j_goto (tgt := 29) dX1_noteBurst_25 rfl (j_iastore x dX1_noteBurst_29 (by first | assumption | rfl) (by first | assumption | rfl) (by omega) (j_aload_n 1 dX1_noteBurst_30 rfl (j_dup dX1_noteBurst_31 rfl (j_getI dX1_noteBurst_32 fX1_34 (by first | assumption | rfl) (j_iconst (v := 1) dX1_noteBurst_35 rfl (j_iadd dX1_noteBurst_36 (j_putI dX1_noteBurst_37 fX1_34 (by first | assumption | rfl) (j_vret dX1_noteBurst_40 ?_)))))))))
    exact hp
  · have hx0 : x ≠ 0 := fun z => h1 (by rw [z]; rfl)
    refine j_aload_n 1 dX1_noteBurst_15 rfl (j_getR (b := 7) dX1_noteBurst_16 fX1_21 rfl (by first | assumption | rfl) (by first | assumption | rfl) (j_iload_n 0 dX1_noteBurst_19 rfl (j_iaload x dX1_noteBurst_20 (by first | assumption | rfl) (by first | assumption | rfl) (by omega) (j_if_eq (tgt := 28) dX1_noteBurst_21 rfl (fun h2 => ?_) (fun h2 => ?_)))))
    · rw [if_neg (by intro z; rcases z with z | z; exact hx0 z; exact z h2)] at hp
      refine j_iload_n 2 dX1_noteBurst_28 rfl (j_iastore x dX1_noteBurst_29 (by first | assumption | rfl) (by first | assumption | rfl) (by omega) (j_aload_n 1 dX1_noteBurst_30 rfl (j_dup dX1_noteBurst_31 rfl (j_getI dX1_noteBurst_32 fX1_34 (by first | assumption | rfl) (j_iconst (v := 1) dX1_noteBurst_35 rfl (j_iadd dX1_noteBurst_36 (j_putI dX1_noteBurst_37 fX1_34 (by first | assumption | rfl) (j_vret dX1_noteBurst_40 ?_))))))))
      exact hp
    · rw [if_pos (Or.inr h2)] at hp
      refine j_iconst (v := -1) dX1_noteBurst_24 rfl (j_goto (tgt := 29) dX1_noteBurst_25 rfl (j_iastore x dX1_noteBurst_29 (by first | assumption | rfl) (by first | assumption | rfl) (by omega) (j_aload_n 1 dX1_noteBurst_30 rfl (j_dup dX1_noteBurst_31 rfl (j_getI dX1_noteBurst_32 fX1_34 (by first | assumption | rfl) (j_iconst (v := 1) dX1_noteBurst_35 rfl (j_iadd dX1_noteBurst_36 (j_putI dX1_noteBurst_37 fX1_34 (by first | assumption | rfl) (j_vret dX1_noteBurst_40 ?_)))))))))
      exact hp
/-- while BURSTS are found -/
def FB (I0 I : IT) (gn : Nat) (l : List Nat) : Prop := (∀ a, a ≠ 3 → a ≠ 7 → I a = I0 a) ∧ (∀ j, j ≠ 7 → I 3 j = I0 3 j) ∧ I 3 7 = nI l.length ∧ (∀ r, r < 64 → I 7 r = sbI gn l r) ∧ (∀ x ∈ l, 0 < x ∧ x < 16384)
theorem FB.add {I0 I : IT} {gn m : Nat} {l : List Nat} (hg : gn < 64) (h : FB I0 I gn l) (h0 : 0 < m) (hm : m < 16384) : FB I0 (upI (upI I 7 (lfN gn m) (if lfN gn m = 0 ∨ I 7 (lfN gn m) ≠ 0 then -1 else nI m)) 3 7 (I 3 7 + 1)) gn (l ++ [m]) := by
  obtain ⟨f1, f2, f3, f4, f5⟩ := h
  have hx := lfN_lt hg hm
  refine ⟨fun a h1 h2 => ?_, fun j hj => ?_, ?_, fun r hr => ?_, fun x hx => ?_⟩
  · rw [upI_n h1, upI_n h2]; exact f1 a h1 h2
  · rw [upI_s, upd_n hj, upI_n (by decide)]; exact f2 j hj
  · rw [upI_s, upd_s, f3, nI_1, List.length_append]; rfl
  · rw [upI_n (by decide), upI_s]
    by_cases e : r = lfN gn m
    · subst e
      rw [upd_s, f4 _ hr, sbI_new f5]
    · rw [upd_n e, f4 r hr, sbI_same (fun z => e z.symm)]
  · rcases List.mem_append.mp hx with z | z
    · exact f5 x z
    · rw [List.mem_singleton.mp z]; exact ⟨h0, hm⟩
def shP (i u : Nat) : List Nat := ((List.range u).map (fun u => (2 * i + 1) * 2 ^ u)).filter (fun m => decide (m ≤ 16383))
theorem shP_s (i u : Nat) : shP i (u + 1) = shP i u ++ (if (2 * i + 1) * 2 ^ u ≤ 16383 then [(2 * i + 1) * 2 ^ u] else []) := by
  unfold shP
  rw [List.range_succ, List.map_append, List.filter_append, List.map_cons, List.map_nil, List.filter_cons, List.filter_nil]
  by_cases h : (2 * i + 1) * 2 ^ u ≤ 16383
  · simp [h]
  · simp [h]
theorem CLn_stop {w : Nat} (hw : w < 4) {i : Nat} (hi : i ≤ 4) (h : 2 ^ w ≤ 2 * i + 1) : CLn w i = CL w := by
  unfold CL
  rcases (show w = 0 ∨ w = 1 ∨ w = 2 ∨ w = 3 by omega) with rfl | rfl | rfl | rfl <;> rcases (show i = 0 ∨ i = 1 ∨ i = 2 ∨ i = 3 ∨ i = 4 by omega) with rfl | rfl | rfl | rfl | rfl <;> first | rfl | (exfalso; revert h; decide)
set_option maxHeartbeats 1000000 in
theorem c_findBursts {g : GT} {Z : ZT} {I : IT} {L : LT} {Post : PT} {gn w : Nat} (hZ : isCo Z) (hgn : gn < 64) (hw : w < 4) (h5 : ∀ d, d < 256 → I 5 d = nI (lfN gn (64 * d))) (hlo : I 3 5 = nI w) (hp : ∀ I', (∀ a, a ≠ 3 → a ≠ 7 → I' a = I a) → (∀ j, j ≠ 7 → j ≠ 8 → I' 3 j = I 3 j) → I' 3 7 = nI (CL w).length → I' 3 8 = nI (snB gn w 64) → (∀ r, r < 64 → I' 7 r = nI (suB gn w r)) → Post none Z I' L) : CM g 2 0 0 mX1_findBursts [.ref 3] Z I L Post := by
  obtain ⟨z1, z2, z3, z4, z5, z6, z7, z8, z9, z10, z11, z12, z13⟩ := id hZ
  refine CM_intro ?_
  -- the last loop
  have last : ∀ (m r : Nat) (I' : IT), r + m = 64 → (∀ a, a ≠ 3 → a ≠ 7 → I' a = I a) → (∀ j, j ≠ 7 → j ≠ 8 → I' 3 j = I 3 j) → I' 3 7 = nI (CL w).length → I' 3 8 = nI (snB gn w r) → (∀ k, k < r → I' 7 k = nI (suB gn w k)) → (∀ k, r ≤ k → k < 64 → I' 7 k = sbI gn (CL w) k) → JW g mX1_findBursts (rmO 2 0 0) (QM Post 0 0) 68 [(1, .int (nI r)), (0, .ref 3)] [] 0 0 Z I' L := by
    intro m
    induction m with
    | zero =>
      intro r I' hr q1 q2 q3 q4 q5 q6
      have : r = 64 := by omega
      subst this
      refine j_iload_n 0 dX1_findBursts_68 rfl (j_bipush (v := 63) dX1_findBursts_69 rfl (j_icmp_gt (tgt := 119) dX1_findBursts_71 rfl (fun h1 => ?_) (fun h1 => ?_)))
      · refine j_vret dX1_findBursts_119 ?_
        exact hp I' q1 q2 q3 q4 q5
      · exact absurd (by decide) h1
    | succ m ih =>
      intro r I' hr q1 q2 q3 q4 q5 q6
      have hr64 : r < 64 := by omega
      refine j_iload_n 0 dX1_findBursts_68 rfl (j_bipush (v := 63) dX1_findBursts_69 rfl (j_icmp_gt (tgt := 119) dX1_findBursts_71 rfl (fun h1 => ?_) (fun h1 => ?_)))
      · exact absurd h1 (nI_nlt (b := r) (a := 63) (by omega) (by omega))
      · refine j_aload_n 1 dX1_findBursts_74 rfl (j_getR (b := 7) dX1_findBursts_75 fX1_21 rfl (by first | assumption | rfl) (by first | assumption | rfl) (j_iload_n 0 dX1_findBursts_78 rfl (j_aload_n 1 dX1_findBursts_79 rfl (j_getR (b := 7) dX1_findBursts_80 fX1_21 rfl (by first | assumption | rfl) (by first | assumption | rfl) (j_iload_n 0 dX1_findBursts_83 rfl (j_iaload r dX1_findBursts_84 (by first | assumption | rfl) (by first | assumption | rfl) (by omega) (j_iconst (v := 0) dX1_findBursts_85 rfl (j_mmax dX1_findBursts_86 kX1_65 (j_iastore r dX1_findBursts_89 (by first | assumption | rfl) (by first | assumption | rfl) (by omega) ?_)))))))))
        rw [q6 r (Nat.le_refl _) hr64, sb_max hw]
        have hsu := suB_lt (g := gn) (r := r) hw
        have step : ∀ t : Nat, (if suB gn w r = 0 then 0 else 1) = t → JW g mX1_findBursts (rmO 2 0 0) (QM Post 0 0) 109 [(1, .int (nI r)), (0, .ref 3)] [.int (nI t), .int (I' 3 8), .ref 3] 0 0 Z (upI I' 7 r (nI (suB gn w r))) L := by
          intro t ht
          refine j_iadd dX1_findBursts_109 (j_putI dX1_findBursts_110 fX1_37 (by first | assumption | rfl) (j_iinc (y := 1) (lv' := [(1, _), (0, _)]) 0 dX1_findBursts_113 rfl rfl rfl (j_goto (tgt := 68) dX1_findBursts_116 rfl ?_)))
          rw [q4, nI_add, nI_1]
          refine JW.locals [0, 1] rfl (ih (r + 1) _ (by omega) (fun a h1 h2 => ?_) (fun j h1 h2 => ?_) ?_ ?_ (fun k hk => ?_) (fun k h1 h2 => ?_))
          · rw [upI_n h1, upI_n h2]; exact q1 a h1 h2
          · rw [upI_s, upd_n h2, upI_n (by decide)]; exact q2 j h1 h2
          · rw [upI_s, upd_n (by decide), upI_n (by decide)]; exact q3
          · rw [upI_s, upd_s, ← ht]; rfl
          · rw [upI_n (by decide), upI_s]
            by_cases e : k = r
            · subst e; rw [upd_s]
            · rw [upd_n e]; exact q5 k (by omega)
          · rw [upI_n (by decide), upI_s, upd_n (by omega)]; exact q6 k (by omega) h2
        refine j_aload_n 1 dX1_findBursts_90 rfl (j_dup dX1_findBursts_91 rfl (j_getI dX1_findBursts_92 fX1_37 (by first | assumption | rfl) (j_aload_n 1 dX1_findBursts_95 rfl (j_getR (b := 7) dX1_findBursts_96 fX1_21 rfl (by first | assumption | rfl) (by first | assumption | rfl) (j_iload_n 0 dX1_findBursts_99 rfl (j_iaload r dX1_findBursts_100 (by first | assumption | rfl) (by first | assumption | rfl) (by omega) ?_))))))
        rw [upI_n (show 3 ≠ 7 by decide), upI_s, upd_s]
        refine j_if_ne (tgt := 108) dX1_findBursts_101 rfl (fun h2 => ?_) (fun h2 => ?_)
        · refine j_iconst (v := 1) dX1_findBursts_108 rfl ?_
          exact step 1 (if_neg (fun z => h2 (by rw [z]; rfl)))
        · refine j_iconst (v := 0) dX1_findBursts_104 rfl (j_goto (tgt := 109) dX1_findBursts_105 rfl ?_)
          exact step 0 (if_pos (nI_inj (b := 0) (by omega) (by decide) h2))
  -- the shapes
  generalize hI0 : upI (upR I 7 (flF (I 7) 0 64)) 3 7 0 = I0
  have i0a : ∀ a, a ≠ 3 → a ≠ 7 → I0 a = I a := fun a h1 h2 => by rw [← hI0, upI_n h1, upR_n h2]
  have i03 : ∀ j, j ≠ 7 → I0 3 j = I 3 j := fun j h1 => by rw [← hI0, upI_s, upd_n h1, upR_n (by decide)]
  have hw8 : 2 ^ w ≤ 8 := by
    rcases (show w = 0 ∨ w = 1 ∨ w = 2 ∨ w = 3 by omega) with rfl | rfl | rfl | rfl <;> decide
  have e1w : (1 : Int32) <<< (nI w &&& 31) = nI (2 ^ w) := by rw [show (1 : Int32) = nI 1 from rfl, shlI (by omega) (by omega), Nat.one_mul]
  have exitL : ∀ (i : Nat) (I' : IT) (x : Int32), i ≤ 4 → 2 ^ w ≤ 2 * i + 1 → FB I0 I' gn (CLn w i) → JW g mX1_findBursts (rmO 2 0 0) (QM Post 0 0) 61 [(1, .int x), (0, .ref 3)] [] 0 0 Z I' L := by
    intro i I' x hi hx hF
    rw [CLn_stop hw hi hx] at hF
    obtain ⟨f1, f2, f3, f4, f5⟩ := id hF
    refine j_aload_n 1 dX1_findBursts_61 rfl (j_iconst (v := 0) dX1_findBursts_62 rfl (j_putI dX1_findBursts_63 fX1_37 (by first | assumption | rfl) (j_iconst (v := 0) dX1_findBursts_66 rfl (j_istore_n (lv' := [(1, _), (0, _)]) dX1_findBursts_67 rfl ?_))))
    refine last 64 0 _ rfl (fun a h1 h2 => ?_) (fun j h1 h2 => ?_) ?_ ?_ (fun k hk => absurd hk (Nat.not_lt_zero k)) (fun k h1 h2 => ?_)
    · rw [upI_n h1, f1 a h1 h2, i0a a h1 h2]
    · rw [upI_s, upd_n h2, f2 j h1, i03 j h1]
    · rw [upI_s, upd_n (by decide)]; exact f3
    · rw [upI_s, upd_s]; rfl
    · rw [upI_n (by decide)]; exact f4 k h2
  have outer : ∀ (m i : Nat) (I' : IT), i + m = 4 → FB I0 I' gn (CLn w i) → JW g mX1_findBursts (rmO 2 0 0) (QM Post 0 0) 15 [(1, .int (nI (2 * i + 1))), (0, .ref 3)] [] 0 0 Z I' L := by
    intro m
    induction m with
    | zero =>
      intro i I' hi hF
      have e5 : I' 3 5 = nI w := by rw [hF.2.1 5 (by decide), i03 5 (by decide)]; exact hlo
      refine j_iload_n 0 dX1_findBursts_15 rfl (j_iconst (v := 1) dX1_findBursts_16 rfl (j_aload_n 1 dX1_findBursts_17 rfl (j_getI dX1_findBursts_18 fX1_28 (by first | assumption | rfl) (j_ishl dX1_findBursts_21 ?_))))
      rw [e5, e1w]
      refine j_icmp_ge (tgt := 61) dX1_findBursts_22 rfl (fun h1 => ?_) (fun h1 => ?_)
      · exact exitL i I' _ (by omega) (by omega) hF
      · exact absurd (nI_le (show 2 ^ w ≤ 2 * i + 1 by omega) (by omega)) h1
    | succ m ih =>
      intro i I' hi hF
      have e5 : I' 3 5 = nI w := by rw [hF.2.1 5 (by decide), i03 5 (by decide)]; exact hlo
      have inner : 2 * i + 1 < 2 ^ w → ∀ (n u : Nat) (I' : IT), u + n = 14 → FB I0 I' gn (CLn w i ++ shP i u) → JW g mX1_findBursts (rmO 2 0 0) (QM Post 0 0) 27 [(2, .int (nI u)), (1, .int (nI (2 * i + 1))), (0, .ref 3)] [] 0 0 Z I' L := by
        intro hlt n
        induction n with
        | zero =>
          intro u I' hu hF
          have : u = 14 := by omega
          subst this
          refine j_iload_n 0 dX1_findBursts_27 rfl (j_bipush (v := 14) dX1_findBursts_28 rfl (j_icmp_ge (tgt := 55) dX1_findBursts_30 rfl (fun h1 => ?_) (fun h1 => ?_)))
          · refine j_iinc (y := 2) (lv' := [(1, _), (2, _), (0, _)]) 1 dX1_findBursts_55 rfl rfl rfl (j_goto (tgt := 15) dX1_findBursts_58 rfl ?_)
            rw [show nI (2 * i + 1) + 2 = nI (2 * (i + 1) + 1) from nI_add (2 * i + 1) 2]
            refine JW.locals [0, 2] rfl (ih (i + 1) I' (by omega) ?_)
            show FB I0 I' gn (CLn w i ++ shC w i)
            unfold shC
            rw [if_pos hlt]
            exact hF
          · exact absurd (by decide) h1
        | succ n ihn =>
          intro u I' hu hF
          have hp2 : 2 ^ u ≤ 2 ^ 13 := Nat.pow_le_pow_right (by decide) (by omega)
          have hpp : (2 * i + 1) * 2 ^ u ≤ 9 * 2 ^ 13 := Nat.mul_le_mul (by omega) hp2
          have hpos : 0 < (2 * i + 1) * 2 ^ u := Nat.mul_pos (by omega) (Nat.two_pow_pos u)
          have esh : nI (2 * i + 1) <<< (nI u &&& 31) = nI ((2 * i + 1) * 2 ^ u) := shlI (by omega) (by omega)
          have hs := shP_s i u
          refine j_iload_n 0 dX1_findBursts_27 rfl (j_bipush (v := 14) dX1_findBursts_28 rfl (j_icmp_ge (tgt := 55) dX1_findBursts_30 rfl (fun h1 => ?_) (fun h1 => ?_)))
          · exact absurd h1 (nI_ge (show u < 14 by omega) (by decide))
          · refine j_iload_n 1 dX1_findBursts_33 rfl (j_iload_n 0 dX1_findBursts_34 rfl (j_ishl dX1_findBursts_35 (j_sipush (v := 16383) dX1_findBursts_36 rfl ?_)))
            rw [esh]
            generalize (2 * i + 1) * 2 ^ u = x at hpp hpos esh hs ⊢
            refine j_icmp_gt (tgt := 49) dX1_findBursts_39 rfl (fun h2 => ?_) (fun h2 => ?_)
            · have hgt : ¬ x ≤ 16383 := fun z => absurd h2 (nI_nlt (a := 16383) z (by decide))
              rw [if_neg hgt, List.append_nil] at hs
              refine j_iinc (y := 1) (lv' := [(2, _), (1, _), (0, _)]) 0 dX1_findBursts_49 rfl rfl rfl (j_goto (tgt := 27) dX1_findBursts_52 rfl ?_)
              rw [nI_1]
              exact JW.locals [0, 1, 2] rfl (ihn (u + 1) I' (by omega) (by rw [hs]; exact hF))
            · have hle : x ≤ 16383 := by
                rcases Nat.lt_or_ge 16383 x with z | z
                · exact absurd (nI_lt (a := 16383) z (by omega)) h2
                · exact z
              rw [if_pos hle] at hs
              refine j_aload_n 2 dX1_findBursts_42 rfl (j_iload_n 1 dX1_findBursts_43 rfl (j_iload_n 0 dX1_findBursts_44 rfl (j_ishl dX1_findBursts_45 ?_)))
              rw [esh]
              refine j_V1 dX1_findBursts_46 kX1_61 (by first | assumption | rfl) (c_noteBurst hZ hgn (fun d hd => by rw [hF.1 5 (by decide) (by decide), i0a 5 (by decide) (by decide)]; exact h5 d hd) (show x < 16384 by omega) (j_iinc (y := 1) (lv' := [(2, _), (1, _), (0, _)]) 0 dX1_findBursts_49 rfl rfl rfl (j_goto (tgt := 27) dX1_findBursts_52 rfl ?_)))
              rw [nI_1]
              refine JW.locals [0, 1, 2] rfl (ihn (u + 1) _ (by omega) ?_)
              rw [hs, ← List.append_assoc]
              exact hF.add hgn hpos (by omega)
      refine j_iload_n 0 dX1_findBursts_15 rfl (j_iconst (v := 1) dX1_findBursts_16 rfl (j_aload_n 1 dX1_findBursts_17 rfl (j_getI dX1_findBursts_18 fX1_28 (by first | assumption | rfl) (j_ishl dX1_findBursts_21 ?_))))
      rw [e5, e1w]
      refine j_icmp_ge (tgt := 61) dX1_findBursts_22 rfl (fun h1 => ?_) (fun h1 => ?_)
      · refine exitL i I' _ (by omega) ?_ hF
        rcases Nat.lt_or_ge (2 * i + 1) (2 ^ w) with z | z
        · exact absurd h1 (nI_ge z (by omega))
        · exact z
      · refine j_iconst (v := 0) dX1_findBursts_25 rfl (j_istore_n (lv' := [(2, _), (1, _), (0, _)]) dX1_findBursts_26 rfl ?_)
        refine JW.locals [0, 1, 2] rfl (inner ?_ 14 0 I' rfl ?_)
        · rcases Nat.lt_or_ge (2 * i + 1) (2 ^ w) with z | z
          · exact z
          · exact absurd (nI_le z (by omega)) h1
        · rw [show shP i 0 = [] from rfl, List.append_nil]
          exact hF
  refine j_aload_n 0 dX1_findBursts_0 rfl (j_getR (b := 7) dX1_findBursts_1 fX1_21 rfl (by first | assumption | rfl) (by first | assumption | rfl) (j_iconst (v := 0) dX1_findBursts_4 rfl (j_S2 dX1_findBursts_5 kX1_52 (c_fill z12 z13 (by decide) (j_aload_n 0 dX1_findBursts_8 rfl (j_iconst (v := 0) dX1_findBursts_9 rfl (j_putI dX1_findBursts_10 fX1_34 (by first | assumption | rfl) (j_iconst (v := 1) dX1_findBursts_13 rfl (j_istore_n (lv' := [(1, _), (0, _)]) dX1_findBursts_14 rfl ?_)))))))))
  rw [hI0]
  refine outer 4 0 I0 rfl ⟨fun a _ _ => rfl, fun j _ => rfl, ?_, fun r hr => ?_, fun x hx => absurd hx List.not_mem_nil⟩
  · rw [← hI0, upI_s, upd_s]; rfl
  · rw [← hI0, upI_n (by decide), upR_s, flF_i hr]; rfl
