theorem fIx_snoc (p : Nat → Bool) : ∀ n k, fIx p (n + 1) k = if fIx p n k < k + n then fIx p n k else if p (k + n) then k + n else k + n + 1
  | 0, k => by
    show (if p k then k else k + 1) = (if k < k + 0 then k else if p (k + 0) then k + 0 else k + 0 + 1)
    exact (if_neg (show ¬ k < k + 0 from Nat.lt_irrefl k)).symm
  | n + 1, k => by
    have ih := fIx_snoc p n (k + 1)
    have hle := fIx_le p n (k + 1)
    show (if p k then k else fIx p (n + 1) (k + 1)) = _
    rw [ih, show fIx p (n + 1) k = if p k then k else fIx p n (k + 1) from rfl]
    by_cases h : p k = true
    · rw [if_pos h, if_pos h, if_pos (by omega)]
    · rw [if_neg h, if_neg h, show k + 1 + n = k + (n + 1) by omega]
set_option maxHeartbeats 1000000 in
theorem c_fillRows {g : GT} {Z : ZT} {I : IT} {L : LT} {Post : PT} {gn w hold : Nat} {o : Nat → Nat} (hZ : isCo Z) (hgn : gn < 64) (hod : gn % 2 = 1) (hw : w < 4) (h1 : 1 ≤ hold) (h9 : hold ≤ 9) (ho : ∀ k, k < 4 → o k < 64) (hinj : ∀ i j, i < 4 → j < 4 → o i = o j → i = j) (eg : I 3 4 = nI gn) (eo : ∀ k, k < 4 → I 4 k = nI (o k)) (ew : I 3 5 = nI w) (eh : I 3 6 = nI hold) (hp : ∀ I', (∀ a, a ≠ 3 → a ≠ 5 → a ≠ 6 → a ≠ 7 → I' a = I a) → (∀ j, j ≠ 7 → j ≠ 8 → I' 3 j = I 3 j) → CC I' (mkC gn o w hold) → I' 3 7 = nI (CL w).length → I' 3 8 = nI (snB gn w 64) → Post none Z I' L) : CM g 3 0 0 mX1_fillRows [.ref 3] Z I L Post := by
  obtain ⟨z1, z2, z3, z4, z5, z6, z7, z8, z9, z10, z11, z12, z13⟩ := id hZ
  refine CM_intro ?_
  -- which OFFSET a rest is
  have loop2 : ∀ (n k : Nat) (f5 f6 : Nat → Int32), k + n = 4 → (∀ d, d < 256 → f5 d = nI (lfN gn (64 * d))) → (∀ r, r < 64 → f6 r = if fIx (fun j => decide (o j = r)) k 0 = k then -9 else nI (fIx (fun j => decide (o j = r)) k 0)) → JW g mX1_fillRows (rmO 3 0 0) (QM Post 0 0) 87 [(1, .int (nI k)), (0, .ref 3)] [] 0 0 Z (upR (upR I 5 f5) 6 f6) L := by
    intro n
    induction n with
    | zero =>
      intro k f5 f6 hk q5 q6
      have : k = 4 := by omega
      subst this
      refine j_iload_n 0 dX1_fillRows_87 rfl (j_iconst (v := 4) dX1_fillRows_88 rfl (j_icmp_ge (tgt := 110) dX1_fillRows_89 rfl (fun h2 => ?_) (fun h2 => ?_)))
      · refine j_aload_n 1 dX1_fillRows_110 rfl (j_V0 dX1_fillRows_111 kX1_58 (by first | assumption | rfl) (c_findBursts hZ hgn hw (fun d hd => by rw [upR_n (by decide), upR_s]; exact q5 d hd) (by rw [upR_n (by decide), upR_n (by decide)]; exact ew) ?_))
        intro I' g1 g2 g3 g4 g5
        have e3 : ∀ j, j ≠ 7 → j ≠ 8 → I' 3 j = I 3 j := fun j h1 h2 => by rw [g2 j h1 h2, upR_n (by decide), upR_n (by decide)]
        refine j_vret dX1_fillRows_114 ?_
        refine hp I' (fun a h1 h2 h3 h4 => by rw [g1 a h1 h4, upR_n h3, upR_n h2]) e3 ⟨?_, hgn, fun k hk => ?_, ho, ?_, h1, h9, fun d hd => ?_, fun r hr => ?_, g5, fun r hr => suB_lt hw⟩ g3 g4
        · rw [e3 4 (by decide) (by decide)]; exact eg
        · rw [g1 4 (by decide) (by decide), upR_n (by decide), upR_n (by decide)]; exact eo k hk
        · rw [e3 6 (by decide) (by decide)]; exact eh
        · rw [g1 5 (by decide) (by decide), upR_n (by decide), upR_s]; exact q5 d hd
        · rw [g1 6 (by decide) (by decide), upR_s]; exact q6 r hr
      · exact absurd (by decide) h2
    | succ n ih =>
      intro k f5 f6 hk q5 q6
      have hk4 : k < 4 := by omega
      have hok := ho k hk4
      refine j_iload_n 0 dX1_fillRows_87 rfl (j_iconst (v := 4) dX1_fillRows_88 rfl (j_icmp_ge (tgt := 110) dX1_fillRows_89 rfl (fun h2 => ?_) (fun h2 => ?_)))
      · exact absurd h2 (nI_ge hk4 (by decide))
      · refine j_aload_n 1 dX1_fillRows_92 rfl (j_getR (b := 6) dX1_fillRows_93 fX1_18 rfl (by first | assumption | rfl) (by first | assumption | rfl) (j_aload_n 1 dX1_fillRows_96 rfl (j_getR (b := 4) dX1_fillRows_97 fX1_9 rfl (by first | assumption | rfl) (by first | assumption | rfl) (j_iload_n 0 dX1_fillRows_100 rfl (j_iaload k dX1_fillRows_101 (by first | assumption | rfl) (by first | assumption | rfl) (by omega) ?_)))))
        rw [upR_n (show 4 ≠ 6 by decide), upR_n (show 4 ≠ 5 by decide), eo k hk4]
        refine j_iload_n 0 dX1_fillRows_102 rfl (j_iastore (o k) dX1_fillRows_103 (by first | assumption | rfl) (by first | assumption | rfl) (by omega) (j_iinc (y := 1) (lv' := [(1, _), (0, _)]) 0 dX1_fillRows_104 rfl rfl rfl (j_goto (tgt := 87) dX1_fillRows_107 rfl ?_)))
        simp only [upI, upR_R, upR_s]
        rw [nI_1]
        refine JW.locals [0, 1] rfl (ih (k + 1) f5 _ (by omega) q5 (fun r hr => ?_))
        have hle := fIx_le (fun j => decide (o j = r)) k 0
        have hyes := fIx_yes (fun j => decide (o j = r)) k 0
        rw [fIx_snoc, show 0 + k = k by omega]
        by_cases e : r = o k
        · subst e
          have hno : ¬ fIx (fun j => decide (o j = o k)) k 0 < k := by
            intro z
            have y := hyes (by omega)
            have := hinj _ _ (by omega) hk4 (of_decide_eq_true y)
            omega
          rw [upd_s, if_neg hno, if_pos (decide_eq_true rfl), if_neg (by omega)]
        · rw [upd_n e, q6 r hr]
          by_cases z : fIx (fun j => decide (o j = r)) k 0 < k
          · rw [if_pos z, if_neg (by omega), if_neg (by omega)]
          · have z2 : fIx (fun j => decide (o j = r)) k 0 = k := by omega
            have z3 : ¬ decide (o k = r) = true := fun y => e (of_decide_eq_true y).symm
            rw [if_pos z2, if_neg z, if_neg z3, if_pos rfl]
  -- the rests of 64 d
  have loop1 : ∀ (n d : Nat) (f : Nat → Int32), d + n = 256 → 1 ≤ d → (∀ e, e < d → f e = nI (lfN gn (64 * e))) → JW g mX1_fillRows (rmO 3 0 0) (QM Post 0 0) 9 [(1, .int (nI d)), (0, .ref 3)] [] 0 0 Z (upR I 5 f) L := by
    intro n
    induction n with
    | zero =>
      intro d f hd h1 q
      have : d = 256 := by omega
      subst this
      refine j_iload_n 0 dX1_fillRows_9 rfl (j_sipush (v := 256) dX1_fillRows_10 rfl (j_icmp_ge (tgt := 76) dX1_fillRows_13 rfl (fun h2 => ?_) (fun h2 => ?_)))
      · refine j_aload_n 1 dX1_fillRows_76 rfl (j_getR (b := 6) dX1_fillRows_77 fX1_18 rfl (by first | assumption | rfl) (by first | assumption | rfl) (j_bipush (v := -9) dX1_fillRows_80 rfl (j_S2 dX1_fillRows_82 kX1_52 (c_fill z10 z11 (by decide) (j_iconst (v := 0) dX1_fillRows_85 rfl (j_istore_n (lv' := [(1, _), (0, _)]) dX1_fillRows_86 rfl ?_))))))
        exact JW.locals [0, 1] rfl (loop2 4 0 f _ rfl q (fun r hr => by rw [flF_i hr]; rfl))
      · exact absurd (by decide) h2
    | succ n ih =>
      intro d f hd h1 q
      have hd2 : d < 256 := by omega
      have hr := lfN_lt (n := 64 * (d / 2)) hgn (by omega)
      have hdr := drN_eq hgn hod h1 hd2
      unfold drN at hdr
      generalize hrr : lfN gn (64 * (d / 2)) = r at hr hdr
      have fin : ∀ sh : Nat, sh < 64 → (if 63 < 2 * r then (2 * r ^^^ gn) % 64 else 2 * r) = sh → JW g mX1_fillRows (rmO 3 0 0) (QM Post 0 0) 46 [(2, .int (nI (2 * r))), (1, .int (nI d)), (0, .ref 3)] [.int (nI sh)] 0 0 Z (upR I 5 f) L := by
        intro sh hsh esh
        rw [esh] at hdr
        have nxt : ∀ x : Nat, lfN gn (64 * d) = x → JW g mX1_fillRows (rmO 3 0 0) (QM Post 0 0) 69 [(3, .int (nI sh)), (2, .int (nI (2 * r))), (1, .int (nI d)), (0, .ref 3)] [.int (nI x), .int (nI d), .ref 5] 0 0 Z (upR I 5 f) L := by
          intro x hx
          refine j_iastore d dX1_fillRows_69 (by first | assumption | rfl) (by first | assumption | rfl) (by omega) (j_iinc (y := 1) (lv' := [(1, _), (3, _), (2, _), (0, _)]) 2 dX1_fillRows_70 rfl rfl rfl (j_goto (tgt := 9) dX1_fillRows_73 rfl ?_))
          simp only [upI, upR_R, upR_s]
          rw [nI_1]
          refine JW.locals [0, 3] rfl (ih (d + 1) _ (by omega) (by omega) (fun e he => ?_))
          by_cases e2 : e = d
          · subst e2; rw [upd_s, hx]
          · rw [upd_n e2]; exact q e (by omega)
        refine j_istore_n (lv' := [(3, _), (2, _), (1, _), (0, _)]) dX1_fillRows_46 rfl (j_aload_n 3 dX1_fillRows_47 rfl (j_getR (b := 5) dX1_fillRows_48 fX1_15 rfl (by first | assumption | rfl) (by first | assumption | rfl) (j_iload_n 2 dX1_fillRows_51 rfl (j_iload_n 2 dX1_fillRows_52 rfl (j_iconst (v := 1) dX1_fillRows_53 rfl (j_iand dX1_fillRows_54 (j_iconst (v := 1) dX1_fillRows_55 rfl ?_)))))))
        rw [and1]
        refine j_icmp_ne (tgt := 68) dX1_fillRows_56 rfl (fun h3 => ?_) (fun h3 => ?_)
        · rw [if_neg (fun z => h3 (by rw [z]; rfl))] at hdr
          refine j_iload_n 0 dX1_fillRows_68 rfl ?_
          exact nxt sh hdr
        · rw [if_pos (nI_inj (b := 1) (by omega) (by decide) h3)] at hdr
          refine j_iload_n 0 dX1_fillRows_59 rfl (j_aload_n 3 dX1_fillRows_60 rfl (j_getI dX1_fillRows_61 fX1_24 (by first | assumption | rfl) (j_ixor dX1_fillRows_64 (j_goto (tgt := 69) dX1_fillRows_65 rfl ?_))))
          rw [upR_n (show 3 ≠ 5 by decide), eg, fb_xorI]
          exact nxt _ hdr
      refine j_iload_n 0 dX1_fillRows_9 rfl (j_sipush (v := 256) dX1_fillRows_10 rfl (j_icmp_ge (tgt := 76) dX1_fillRows_13 rfl (fun h2 => ?_) (fun h2 => ?_)))
      · exact absurd h2 (nI_ge hd2 (by decide))
      · refine j_aload_n 1 dX1_fillRows_16 rfl (j_getR (b := 5) dX1_fillRows_17 fX1_15 rfl (by first | assumption | rfl) (by first | assumption | rfl) (j_iload_n 0 dX1_fillRows_20 rfl (j_iconst (v := 1) dX1_fillRows_21 rfl (j_ishr dX1_fillRows_22 (j_iaload (d / 2) dX1_fillRows_23 (shrI (s := d) (j := 1) (by omega) (by decide)) (by first | assumption | rfl) (by omega) (j_iconst (v := 1) dX1_fillRows_24 rfl (j_ishl dX1_fillRows_25 (j_istore_n (lv' := [(2, _), (1, _), (0, _)]) dX1_fillRows_26 rfl ?_))))))))
        rw [upR_s, q (d / 2) (by omega), hrr, show nI r <<< ((1 : Int32) &&& 31) = nI (2 * r) from (shlI (s := r) (j := 1) (by omega) (by decide)).trans (congrArg nI (by omega))]
        refine j_iload_n 0 dX1_fillRows_27 rfl (j_bipush (v := 63) dX1_fillRows_28 rfl (j_icmp_le (tgt := 45) dX1_fillRows_30 rfl (fun h3 => ?_) (fun h3 => ?_)))
        · have : ¬ 63 < 2 * r := fun z => absurd h3 (nI_ge (a := 63) z (by omega))
          refine j_iload_n 0 dX1_fillRows_45 rfl ?_
          exact fin (2 * r) (by omega) (if_neg this)
        · have : 63 < 2 * r := by
            rcases Nat.lt_or_ge 63 (2 * r) with z | z
            · exact z
            · exact absurd (nI_le (b := 63) z (by decide)) h3
          refine j_iload_n 0 dX1_fillRows_33 rfl (j_aload_n 2 dX1_fillRows_34 rfl (j_getI dX1_fillRows_35 fX1_24 (by first | assumption | rfl) (j_ixor dX1_fillRows_38 (j_bipush (v := 63) dX1_fillRows_39 rfl (j_iand dX1_fillRows_41 (j_goto (tgt := 46) dX1_fillRows_42 rfl ?_))))))
          rw [upR_n (show 3 ≠ 5 by decide), eg, fb_xorI, and63]
          exact fin _ (Nat.mod_lt _ (by decide)) (if_pos this)
  refine j_aload_n 0 dX1_fillRows_0 rfl (j_getR (b := 5) dX1_fillRows_1 fX1_15 rfl (by first | assumption | rfl) (by first | assumption | rfl) (j_iconst (v := 0) dX1_fillRows_4 rfl (j_iconst (v := 0) dX1_fillRows_5 rfl (j_iastore 0 dX1_fillRows_6 (by first | assumption | rfl) (by first | assumption | rfl) (by omega) (j_iconst (v := 1) dX1_fillRows_7 rfl (j_istore_n (lv' := [(1, _), (0, _)]) dX1_fillRows_8 rfl ?_))))))
  refine JW.locals [0, 1] rfl (loop1 255 1 _ rfl (by omega) (fun e he => ?_))
  have : e = 0 := by omega
  subst this
  rw [upd_s, Nat.mul_zero, lfN_id gn (by decide)]
  rfl
