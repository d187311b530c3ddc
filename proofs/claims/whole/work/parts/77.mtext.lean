/-! THE REFERENCE READS THE TEXT -/
theorem c_isNew {g : GT} {Z : ZT} {I : IT} {L : LT} {Post : PT} {t : Nat → Nat} {k v : Nat} (m0 : zK Z 198 = 6) (f24 : zS Z 198 24 = true) (k212 : zK Z 212 = 7) (l212 : zL Z 212 = 4) (hk : k ≤ 4) (hv : v < 2 ^ 31) (hu : ∀ o, o < k → I 212 o = nI (nuN t (3 + 2 * o)) ∧ nuN t (3 + 2 * o) < 2 ^ 31) (hp : Post (some (.int (if (decide (v ≤ 63) && noN t v k) = true then 1 else 0))) Z I L) : CM g 0 0 0 mX6_isNew [.ref 198, .int (nI k), .int (nI v)] Z I L Post := by
  refine CM_intro ?_
  have loop : ∀ (m j : Nat) (b : Int32), j + m = k → b = (if (decide (v ≤ 63) && noN t v j) = true then 1 else 0) → JW g mX6_isNew (rmO 0 0 0) (QM Post 0 0) 15 [(4, .int (nI j)), (3, .int b), (0, .ref 198), (1, .int (nI k)), (2, .int (nI v))] [] 0 0 Z I L := by
    intro m
    induction m with
    | zero =>
      intro j b hj hb
      have : j = k := by omega
      subst this
      refine j_iload 0 dX6_isNew_15 rfl (j_iload_n 3 dX6_isNew_17 rfl (j_icmp_ge (tgt := 48) dX6_isNew_18 rfl (fun g1 => ?_) (fun g1 => ?_)))
      · refine j_iload_n 1 dX6_isNew_48 rfl (j_zret dX6_isNew_49 (by rw [hb]; split; exact Or.inr rfl; exact Or.inl rfl) ?_)
        rw [hb]
        exact hp
      · exact absurd (nI_le (Nat.le_refl _) (by omega)) g1
    | succ m ih =>
      intro j b hj hb
      have hst : noN t v (j + 1) = (noN t v j && decide (nuN t (3 + 2 * j) ≠ v)) := rfl
      have huj := hu j (by omega)
      refine j_iload 0 dX6_isNew_15 rfl (j_iload_n 3 dX6_isNew_17 rfl (j_icmp_ge (tgt := 48) dX6_isNew_18 rfl (fun g1 => ?_) (fun g1 => ?_)))
      · exact absurd g1 (nI_ge (by omega) (by omega))
      · refine j_iload_n 1 dX6_isNew_21 rfl (j_if_eq (tgt := 40) dX6_isNew_22 rfl (fun g2 => ?_) (fun g2 => ?_))
        · have hbf : (decide (v ≤ 63) && noN t v j) = false := by
            cases h : (decide (v ≤ 63) && noN t v j) with
            | false => rfl
            | true =>
              rw [h, if_pos rfl] at hb
              rw [hb] at g2
              exact absurd g2 (by decide)
          refine j_iconst (v := 0) dX6_isNew_40 rfl (j_istore_n (lv' := [(3, _), (4, _), (0, _), (1, _), (2, _)]) dX6_isNew_41 rfl (j_iinc (y := 1) (lv' := [(4, _), (3, _), (0, _), (1, _), (2, _)]) 1 dX6_isNew_42 rfl rfl rfl (j_goto (tgt := 15) dX6_isNew_45 rfl ?_)))
          rw [nI_1]
          refine JW.locals [0, 1, 2, 3, 4] rfl (ih (j + 1) 0 (by omega) ?_)
          rw [hst, ← Bool.and_assoc, hbf, Bool.false_and, if_neg (by decide)]
        · have hbt : (decide (v ≤ 63) && noN t v j) = true := by
            cases h : (decide (v ≤ 63) && noN t v j) with
            | true => rfl
            | false =>
              rw [h, if_neg (by decide)] at hb
              exact absurd hb g2
          refine j_aload_n 2 dX6_isNew_25 rfl (j_getR (b := 212) dX6_isNew_26 fX6_50 rfl (by first | assumption | rfl) (by first | assumption | rfl) (j_iload 0 dX6_isNew_29 rfl (j_iaload j dX6_isNew_31 (by first | assumption | rfl) (by first | assumption | rfl) (by omega) (j_iload_n 4 dX6_isNew_32 rfl (j_icmp_eq (tgt := 40) dX6_isNew_33 rfl (fun g3 => ?_) (fun g3 => ?_))))))
          · rw [huj.1] at g3
            refine j_iconst (v := 0) dX6_isNew_40 rfl (j_istore_n (lv' := [(3, _), (4, _), (0, _), (1, _), (2, _)]) dX6_isNew_41 rfl (j_iinc (y := 1) (lv' := [(4, _), (3, _), (0, _), (1, _), (2, _)]) 1 dX6_isNew_42 rfl rfl rfl (j_goto (tgt := 15) dX6_isNew_45 rfl ?_)))
            rw [nI_1]
            refine JW.locals [0, 1, 2, 3, 4] rfl (ih (j + 1) 0 (by omega) ?_)
            rw [hst, ← Bool.and_assoc, hbt, decide_eq_false (fun z => z (nI_inj huj.2 hv g3)), Bool.and_false, if_neg (by decide)]
          · rw [huj.1] at g3
            refine j_iconst (v := 1) dX6_isNew_36 rfl (j_goto (tgt := 41) dX6_isNew_37 rfl ?_)
            refine j_istore_n (lv' := [(3, _), (4, _), (0, _), (1, _), (2, _)]) dX6_isNew_41 rfl (j_iinc (y := 1) (lv' := [(4, _), (3, _), (0, _), (1, _), (2, _)]) 1 dX6_isNew_42 rfl rfl rfl (j_goto (tgt := 15) dX6_isNew_45 rfl ?_))
            rw [nI_1]
            refine JW.locals [0, 1, 2, 3, 4] rfl (ih (j + 1) 1 (by omega) ?_)
            rw [hst, ← Bool.and_assoc, hbt, decide_eq_true (show nuN t (3 + 2 * j) ≠ v from fun z => g3 (by rw [z])), Bool.and_true, if_pos rfl]
  refine j_iload_n 2 dX6_isNew_0 rfl (j_bipush (v := 64) dX6_isNew_1 rfl (j_icmp_ge (tgt := 10) dX6_isNew_3 rfl (fun g1 => ?_) (fun g1 => ?_)))
  · have hv2 : ¬ v ≤ 63 := fun z => absurd g1 (nI_ge (b := 64) (by omega) (by decide))
    refine j_iconst (v := 0) dX6_isNew_10 rfl (j_istore_n (lv' := [(3, _), (0, _), (1, _), (2, _)]) dX6_isNew_11 rfl (j_iconst (v := 0) dX6_isNew_12 rfl (j_istore (lv' := [(4, _), (3, _), (0, _), (1, _), (2, _)]) dX6_isNew_13 rfl ?_)))
    refine JW.locals [0, 1, 2, 3, 4] rfl (loop k 0 0 (by omega) ?_)
    rw [decide_eq_false hv2, Bool.false_and, if_neg (by decide)]
  · have hv2 : v ≤ 63 := Nat.le_of_lt_succ (Nat.lt_of_not_le (fun z => g1 (nI_le (a := 64) z hv)))
    refine j_iconst (v := 1) dX6_isNew_6 rfl (j_goto (tgt := 11) dX6_isNew_7 rfl (j_istore_n (lv' := [(3, _), (0, _), (1, _), (2, _)]) dX6_isNew_11 rfl (j_iconst (v := 0) dX6_isNew_12 rfl (j_istore (lv' := [(4, _), (3, _), (0, _), (1, _), (2, _)]) dX6_isNew_13 rfl ?_))))
    refine JW.locals [0, 1, 2, 3, 4] rfl (loop k 0 1 (by omega) ?_)
    rw [decide_eq_true hv2]
    rfl
def RD (I : IT) (t : Nat → Nat) (k : Nat) : Prop := (k = 2 → I 198 23 = nI (t 1 - 48)) ∧ (3 ≤ k → I 198 23 = nI (nuN t 1)) ∧ (∀ o, o < 4 → (k = 4 + 2 * o → I 212 o = nI (t (3 + 2 * o) - 48)) ∧ (5 + 2 * o ≤ k → I 212 o = nI (nuN t (3 + 2 * o)))) ∧ (12 ≤ k → I 198 25 = nI (t 11 - 48)) ∧ (13 ≤ k → I 198 26 = nI (t 12 - 48))
def FR (I I' : IT) : Prop := (∀ a, a ≠ 198 → a ≠ 212 → I' a = I a) ∧ (∀ j, j < 23 → I' 198 j = I 198 j)
theorem FR.rfl' {I : IT} : FR I I := ⟨fun _ _ _ => rfl, fun _ _ => rfl⟩
theorem FR.tr {I I' I'' : IT} (h : FR I I') (h2 : FR I' I'') : FR I I'' := ⟨fun a h3 h4 => (h2.1 a h3 h4).trans (h.1 a h3 h4), fun j hj => (h2.2 j hj).trans (h.2 j hj)⟩
theorem FR.f {I : IT} {j : Nat} (hj : 23 ≤ j) (v : Int32) : FR I (upI I 198 j v) := ⟨fun a h _ => upI_n h, fun i hi => by rw [upI_s, upd_n (by omega)]⟩
theorem FR.o {I : IT} (j : Nat) (v : Int32) : FR I (upI I 212 j v) := ⟨fun a _ h => upI_n h, fun i hi => by rw [upI_n (by decide)]⟩
theorem nu_lt {t : Nat → Nat} {i : Nat} (h1 : digB t i) (h2 : digB t (i + 1)) : nuN t i < 100 := by
  unfold nuN digB at *
  omega
theorem c_mtake {g : GT} {Z : ZT} {I : IT} {L : LT} {Post : PT} {t : Nat → Nat} {k : Nat} (hM : isM Z) (hk : k < 13) (htk : t k ≤ 255) (hd : ∀ j, 1 ≤ j → j < k → digB t j) (hR : RD I t k) (hp : ∀ I', FR I I' → (fitN t k = true → RD I' t (k + 1)) → Post (some (.int (if fitN t k = true then 1 else 0))) Z I' L) : CM g 1 0 0 mX6_take [.ref 198, .int (nI k), .int (nI (t k))] Z I L Post := by
  obtain ⟨m0, f0, f3, f6, f7, f10, f11, f12, f15, f16, f17, f18, f19, f22, f24, k199, l199, k200, l200, k201, l201, k202, l202, k203, l203, k204, l204, k205, l205, k206, l206, k207, l207, k208, l208, k209, l209, k210, l210, k211, l211, k212, l212⟩ := id hM
  obtain ⟨r2, r3, rO, r12, r13⟩ := id hR
  refine CM_intro ?_
  refine j_iload_n 2 dX6_take_0 rfl (j_bipush (v := 48) dX6_take_1 rfl (j_isub dX6_take_3 ?_))
  by_cases k0 : k = 0
  · subst k0
    have hp := hp I FR.rfl' (fun _ => ⟨fun z => absurd z (by decide), fun z => absurd z (by decide), fun o _ => ⟨fun z => by omega, fun z => by omega⟩, fun z => absurd z (by decide), fun z => absurd z (by decide)⟩)
    rw [show fitN t 0 = decide (t 0 = 83) from rfl] at hp
    refine j_istore_n (lv' := [(3, _), (0, _), (1, _), (2, _)]) dX6_take_4 rfl (j_iload_n 2 dX6_take_5 rfl (j_if_ne (tgt := 21) dX6_take_6 rfl (fun h9 => absurd (by decide) h9) (fun _ => (j_iload_n 3 dX6_take_9 rfl (j_bipush (v := 83) dX6_take_10 rfl (j_icmp_ne (tgt := 19) dX6_take_12 rfl (fun g1 => ?_) (fun g1 => ?_)))))))
    · rw [decide_eq_false (fun z => g1 (by rw [z]; rfl))] at hp
      refine j_iconst (v := 0) dX6_take_19 rfl (j_zret dX6_take_20 (by decide) ?_)
      exact hp
    · rw [decide_eq_true (nI_inj (b := 83) (by omega) (by decide) g1)] at hp
      refine j_iconst (v := 1) dX6_take_15 rfl (j_goto (tgt := 20) dX6_take_16 rfl (j_zret dX6_take_20 (by decide) ?_))
      exact hp
  · have hfit : fitN t k = (decide (48 ≤ t k) && (decide (t k ≤ 57) && (if k = 11 then decide (t k - 48 ≤ 3) else if k = 12 then decide (1 ≤ t k - 48) else if k % 2 = 1 then decide (t k - 48 ≤ 6) else enB t k))) := by
      unfold fitN
      rw [if_neg k0]
    have hn0 : ¬ nI k = 0 := nI_ne0 (by omega) (by omega)
    by_cases hdg : 48 ≤ t k ∧ t k ≤ 57
    · rw [decide_eq_true hdg.1, decide_eq_true hdg.2, Bool.true_and, Bool.true_and] at hfit
      have hd' : ∀ j, 1 ≤ j → j ≤ k → digB t j := fun j h1 h2 => by
        rcases Nat.lt_or_ge j k with z | z
        · exact hd j h1 z
        · have : j = k := by omega
          subst this
          exact hdg
      rw [sub48 hdg.1]
      have hf9 : t k - 48 ≤ 9 := by omega
      refine j_istore_n (lv' := [(3, _), (0, _), (1, _), (2, _)]) dX6_take_4 rfl (j_iload_n 2 dX6_take_5 rfl (j_if_ne (tgt := 21) dX6_take_6 rfl (fun g0 => ?_) (fun g0 => ?_)))
      · refine j_iload_n 0 dX6_take_21 rfl (j_i2l dX6_take_22 (j_lconst (v := 0) dX6_take_23 rfl (j_ldc2 (v := 9) dX6_take_24 (List.mem_of_getElem? (i := 840) (by decide +kernel)) (j_S3 dX6_take_27 kX6_68 (c_inB 0 9 (by decide) rfl rfl ⟨fun _ _ _ _ => ?_, fun h => absurd rfl (h (t k - 48) (by omega) (by omega))⟩)))))
        by_cases k1 : k = 1
        · subst k1
          rw [if_neg (by decide), if_neg (by decide), if_pos (by decide)] at hfit
          have hp := hp _ (FR.f (j := 23) (by decide) (nI (t 1 - 48))) (fun _ => ⟨fun _ => by rw [upI_s, upd_s], fun z => absurd z (by decide), fun o _ => ⟨fun z => by omega, fun z => by omega⟩, fun z => absurd z (by decide), fun z => absurd z (by decide)⟩)
          rw [hfit] at hp
          refine j_if_ne (tgt := 35) dX6_take_30 rfl (fun _ => (j_iload_n 2 dX6_take_35 rfl (j_iconst (v := 1) dX6_take_36 rfl (j_icmp_ne (tgt := 57) dX6_take_37 rfl (fun h9 => absurd (by decide) h9) (fun _ => (j_aload_n 1 dX6_take_40 rfl (j_iload_n 0 dX6_take_41 rfl (j_putI dX6_take_42 fX6_99 (by first | assumption | rfl) (j_iload_n 0 dX6_take_45 rfl (j_bipush (v := 7) dX6_take_46 rfl (j_icmp_ge (tgt := 55) dX6_take_48 rfl (fun g1 => ?_) (fun g1 => ?_)))))))))))) (fun h9 => absurd h9 (by decide))
          · have hx : ¬ t 1 - 48 ≤ 6 := fun z => absurd g1 (nI_ge (b := 7) (by omega) (by decide))
            rw [decide_eq_false hx] at hp
            refine j_iconst (v := 0) dX6_take_55 rfl (j_zret dX6_take_56 (by decide) ?_)
            exact hp
          · have hx : t 1 - 48 ≤ 6 := Nat.le_of_lt_succ (Nat.lt_of_not_le (fun z => g1 (nI_le (a := 7) z (by omega))))
            rw [decide_eq_true hx] at hp
            refine j_iconst (v := 1) dX6_take_51 rfl (j_goto (tgt := 56) dX6_take_52 rfl (j_zret dX6_take_56 (by decide) ?_))
            exact hp
        · have n1 : ¬ nI k = 1 := fun z => k1 (nI_inj (b := 1) (by omega) (by decide) z)
          refine j_if_ne (tgt := 35) dX6_take_30 rfl (fun _ => (j_iload_n 2 dX6_take_35 rfl (j_iconst (v := 1) dX6_take_36 rfl (j_icmp_ne (tgt := 57) dX6_take_37 rfl (fun g1 => ?_) (fun g1 => ?_))))) (fun h9 => absurd h9 (by decide))
          · by_cases k2 : k = 2
            · subst k2
              have q1 := hd' 1 (by decide) (by decide)
              have hnu := nu_lt q1 (hd' 2 (by decide) (by decide))
              have en : 10 * (t 1 - 48) + (t 2 - 48) = nuN t 1 := rfl
              rw [if_neg (by decide), if_neg (by decide), if_neg (by decide)] at hfit
              have hen : enB t 2 = (decide (nuN t 1 ≤ 63) && decide (nuN t 1 % 2 = 1)) := rfl
              rw [hen] at hfit
              have hp := hp _ (FR.f (j := 23) (by decide) (nI (nuN t 1))) (fun _ => ⟨fun z => absurd z (by decide), fun _ => by rw [upI_s, upd_s], fun o _ => ⟨fun z => by omega, fun z => by omega⟩, fun z => absurd z (by decide), fun z => absurd z (by decide)⟩)
              rw [hfit] at hp
              refine j_iload_n 2 dX6_take_57 rfl (j_iconst (v := 2) dX6_take_58 rfl (j_icmp_ne (tgt := 97) dX6_take_59 rfl (fun h9 => absurd (by decide) h9) (fun _ => (j_aload_n 1 dX6_take_62 rfl (j_bipush (v := 10) dX6_take_63 rfl (j_aload_n 1 dX6_take_65 rfl (j_getI dX6_take_66 fX6_99 (by first | assumption | rfl) (j_imul dX6_take_69 (j_iload_n 0 dX6_take_70 rfl (j_iadd dX6_take_71 ?_))))))))))
              rw [r2 rfl, show (10 : Int32) * nI (t 1 - 48) = nI (10 * (t 1 - 48)) from pk_mul 10 _, nI_add, en]
              refine j_putI dX6_take_72 fX6_99 (by first | assumption | rfl) (j_iload_n 0 dX6_take_75 rfl (j_iconst (v := 2) dX6_take_76 rfl (j_irem dX6_take_77 (by decide) ?_)))
              rw [show (2 : Int32) = nI 2 from rfl, remI (by omega) (by decide) (by decide)]
              refine j_iconst (v := 1) dX6_take_78 rfl (j_icmp_ne (tgt := 95) dX6_take_79 rfl (fun g2 => ?_) (fun g2 => ?_))
              · have hx : ¬ nuN t 1 % 2 = 1 := fun z => g2 (by rw [show (t 2 - 48) % 2 = 1 by omega]; rfl)
                rw [decide_eq_false hx, Bool.and_false] at hp
                refine j_iconst (v := 0) dX6_take_95 rfl (j_zret dX6_take_96 (by decide) ?_)
                exact hp
              · have hx : nuN t 1 % 2 = 1 := by
                  have := nI_inj (b := 1) (by omega) (by decide) g2
                  omega
                rw [decide_eq_true hx, Bool.and_true] at hp
                refine j_aload_n 1 dX6_take_82 rfl (j_getI dX6_take_83 fX6_99 (by first | assumption | rfl) (j_bipush (v := 64) dX6_take_86 rfl (j_icmp_ge (tgt := 95) dX6_take_88 rfl (fun g3 => ?_) (fun g3 => ?_))))
                · rw [upI_s, upd_s] at g3
                  have hy : ¬ nuN t 1 ≤ 63 := fun z => absurd g3 (nI_ge (b := 64) (by omega) (by decide))
                  rw [decide_eq_false hy] at hp
                  refine j_iconst (v := 0) dX6_take_95 rfl (j_zret dX6_take_96 (by decide) ?_)
                  exact hp
                · rw [upI_s, upd_s] at g3
                  have hy : nuN t 1 ≤ 63 := Nat.le_of_lt_succ (Nat.lt_of_not_le (fun z => g3 (nI_le (a := 64) z (by omega))))
                  rw [decide_eq_true hy] at hp
                  refine j_iconst (v := 1) dX6_take_91 rfl (j_goto (tgt := 96) dX6_take_92 rfl (j_zret dX6_take_96 (by decide) ?_))
                  exact hp
            · have n2 : ¬ nI k = 2 := fun z => k2 (nI_inj (b := 2) (by omega) (by decide) z)
              refine j_iload_n 2 dX6_take_57 rfl (j_iconst (v := 2) dX6_take_58 rfl (j_icmp_ne (tgt := 97) dX6_take_59 rfl (fun g2 => ?_) (fun g2 => ?_)))
              · refine j_iload_n 2 dX6_take_97 rfl (j_bipush (v := 11) dX6_take_98 rfl (j_icmp_ge (tgt := 170) dX6_take_100 rfl (fun g3 => ?_) (fun g3 => ?_)))
                · have k11 : ¬ k < 11 := fun z => absurd g3 (nI_ge (b := 11) z (by decide))
                  by_cases ke : k = 11
                  · subst ke
                    rw [if_pos rfl] at hfit
                    have hp := hp _ (FR.f (j := 25) (by decide) (nI (t 11 - 48))) (fun _ => ⟨fun z => absurd z (by decide), fun _ => by rw [upI_s, upd_n (by decide)]; exact r3 (by decide), fun o ho => ⟨fun z => by omega, fun z => by rw [upI_n (by decide)]; exact (rO o ho).2 (by omega)⟩, fun _ => by rw [upI_s, upd_s], fun z => absurd z (by decide)⟩)
                    rw [hfit] at hp
                    refine j_iload_n 2 dX6_take_170 rfl (j_bipush (v := 11) dX6_take_171 rfl (j_icmp_ne (tgt := 192) dX6_take_173 rfl (fun h9 => absurd (by decide) h9) (fun _ => (j_aload_n 1 dX6_take_176 rfl (j_iload_n 0 dX6_take_177 rfl (j_putI dX6_take_178 fX6_105 (by first | assumption | rfl) (j_iload_n 0 dX6_take_181 rfl (j_iconst (v := 4) dX6_take_182 rfl (j_icmp_ge (tgt := 190) dX6_take_183 rfl (fun g4 => ?_) (fun g4 => ?_))))))))))
                    · have hx : ¬ t 11 - 48 ≤ 3 := fun z => absurd g4 (nI_ge (b := 4) (by omega) (by decide))
                      rw [decide_eq_false hx] at hp
                      refine j_iconst (v := 0) dX6_take_190 rfl (j_zret dX6_take_191 (by decide) ?_)
                      exact hp
                    · have hx : t 11 - 48 ≤ 3 := Nat.le_of_lt_succ (Nat.lt_of_not_le (fun z => g4 (nI_le (a := 4) z (by omega))))
                      rw [decide_eq_true hx] at hp
                      refine j_iconst (v := 1) dX6_take_186 rfl (j_goto (tgt := 191) dX6_take_187 rfl (j_zret dX6_take_191 (by decide) ?_))
                      exact hp
                  · have ke : k = 12 := by omega
                    subst ke
                    rw [if_neg (by decide), if_pos rfl] at hfit
                    have hp := hp _ (FR.f (j := 26) (by decide) (nI (t 12 - 48))) (fun _ => ⟨fun z => absurd z (by decide), fun _ => by rw [upI_s, upd_n (by decide)]; exact r3 (by decide), fun o ho => ⟨fun z => by omega, fun z => by rw [upI_n (by decide)]; exact (rO o ho).2 (by omega)⟩, fun _ => by rw [upI_s, upd_n (by decide)]; exact r12 (by decide), fun _ => by rw [upI_s, upd_s]⟩)
                    rw [hfit] at hp
                    refine j_iload_n 2 dX6_take_170 rfl (j_bipush (v := 11) dX6_take_171 rfl (j_icmp_ne (tgt := 192) dX6_take_173 rfl (fun _ => (j_aload_n 1 dX6_take_192 rfl (j_iload_n 0 dX6_take_193 rfl (j_putI dX6_take_194 fX6_108 (by first | assumption | rfl) (j_iload_n 0 dX6_take_197 rfl (j_if_le (tgt := 205) dX6_take_198 rfl (fun g4 => ?_) (fun g4 => ?_))))))) (fun h9 => absurd h9 (by decide))))
                    · have hx : ¬ 1 ≤ t 12 - 48 := fun z => absurd g4 (nI_nle (by omega) (by omega))
                      rw [decide_eq_false hx] at hp
                      refine j_iconst (v := 0) dX6_take_205 rfl (j_zret dX6_take_206 (by decide) ?_)
                      exact hp
                    · have hx : 1 ≤ t 12 - 48 := by
                        rcases Nat.eq_zero_or_pos (t 12 - 48) with z | z
                        · rw [z] at g4
                          exact absurd (by decide) g4
                        · exact z
                      rw [decide_eq_true hx] at hp
                      refine j_iconst (v := 1) dX6_take_201 rfl (j_goto (tgt := 206) dX6_take_202 rfl (j_zret dX6_take_206 (by decide) ?_))
                      exact hp
                · have k11 : k < 11 := Nat.lt_of_not_le (fun z => g3 (nI_le (a := 11) z (by omega)))
                  rw [if_neg (by omega), if_neg (by omega)] at hfit
                  refine j_iload_n 2 dX6_take_103 rfl (j_iconst (v := 3) dX6_take_104 rfl (j_isub dX6_take_105 (j_iconst (v := 2) dX6_take_106 rfl (j_idiv dX6_take_107 (by decide) ?_))))
                  rw [show nI k - (3 : Int32) = nI (k - 3) from pk_sub (b := 3) (by omega), show (2 : Int32) = nI 2 from rfl, divI (by omega) (by decide) (by decide)]
                  refine j_istore (lv' := [(4, _), (3, _), (0, _), (1, _), (2, _)]) dX6_take_108 rfl (j_iload_n 3 dX6_take_110 rfl (j_iconst (v := 2) dX6_take_111 rfl (j_irem dX6_take_112 (by decide) ?_)))
                  rw [show (2 : Int32) = nI 2 from rfl, remI (by omega) (by decide) (by decide)]
                  have ho4 : (k - 3) / 2 < 4 := by omega
                  refine j_iconst (v := 1) dX6_take_113 rfl (j_icmp_ne (tgt := 137) dX6_take_114 rfl (fun g4 => ?_) (fun g4 => ?_))
                  · have hev : k % 2 = 0 := by
                      have : ¬ k % 2 = 1 := fun z => g4 (by rw [z]; rfl)
                      omega
                    rw [if_neg (by omega)] at hfit
                    have e4 : k = 4 + 2 * ((k - 3) / 2) := by omega
                    have e5 : 3 + 2 * ((k - 3) / 2) = k - 1 := by omega
                    have q1 := hd' (k - 1) (by omega) (by omega)
                    have q2 := hd' (k - 1 + 1) (by omega) (by omega)
                    have hnu := nu_lt q1 q2
                    have en : 10 * (t (k - 1) - 48) + (t k - 48) = nuN t (k - 1) := by
                      unfold nuN
                      rw [show k - 1 + 1 = k by omega]
                    have hen : enB t k = (decide (nuN t (k - 1) ≤ 63) && noN t (nuN t (k - 1)) ((k - 3) / 2)) := by
                      unfold enB
                      rw [if_neg (by omega), show (k - 4) / 2 = (k - 3) / 2 by omega]
                    rw [hen] at hfit
                    have r0 := (rO _ ho4).1 e4
                    rw [e5] at r0
                    have hp := hp _ (FR.o ((k - 3) / 2) (nI (nuN t (k - 1)))) (fun _ => ⟨fun z => by omega, fun _ => by rw [upI_n (by decide)]; exact r3 (by omega), fun o ho => ⟨fun z => by omega, fun z => ?_⟩, fun z => by omega, fun z => by omega⟩)
                    · rw [hfit] at hp
                      refine j_aload_n 2 dX6_take_137 rfl (j_getR (b := 212) dX6_take_138 fX6_50 rfl (by first | assumption | rfl) (by first | assumption | rfl) (j_iload 0 dX6_take_141 rfl (j_bipush (v := 10) dX6_take_143 rfl (j_aload_n 2 dX6_take_145 rfl (j_getR (b := 212) dX6_take_146 fX6_50 rfl (by first | assumption | rfl) (by first | assumption | rfl) (j_iload 0 dX6_take_149 rfl (j_iaload ((k - 3) / 2) dX6_take_151 (by first | assumption | rfl) (by first | assumption | rfl) (by omega) (j_imul dX6_take_152 (j_iload_n 1 dX6_take_153 rfl (j_iadd dX6_take_154 ?_))))))))))
                      rw [r0, show (10 : Int32) * nI (t (k - 1) - 48) = nI (10 * (t (k - 1) - 48)) from pk_mul 10 _, nI_add, en]
                      refine j_iastore ((k - 3) / 2) dX6_take_155 (by first | assumption | rfl) (by first | assumption | rfl) (by omega) (j_aload_n 2 dX6_take_156 rfl (j_iload 0 dX6_take_157 rfl (j_aload_n 2 dX6_take_159 rfl (j_getR (b := 212) dX6_take_160 fX6_50 rfl (by first | assumption | rfl) (by first | assumption | rfl) (j_iload 0 dX6_take_163 rfl (j_iaload ((k - 3) / 2) dX6_take_165 (by first | assumption | rfl) (by first | assumption | rfl) (by omega) ?_))))))
                      rw [upI_s, upd_s]
                      refine j_V2 dX6_take_166 kX6_102 (by first | assumption | rfl) (c_isNew (t := t) m0 f24 k212 l212 (by omega) (by omega) (fun o ho => ⟨?_, ?_⟩) ?_)
                      · rw [upI_s, upd_n (by omega)]
                        exact (rO o (by omega)).2 (by omega)
                      · have := nu_lt (hd' (3 + 2 * o) (by omega) (by omega)) (hd' (3 + 2 * o + 1) (by omega) (by omega))
                        omega
                      · refine j_zret dX6_take_169 (by split; exact Or.inr rfl; exact Or.inl rfl) ?_
                        exact hp
                    · rw [upI_s, upd_app]
                      by_cases eo : o = (k - 3) / 2
                      · rw [if_pos eo, eo, e5]
                      · rw [if_neg eo]
                        exact (rO o ho).2 (by omega)
                  · have hod : k % 2 = 1 := nI_inj (b := 1) (by omega) (by decide) g4
                    rw [if_pos hod] at hfit
                    have e3 : 3 + 2 * ((k - 3) / 2) = k := by omega
                    have hp := hp _ (FR.o ((k - 3) / 2) (nI (t k - 48))) (fun _ => ⟨fun z => by omega, fun _ => by rw [upI_n (by decide)]; exact r3 (by omega), fun o ho => ⟨fun z => ?_, fun z => ?_⟩, fun z => by omega, fun z => by omega⟩)
                    · rw [hfit] at hp
                      refine j_aload_n 2 dX6_take_117 rfl (j_getR (b := 212) dX6_take_118 fX6_50 rfl (by first | assumption | rfl) (by first | assumption | rfl) (j_iload 0 dX6_take_121 rfl (j_iload_n 1 dX6_take_123 rfl (j_iastore ((k - 3) / 2) dX6_take_124 (by first | assumption | rfl) (by first | assumption | rfl) (by omega) (j_iload_n 1 dX6_take_125 rfl (j_bipush (v := 7) dX6_take_126 rfl (j_icmp_ge (tgt := 135) dX6_take_128 rfl (fun g5 => ?_) (fun g5 => ?_))))))))
                      · have hx : ¬ t k - 48 ≤ 6 := fun z => absurd g5 (nI_ge (b := 7) (by omega) (by decide))
                        rw [decide_eq_false hx] at hp
                        refine j_iconst (v := 0) dX6_take_135 rfl (j_zret dX6_take_136 (by decide) ?_)
                        exact hp
                      · have hx : t k - 48 ≤ 6 := Nat.le_of_lt_succ (Nat.lt_of_not_le (fun z => g5 (nI_le (a := 7) z (by omega))))
                        rw [decide_eq_true hx] at hp
                        refine j_iconst (v := 1) dX6_take_131 rfl (j_goto (tgt := 136) dX6_take_132 rfl (j_zret dX6_take_136 (by decide) ?_))
                        exact hp
                    · have eo : o = (k - 3) / 2 := by omega
                      rw [upI_s, eo, upd_s, e3]
                    · rw [upI_s, upd_n (by omega)]
                      exact (rO o ho).2 (by omega)
              · exact absurd g2 n2
          · exact absurd g1 n1
      · exact absurd g0 hn0
    · have hff : fitN t k = false := by
        rw [hfit]
        by_cases h48 : 48 ≤ t k
        · have : ¬ t k ≤ 57 := fun z => hdg ⟨h48, z⟩
          rw [decide_eq_false this, Bool.false_and, Bool.and_false]
        · rw [decide_eq_false h48, Bool.false_and]
      have hp := hp I FR.rfl' (fun z => by rw [hff] at z; exact absurd z (by decide))
      rw [hff, if_neg (by decide)] at hp
      have hno : ∀ j, 0 ≤ j → j ≤ 9 → nI (t k) - (48 : Int32) ≠ nI j := by
        intro j _ hj e
        by_cases h48 : 48 ≤ t k
        · rw [sub48 h48] at e
          have := nI_inj (by omega) (by omega) e
          omega
        · have := sub48n (a := t k) (by omega)
          rw [e] at this
          exact nI_pos (by omega) this
      generalize nI (t k) - (48 : Int32) = q at hno ⊢
      refine j_istore_n (lv' := [(3, _), (0, _), (1, _), (2, _)]) dX6_take_4 rfl (j_iload_n 2 dX6_take_5 rfl (j_if_ne (tgt := 21) dX6_take_6 rfl (fun g0 => ?_) (fun g0 => ?_)))
      · refine j_iload_n 0 dX6_take_21 rfl (j_i2l dX6_take_22 (j_lconst (v := 0) dX6_take_23 rfl (j_ldc2 (v := 9) dX6_take_24 (List.mem_of_getElem? (i := 840) (by decide +kernel)) (j_S3 dX6_take_27 kX6_68 (c_inB 0 9 (by decide) rfl rfl ⟨fun j h1 h2 e => absurd e (hno j h1 h2), fun _ => ?_⟩)))))
        refine j_if_ne (tgt := 35) dX6_take_30 rfl (fun h9 => absurd (by decide) h9) (fun _ => (j_iconst (v := 0) dX6_take_33 rfl (j_zret dX6_take_34 (by decide) ?_)))
        exact hp
      · exact absurd g0 hn0
theorem c_readText {g : GT} {Z : ZT} {I : IT} {L : LT} {Post : PT} {n : Nat} {t : Nat → Nat} (hM : isM Z) (hT : TX I 198 199 1 t n) (hp : ∀ I', FR I I' → (fauF t n = -9 → RD I' t 13) → Post (some (.int (fauF t n))) Z I' L) : CM g 2 0 0 mX6_readText [.ref 198] Z I L Post := by
  obtain ⟨m0, f0, f3, f6, f7, f10, f11, f12, f15, f16, f17, f18, f19, f22, f24, k199, l199, k200, l200, k201, l201, k202, l202, k203, l203, k204, l204, k205, l205, k206, l206, k207, l207, k208, l208, k209, l209, k210, l210, k211, l211, k212, l212⟩ := id hM
  obtain ⟨t1, t2, t3, t4⟩ := id hT
  refine CM_intro ?_
  unfold fauF at hp
  have he : min n 13 ≤ 13 := Nat.min_le_right n 13
  have loop : ∀ (m k : Nat) (I1 : IT), k + m = min n 13 → FR I I1 → RD I1 t k → fIx (fun i => !fitN t i) m k = fIx (fun i => !fitN t i) (min n 13) 0 → (∀ j, j < k → fitN t j = true) → JW g mX6_readText (rmO 2 0 0) (QM Post 0 0) 2 [(1, .int (nI k)), (0, .ref 198)] [] 0 0 Z I1 L := by
    intro m
    induction m with
    | zero =>
      intro k I1 hk hF hR hq hf
      have hkk : k = min n 13 := by omega
      have e1 : I1 198 1 = nI n := (hF.2 1 (by decide)).trans t2
      have hp := hp I1 hF
      rw [← hq, if_neg (show ¬ fIx (fun i => !fitN t i) 0 k < min n 13 from by rw [← hkk]; exact Nat.lt_irrefl _)] at hp
      have t38 : JW g mX6_readText (rmO 2 0 0) (QM Post 0 0) 38 [(1, .int (nI k)), (0, .ref 198)] [] 0 0 Z I1 L := by
        refine j_aload_n 1 dX6_readText_38 rfl (j_getI dX6_readText_39 fX6_94 (by first | assumption | rfl) (j_bipush (v := 13) dX6_readText_42 rfl (j_icmp_ne (tgt := 52) dX6_readText_44 rfl (fun g3 => ?_) (fun g3 => ?_))))
        · rw [e1] at g3
          have n13 : ¬ n = 13 := fun z => g3 (by rw [z]; rfl)
          rw [if_neg n13] at hp
          have hp := hp (fun z => absurd z (nI_ne9 (by omega)))
          refine j_aload_n 1 dX6_readText_52 rfl (j_getI dX6_readText_53 fX6_94 (by first | assumption | rfl) (j_bipush (v := 13) dX6_readText_56 rfl (j_icmp_ge (tgt := 68) dX6_readText_58 rfl (fun g4 => ?_) (fun g4 => ?_))))
          · rw [e1] at g4
            have : ¬ n < 13 := fun z => absurd g4 (nI_ge (b := 13) z (by decide))
            rw [Nat.min_eq_right (by omega)] at hp
            refine j_bipush (v := 13) dX6_readText_68 rfl (j_iret dX6_readText_70 ?_)
            exact hp
          · rw [e1] at g4
            have : n < 13 := Nat.lt_of_not_le (fun z => g4 (nI_le (a := 13) z (by omega)))
            rw [Nat.min_eq_left (by omega)] at hp
            refine j_aload_n 1 dX6_readText_61 rfl (j_getI dX6_readText_62 fX6_94 (by first | assumption | rfl) (j_goto (tgt := 70) dX6_readText_65 rfl (j_iret dX6_readText_70 ?_)))
            rw [e1]
            exact hp
        · rw [e1] at g3
          have n13 : n = 13 := nI_inj (b := 13) (by omega) (by decide) g3
          rw [if_pos n13] at hp
          have hk13 : k = 13 := by omega
          rw [hk13] at hR
          have hp := hp (fun _ => hR)
          refine j_bipush (v := -9) dX6_readText_47 rfl (j_goto (tgt := 70) dX6_readText_49 rfl (j_iret dX6_readText_70 ?_))
          exact hp
      refine j_iload_n 0 dX6_readText_2 rfl (j_aload_n 1 dX6_readText_3 rfl (j_getI dX6_readText_4 fX6_94 (by first | assumption | rfl) (j_icmp_ge (tgt := 38) dX6_readText_7 rfl (fun g1 => ?_) (fun g1 => ?_))))
      · exact t38
      · rw [e1] at g1
        have : ¬ n ≤ k := fun z => g1 (nI_le z (by omega))
        refine j_iload_n 0 dX6_readText_10 rfl (j_bipush (v := 13) dX6_readText_11 rfl (j_icmp_ge (tgt := 38) dX6_readText_13 rfl (fun g2 => ?_) (fun g2 => ?_)))
        · exact t38
        · have : ¬ 13 ≤ k := fun z => g2 (nI_le (a := 13) z (by omega))
          omega
    | succ m ih =>
      intro k I1 hk hF hR hq hf
      have e1 : I1 198 1 = nI n := (hF.2 1 (by decide)).trans t2
      have e2 : I1 199 k = nI (t k) := by rw [hF.1 199 (by decide) (by decide)]; exact t3 k (by omega)
      have hkl : k < n ∧ k < 13 := by omega
      refine j_iload_n 0 dX6_readText_2 rfl (j_aload_n 1 dX6_readText_3 rfl (j_getI dX6_readText_4 fX6_94 (by first | assumption | rfl) (j_icmp_ge (tgt := 38) dX6_readText_7 rfl (fun g1 => ?_) (fun g1 => ?_))))
      · rw [e1] at g1
        exact absurd g1 (nI_ge hkl.1 (by omega))
      · refine j_iload_n 0 dX6_readText_10 rfl (j_bipush (v := 13) dX6_readText_11 rfl (j_icmp_ge (tgt := 38) dX6_readText_13 rfl (fun g2 => ?_) (fun g2 => ?_)))
        · exact absurd g2 (nI_ge (b := 13) hkl.2 (by decide))
        · refine j_aload_n 1 dX6_readText_16 rfl (j_iload_n 0 dX6_readText_17 rfl (j_aload_n 1 dX6_readText_18 rfl (j_getR (b := 199) dX6_readText_19 fX6_7 rfl (by first | assumption | rfl) (by first | assumption | rfl) (j_iload_n 0 dX6_readText_22 rfl (j_iaload k dX6_readText_23 (by first | assumption | rfl) (by first | assumption | rfl) (by omega) ?_)))))
          rw [e2]
          refine j_V2 dX6_readText_24 kX6_111 (by first | assumption | rfl) (c_mtake hM hkl.2 (t4 k (by omega)) (fun j h1 h2 => fitN_dig (by omega) (hf j h2)) hR (fun I2 hF2 hR2 => ?_))
          by_cases hfi : fitN t k = true
          · rw [if_pos hfi]
            refine j_if_ne (tgt := 32) dX6_readText_27 rfl (fun _ => (j_iinc (y := 1) (lv' := [(1, _), (0, _)]) 0 dX6_readText_32 rfl rfl rfl (j_goto (tgt := 2) dX6_readText_35 rfl ?_))) (fun h9 => absurd h9 (by decide))
            rw [nI_1]
            refine JW.locals [0, 1] rfl (ih (k + 1) I2 (by omega) (hF.tr hF2) (hR2 hfi) ?_ (fun j hj => ?_))
            · rw [← hq]
              show _ = if (!fitN t k) = true then k else fIx (fun i => !fitN t i) m (k + 1)
              rw [hfi]
              rfl
            · rcases Nat.lt_or_ge j k with z | z
              · exact hf j z
              · have : j = k := by omega
                subst this
                exact hfi
          · rw [if_neg hfi]
            have hfe : fitN t k = false := by simpa using hfi
            have e : fIx (fun i => !fitN t i) (m + 1) k = k := by
              show (if (!fitN t k) = true then k else fIx (fun i => !fitN t i) m (k + 1)) = k
              rw [hfe]
              rfl
            have hp := hp I2 (hF.tr hF2)
            rw [← hq, e, if_pos (by omega)] at hp
            have hp := hp (fun z => absurd z (nI_ne9 (by omega)))
            refine j_if_ne (tgt := 32) dX6_readText_27 rfl (fun h9 => absurd (by decide) h9) (fun _ => (j_iload_n 0 dX6_readText_30 rfl (j_iret dX6_readText_31 ?_)))
            exact hp
  refine j_iconst (v := 0) dX6_readText_0 rfl (j_istore_n (lv' := [(1, _), (0, _)]) dX6_readText_1 rfl ?_)
  exact JW.locals [0, 1] rfl (loop (min n 13) 0 I (by omega) FR.rfl' ⟨fun z => absurd z (by decide), fun z => absurd z (by decide), fun o _ => ⟨fun z => by omega, fun z => by omega⟩, fun z => absurd z (by decide), fun z => absurd z (by decide)⟩ rfl (fun j hj => absurd hj (Nat.not_lt_zero _)))
theorem q_fault {g : GT} {Z : ZT} {I : IT} {L : LT} {Post : PT} {t : Nat → Nat} {n : Nat} {c : CT} {w : Nat} {ρ : RT} {A : Nat × Nat × (Nat → RT)} {K : (Nat → RT) × (Nat → Bool)} {E : (Nat → Int32) × (Nat → Nat) × (Nat → Nat) × Nat} {sd : Int64}  (hM : isM Z) (hs : MSt t n c w ρ A K E sd I L) (ho : OKs c w ρ A K E)  (hp : ∀ I', MSt t n c w ρ A K E sd I' L → eqC I I' → Post (some (.int (fauF t n))) Z I' L) : CM g 3 0 0 mX6_fault [.ref 198] Z I L Post := by
  obtain ⟨m0, f0, f3, f6, f7, f10, f11, f12, f15, f16, f17, f18, f19, f22, f24, k199, l199, k200, l200, k201, l201, k202, l202, k203, l203, k204, l204, k205, l205, k206, l206, k207, l207, k208, l208, k209, l209, k210, l210, k211, l211, k212, l212⟩ := id hM
  have hMo : isMo Z := ⟨m0, f3, f6, f7, k200, l200, k201, l201, k202, l202⟩
  obtain ⟨sT, ⟨sC, s4, s8, s9⟩, sN, sA, sK, sE, sL, sZ⟩ := id hs
  obtain ⟨oC, oW, oN, oA, oK, oE⟩ := id ho
  refine CM_intro ?_
  refine j_aload_n 0 dX6_fault_0 rfl (j_V0 dX6_fault_1 kX6_114 (by first | assumption | rfl) (c_readText hM sT (fun I1 hF hR => ?_)))
  refine j_iret dX6_fault_4 ?_
  exact hp I1 (hs.scr hF.2 (fun a h1 h2 _ => hF.1 a (by omega) (by omega)) (by rw [hF.1 204 (by decide) (by decide)]; exact sZ)) (fun a ha => hF.1 a (by omega) (by omega))

