theorem gcd_step (h l : Nat) : Nat.gcd l (h % l) = Nat.gcd h l := by
  rw [Nat.gcd_comm h l, Nat.gcd_rec l h, Nat.gcd_comm]
theorem half_lt {l r j : Nat} (hr : 0 < r) (h : r < l) (hl : l < 2 ^ (j + 1)) : l % r < 2 ^ j := by
  have h2 : 2 ^ (j + 1) = 2 * 2 ^ j := by rw [Nat.pow_succ, Nat.mul_comm]
  have h3 := Nat.mod_lt l hr
  have h4 := Nat.div_add_mod l r
  have h5 : 1 ≤ l / r := Nat.div_pos (Nat.le_of_lt h) hr
  have h6 : r * 1 ≤ r * (l / r) := Nat.mul_le_mul_left r h5
  omega
theorem c_gd {g : GT} {Z : ZT} {I : IT} {L : LT} {Post : PT} {a b : Nat} (ha : a < 2 ^ 31) (hb : b < 2 ^ 31) (hp : Post (some (.int (nI (Nat.gcd a b)))) Z I L) : CM g 0 0 0 mX5_greatestDivisor [.int (nI a), .int (nI b)] Z I L Post := by
  refine CM_intro ?_
  have out : ∀ (s h l : Nat), s < 64 → h < 2 ^ 31 → l = 0 → Nat.gcd h l = Nat.gcd a b → JW g mX5_greatestDivisor (rmO 0 0 0) (QM Post 0 0) 7 [(4, .int (nI s)), (3, .int (nI l)), (2, .int (nI h)), (0, .int (nI a)), (1, .int (nI b))] [] 0 0 Z I L := by
    intro s h l hs hh hl hg
    subst hl
    rw [Nat.gcd_zero_right] at hg
    subst hg
    refine j_iload 0 dX5_greatestDivisor_7 rfl (j_bipush (v := 64) dX5_greatestDivisor_9 rfl (j_icmp_ge (tgt := 34) dX5_greatestDivisor_11 rfl (fun h1 => ?_) (fun h1 => ?_)))
    · exact absurd h1 (nI_ge (b := 64) hs (by decide))
    · refine j_iload_n 1 dX5_greatestDivisor_14 rfl (j_if_eq (tgt := 34) dX5_greatestDivisor_15 rfl (fun h2 => ?_) (fun h2 => ?_))
      · refine j_iload_n 2 dX5_greatestDivisor_34 rfl (j_iret dX5_greatestDivisor_35 ?_)
        exact hp
      · exact absurd rfl h2
  have one : ∀ (s h l : Nat), s < 64 → h < 2 ^ 31 → l < 2 ^ 31 → 0 < l → JW g mX5_greatestDivisor (rmO 0 0 0) (QM Post 0 0) 7 [(4, .int (nI (s + 1))), (3, .int (nI (h % l))), (2, .int (nI l)), (0, .int (nI a)), (1, .int (nI b))] [] 0 0 Z I L → JW g mX5_greatestDivisor (rmO 0 0 0) (QM Post 0 0) 7 [(4, .int (nI s)), (3, .int (nI l)), (2, .int (nI h)), (0, .int (nI a)), (1, .int (nI b))] [] 0 0 Z I L := by
    intro s h l hs hh hl h0 k
    have hne : ¬ nI l = 0 := fun z => absurd (nI_inj (b := 0) hl (by decide) z) (by omega)
    refine j_iload 0 dX5_greatestDivisor_7 rfl (j_bipush (v := 64) dX5_greatestDivisor_9 rfl (j_icmp_ge (tgt := 34) dX5_greatestDivisor_11 rfl (fun h1 => ?_) (fun h1 => ?_)))
    · exact absurd h1 (nI_ge (b := 64) hs (by decide))
    · refine j_iload_n 1 dX5_greatestDivisor_14 rfl (j_if_eq (tgt := 34) dX5_greatestDivisor_15 rfl (fun h2 => ?_) (fun h2 => ?_))
      · exact absurd h2 hne
      · refine j_iload_n 2 dX5_greatestDivisor_18 rfl (j_iload_n 1 dX5_greatestDivisor_19 rfl (j_irem dX5_greatestDivisor_20 hne ?_))
        rw [remI hh h0 hl]
        refine j_istore (lv' := [(5, _), (4, _), (3, _), (2, _), (0, _), (1, _)]) dX5_greatestDivisor_21 rfl (j_iload_n 2 dX5_greatestDivisor_23 rfl (j_istore_n (lv' := [(2, _), (5, _), (4, _), (3, _), (0, _), (1, _)]) dX5_greatestDivisor_24 rfl (j_iload 1 dX5_greatestDivisor_25 rfl (j_istore_n (lv' := [(3, _), (2, _), (5, _), (4, _), (0, _), (1, _)]) dX5_greatestDivisor_27 rfl (j_iinc (y := 1) (lv' := [(4, _), (3, _), (2, _), (5, _), (0, _), (1, _)]) 3 dX5_greatestDivisor_28 rfl rfl rfl (j_goto (tgt := 7) dX5_greatestDivisor_31 rfl ?_))))))
        rw [nI_1]
        exact JW.locals [0, 1, 2, 4, 5] rfl k
  have loop : ∀ (j s h l : Nat), s + 2 * j = 62 → h < 2 ^ 31 → l < 2 ^ j → l < 2 ^ 31 → Nat.gcd h l = Nat.gcd a b → JW g mX5_greatestDivisor (rmO 0 0 0) (QM Post 0 0) 7 [(4, .int (nI s)), (3, .int (nI l)), (2, .int (nI h)), (0, .int (nI a)), (1, .int (nI b))] [] 0 0 Z I L := by
    intro j
    induction j with
    | zero =>
      intro s h l hs hh hl hl2 hg
      exact out s h l (by omega) hh (by omega) hg
    | succ j ih =>
      intro s h l hs hh hl hl2 hg
      rcases Nat.eq_zero_or_pos l with z | z
      · exact out s h l (by omega) hh z hg
      · have hm := Nat.mod_lt h z
        refine one s h l (by omega) hh hl2 z ?_
        rcases Nat.eq_zero_or_pos (h % l) with y | y
        · exact out (s + 1) l (h % l) (by omega) hl2 y ((gcd_step h l).trans hg)
        · refine one (s + 1) l (h % l) (by omega) hl2 (by omega) y ?_
          have hq := half_lt y hm hl
          have hm2 := Nat.mod_lt l y
          exact ih (s + 1 + 1) (h % l) (l % (h % l)) (by omega) (by omega) hq (by omega) ((gcd_step l (h % l)).trans ((gcd_step h l).trans hg))
  refine j_iload_n 0 dX5_greatestDivisor_0 rfl (j_istore_n (lv' := [(2, _), (0, _), (1, _)]) dX5_greatestDivisor_1 rfl (j_iload_n 2 dX5_greatestDivisor_2 rfl (j_istore_n (lv' := [(3, _), (2, _), (0, _), (1, _)]) dX5_greatestDivisor_3 rfl (j_iconst (v := 0) dX5_greatestDivisor_4 rfl (j_istore (lv' := [(4, _), (3, _), (2, _), (0, _), (1, _)]) dX5_greatestDivisor_5 rfl ?_)))))
  exact JW.locals [0, 1, 2, 3, 4] rfl (loop 31 0 a b rfl ha hb hb rfl)
def frI (x : Int32) (b : Nat) (up : Int32) : Int32 := if up = 0 then nI b / nI (Nat.gcd x.toInt.natAbs b) else x / nI (Nat.gcd x.toInt.natAbs b)
theorem c_fraction {g : GT} {Z : ZT} {I : IT} {L : LT} {Post : PT} {x up : Int32} {b : Nat} (hx : (if 0 ≤ x then x else 0 - x) = nI x.toInt.natAbs) (ha : x.toInt.natAbs < 2 ^ 31) (hb : b < 2 ^ 31) (hb0 : 0 < b) (hp : Post (some (.int (frI x b up))) Z I L) : CM g 1 0 0 mX5_fraction [.int x, .int (nI b), .int up] Z I L Post := by
  refine CM_intro ?_
  unfold frI at hp
  have hg0 : 0 < Nat.gcd x.toInt.natAbs b := Nat.gcd_pos_of_pos_right _ hb0
  have hgl : Nat.gcd x.toInt.natAbs b ≤ b := Nat.gcd_le_right _ hb0
  refine j_iload_n 0 dX5_fraction_0 rfl (j_mabs dX5_fraction_1 kX5_301 ?_)
  rw [hx]
  refine j_iload_n 1 dX5_fraction_4 rfl (j_S2 dX5_fraction_5 kX5_304 (c_gd ha hb ?_))
  generalize Nat.gcd x.toInt.natAbs b = d at hp hg0 hgl ⊢
  have hne : ¬ nI d = 0 := fun z => absurd (nI_inj (b := 0) (by omega) (by decide) z) (by omega)
  refine j_istore_n (lv' := [(3, _), (0, _), (1, _), (2, _)]) dX5_fraction_8 rfl (j_iload_n 0 dX5_fraction_9 rfl (j_iconst (v := 1) dX5_fraction_10 rfl (j_icmp_ge (tgt := 17) dX5_fraction_11 rfl (fun h1 => ?_) (fun h1 => ?_))))
  · refine j_iload_n 3 dX5_fraction_17 rfl (j_if_eq (tgt := 27) dX5_fraction_18 rfl (fun h2 => ?_) (fun h2 => ?_))
    · rw [if_pos h2] at hp
      refine j_iload_n 2 dX5_fraction_27 rfl (j_iload_n 0 dX5_fraction_28 rfl (j_idiv dX5_fraction_29 hne (j_iret dX5_fraction_30 ?_)))
      exact hp
    · rw [if_neg h2] at hp
      refine j_iload_n 1 dX5_fraction_21 rfl (j_iload_n 0 dX5_fraction_22 rfl (j_idiv dX5_fraction_23 hne (j_goto (tgt := 30) dX5_fraction_24 rfl (j_iret dX5_fraction_30 ?_))))
      exact hp
  · exact absurd (nI_le (a := 1) (by omega) (by omega)) h1
