theorem hsF_split (c : CT) (b : Nat) (R : Nat) : ∀ (a : Nat) (ρ : RT), hsF c (a + b) ρ R = hsF c b (hsF c a ρ (R / 2 ^ b)) R
  | 0, ρ => by rw [Nat.zero_add]; rfl
  | a + 1, ρ => by
    rw [show a + 1 + b = (a + b) + 1 by omega]
    show hsF c (a + b) (htF c ρ (R / 2 ^ (a + b) % 2)) R = hsF c b (hsF c a (htF c ρ (R / 2 ^ b / 2 ^ a % 2)) (R / 2 ^ b)) R
    rw [hsF_split c b R a, Nat.div_div_eq_div_mul, ← Nat.pow_add, Nat.add_comm b a]
theorem hsF_cong (c : CT) (R S : Nat) : ∀ (n : Nat) (ρ : RT), (∀ i, i < n → R / 2 ^ i % 2 = S / 2 ^ i % 2) → hsF c n ρ R = hsF c n ρ S
  | 0, _, _ => rfl
  | n + 1, ρ, h => by
    show hsF c n (htF c ρ (R / 2 ^ n % 2)) R = hsF c n (htF c ρ (S / 2 ^ n % 2)) S
    rw [h n (by omega)]
    exact hsF_cong c R S n _ (fun i hi => h i (by omega))
theorem bit_mod {R n i : Nat} (hi : i < n) : R % 2 ^ n / 2 ^ i % 2 = R / 2 ^ i % 2 := by
  have h := Nat.testBit_mod_two_pow R n i
  rw [decide_eq_true hi, Bool.true_and] at h
  rw [Nat.testBit_eq_decide_div_mod_eq, Nat.testBit_eq_decide_div_mod_eq] at h
  have h2 := decide_eq_decide.mp h
  omega
theorem hsF_mod (c : CT) (R n : Nat) (ρ : RT) : hsF c n ρ (R % 2 ^ n) = hsF c n ρ R := hsF_cong c _ _ n ρ (fun i hi => bit_mod hi)
/-- the bits of a GROUP in one row -/
def rtN (c : CT) (G : Int32) (t : Nat) : Nat → Nat
  | 0 => 0
  | k + 1 => rtN c G t k * 16384 + gwN c G t k
theorem rt_lt {c : CT} {G : Int32} {t : Nat} (h1 : c.1 < 64) (h2 : ∀ k, k < 4 → c.2.1 k < 64) : ∀ k, k ≤ 4 → rtN c G t k < 2 ^ (14 * k)
  | 0, _ => Nat.zero_lt_one
  | k + 1, hk => by
    have ih := rt_lt (G := G) (t := t) h1 h2 k (by omega)
    have hw := gwN_lt (G := G) (t := t) h1 (h2 k (by omega))
    show rtN c G t k * 16384 + gwN c G t k < 2 ^ (14 * k + 14)
    rw [Nat.pow_add, show (2 : Nat) ^ 14 = 16384 from rfl]
    have := Nat.mul_le_mul_right 16384 (Nat.succ_le_of_lt ih)
    rw [Nat.succ_mul] at this
    omega
theorem hs_rt {c : CT} {G : Int32} {t : Nat} (h1 : c.1 < 64) (h2 : ∀ k, k < 4 → c.2.1 k < 64) (ρ : RT) : ∀ k, k ≤ 4 → hsF c (14 * k) ρ (rtN c G t k) = hgF c G t k ρ
  | 0, _ => rfl
  | k + 1, hk => by
    have hw := gwN_lt (G := G) (t := t) h1 (h2 k (by omega))
    show hsF c (14 * k + 14) ρ (rtN c G t k * 16384 + gwN c G t k) = hsF c 14 (hgF c G t k ρ) (gwN c G t k)
    rw [hsF_split, show (rtN c G t k * 16384 + gwN c G t k) / 2 ^ 14 = rtN c G t k by omega, hs_rt h1 h2 ρ k (by omega), ← hsF_mod c (rtN c G t k * 16384 + gwN c G t k), show (rtN c G t k * 16384 + gwN c G t k) % 2 ^ 14 = gwN c G t k by omega]
theorem gw0 (c : CT) (G : Int32) (k : Nat) : gwN c G 0 k = wdN c k (byN G k) := by
  unfold gwN
  rw [Nat.zero_testBit]
  exact Nat.xor_zero _
theorem or_add {a w : Nat} (hw : w < 16384) : a * 16384 ||| w = a * 16384 + w := by
  rw [Nat.mul_comm]
  exact (Nat.two_pow_add_eq_or_of_lt (i := 14) hw a).symm
theorem byte_cl (G : Int32) {k : Nat} (hk : k < 4) : (G >>> (((8 : Int32) * (3 - nI k)) &&& 31)) &&& 255 = nI (byN G k) := by
  obtain ⟨j, hj, e⟩ := byI (G >>> ((24 - 8 * nI k) &&& 31))
  have h : (8 : Int32) * (3 - nI k) = 24 - 8 * nI k := by
    have : k = 0 ∨ k = 1 ∨ k = 2 ∨ k = 3 := by omega
    rcases this with r | r | r | r <;> subst r <;> decide
  unfold byN
  rw [h, e, nN_nI (by omega)]
theorem c_groupRow {g : GT} {Z : ZT} {I : IT} {L : LT} {Post : PT} {c : CT} {G : Int32} (hZ : isCo Z) (hc : CC I c) (hp : Post (some (.long (lN (rtN c G 0 4)))) Z I L) : CM g 2 0 0 mX1_groupRow [.ref 3, .int G] Z I L Post := by
  obtain ⟨z1, z2, z3, z4, z5, z6, z7, z8, z9, z10, z11, z12, z13⟩ := id hZ
  obtain ⟨c1, c2, c3, c4, -⟩ := id hc
  refine CM_intro ?_
  have loop : ∀ (n k : Nat), k + n = 4 → JW g mX1_groupRow (rmO 2 0 0) (QM Post 0 0) 5 [(4, .int (nI k)), (2, .long (lN (rtN c G 0 k))), (0, .ref 3), (1, .int G)] [] 0 0 Z I L := by
    intro n
    induction n with
    | zero =>
      intro k hk
      have : k = 4 := by omega
      subst this
      refine j_iload 0 dX1_groupRow_5 rfl (j_iconst (v := 4) dX1_groupRow_7 rfl (j_icmp_ge (tgt := 47) dX1_groupRow_8 rfl (fun h1 => ?_) (fun h1 => ?_)))
      · refine j_lload_n 1 dX1_groupRow_47 rfl (j_lret dX1_groupRow_48 ?_)
        exact hp
      · exact absurd (by decide) h1
    | succ n ih =>
      intro k hk
      have hk4 : k < 4 := by omega
      have hlt := rt_lt (G := G) (t := 0) c2 c4 k (by omega)
      refine j_iload 0 dX1_groupRow_5 rfl (j_iconst (v := 4) dX1_groupRow_7 rfl (j_icmp_ge (tgt := 47) dX1_groupRow_8 rfl (fun h1 => ?_) (fun h1 => ?_)))
      · exact absurd h1 (nI_ge hk4 (by decide))
      · refine j_iload_n 3 dX1_groupRow_11 rfl (j_bipush (v := 8) dX1_groupRow_12 rfl (j_iconst (v := 3) dX1_groupRow_14 rfl (j_iload 0 dX1_groupRow_15 rfl (j_isub dX1_groupRow_17 (j_imul dX1_groupRow_18 (j_ishr dX1_groupRow_19 (j_sipush (v := 255) dX1_groupRow_20 rfl (j_iand dX1_groupRow_23 ?_))))))))
        rw [byte_cl G hk4]
        refine j_istore (lv' := [(5, _), (4, _), (2, _), (0, _), (1, _)]) dX1_groupRow_24 rfl (j_lload_n 2 dX1_groupRow_26 rfl (j_bipush (v := 14) dX1_groupRow_27 rfl (j_lshl dX1_groupRow_29 (j_aload_n 3 dX1_groupRow_30 rfl (j_iload 1 dX1_groupRow_31 rfl (j_iload 0 dX1_groupRow_33 rfl (j_V2 dX1_groupRow_35 kX1_77 (by first | assumption | rfl) (c_cWordOf hZ hc hk4 (byN_lt G k) ?_))))))))
        refine j_i2l dX1_groupRow_38 (j_lor dX1_groupRow_39 ?_)
        rw [show ((14 : Int32).toInt64 &&& 63) = ((nI 14).toInt64 &&& 63) from rfl, wb_shl _ (by decide), nI_l (by have := wdN_lt c2 (c4 k hk4) (byN_lt G k); omega), fb_orL, show (2 : Nat) ^ 14 = 16384 from rfl, or_add (wdN_lt c2 (c4 k hk4) (byN_lt G k)), ← gw0]
        refine j_lstore_n (lv' := [(2, _), (5, _), (4, _), (0, _), (1, _)]) dX1_groupRow_40 rfl (j_iinc (y := 1) (lv' := [(4, _), (2, _), (5, _), (0, _), (1, _)]) 2 dX1_groupRow_41 rfl rfl rfl (j_goto (tgt := 5) dX1_groupRow_44 rfl ?_))
        rw [nI_1]
        exact JW.locals [0, 1, 3, 4] rfl (ih (k + 1) (by omega))
  refine j_lconst (v := 0) dX1_groupRow_0 rfl (j_lstore_n (lv' := [(2, _), (0, _), (1, _)]) dX1_groupRow_1 rfl (j_iconst (v := 0) dX1_groupRow_2 rfl (j_istore (lv' := [(4, _), (2, _), (0, _), (1, _)]) dX1_groupRow_3 rfl ?_)))
  exact JW.locals [0, 1, 2, 3] rfl (loop 4 0 rfl)
