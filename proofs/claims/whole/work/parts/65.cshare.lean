theorem sk_10 (c : CT) (σ : RT) : ∃ j, j ≤ 1 ∧ skF c σ 10 = σ 10 + nI j := by
  by_cases h : σ 2 < 14 ∨ hitN c (nN (σ 1)) = 4
  · exact ⟨0, by decide, by rw [skF_no h, nI_0, Int32.add_zero]⟩
  · by_cases h2 : fitsB σ (hitN c (nN (σ 1)))
    · refine ⟨1, by decide, ?_⟩
      rw [skF_sync h h2]
      split
      · rw [laF_n (by omega), upd_n (by omega), upd_s]; rfl
      · rw [upd_n (by omega), upd_s]; rfl
    · refine ⟨0, by decide, ?_⟩
      rw [skF_hit h h2, upd_n (by omega), upd_n (by omega), upd_n (by omega), nI_0, Int32.add_zero]
theorem bl_10 (c : CT) (σ : RT) : ∃ j, j ≤ 1 ∧ blF c σ 10 = σ 10 + nI j := by
  unfold blF
  split
  · exact ⟨1, by decide, by rw [nxF_n (by omega) (by omega), upd_n (by omega), upd_n (by omega), upd_s]; rfl⟩
  · split
    · exact ⟨0, by decide, by rw [nxF_n (by omega) (by omega), upd_n (by omega), upd_n (by omega), cpF_n (by omega), nI_0, Int32.add_zero]⟩
    · split
      · refine ⟨0, by decide, ?_⟩
        unfold loF quF
        rw [npF_n (by omega), upd_n (by omega), upd_n (by omega), upd_n (by omega), upd_n (by omega), upd_n (by omega), upd_n (by omega), upd_n (by omega), cpF_n (by omega), nI_0, Int32.add_zero]
      · exact ⟨0, by decide, by rw [nxF_n (by omega) (by omega), upd_n (by omega), upd_n (by omega), upd_n (by omega), cpF_n (by omega), nI_0, Int32.add_zero]⟩
theorem ht_10 (c : CT) (ρ : RT) (b : Nat) : ∃ j, j ≤ 1 ∧ htF c ρ b 10 = ρ 10 + nI j := by
  unfold htF
  split
  · obtain ⟨j, h1, h2⟩ := sk_10 c (b1F ρ b)
    exact ⟨j, h1, by rw [h2, b1F_n (by omega)]⟩
  · split
    · obtain ⟨j, h1, h2⟩ := bl_10 c (upd (upd (b1F ρ b) 5 (b1F ρ b 5 + 1)) 5 0)
      exact ⟨j, h1, by rw [h2, upd_n (by omega), upd_n (by omega), b1F_n (by omega)]⟩
    · exact ⟨0, by decide, by rw [upd_n (by omega), b1F_n (by omega), nI_0, Int32.add_zero]⟩
theorem hs_10 (c : CT) (v : Nat) : ∀ (n : Nat) (ρ : RT), ∃ j, j ≤ n ∧ hsF c n ρ v 10 = ρ 10 + nI j
  | 0, ρ => ⟨0, Nat.le_refl 0, by rw [nI_0, Int32.add_zero]; rfl⟩
  | n + 1, ρ => by
    obtain ⟨j, h1, h2⟩ := hs_10 c v n (htF c ρ (v / 2 ^ n % 2))
    obtain ⟨i, h3, h4⟩ := ht_10 c ρ (v / 2 ^ n % 2)
    refine ⟨i + j, by omega, ?_⟩
    show hsF c n (htF c ρ (v / 2 ^ n % 2)) v 10 = _
    rw [h2, h4, Int32.add_assoc, nI_add]
theorem hg_10 (c : CT) (G : Int32) (t : Nat) (ρ : RT) : ∀ k, ∃ j, j ≤ 14 * k ∧ hgF c G t k ρ 10 = ρ 10 + nI j
  | 0 => ⟨0, Nat.zero_le _, by rw [nI_0, Int32.add_zero]; rfl⟩
  | k + 1 => by
    obtain ⟨i, h3, h4⟩ := hg_10 c G t ρ k
    obtain ⟨j, h1, h2⟩ := hs_10 c (gwN c G t k) 14 (hgF c G t k ρ)
    refine ⟨i + j, by omega, ?_⟩
    show hsF c 14 (hgF c G t k ρ) (gwN c G t k) 10 = _
    rw [h2, h4, Int32.add_assoc, nI_add]
theorem gt_10 (c : CT) (G : Int32) (t : Nat) (ρ : RT) : ∀ k, ∃ j, j ≤ 56 * k ∧ giT c G t k ρ 10 = ρ 10 + nI j
  | 0 => ⟨0, Nat.zero_le _, by rw [nI_0, Int32.add_zero]; rfl⟩
  | k + 1 => by
    obtain ⟨i, h3, h4⟩ := gt_10 c G t ρ k
    obtain ⟨j, h1, h2⟩ := hg_10 c G t (giT c G t k ρ) 4
    refine ⟨i + j, by omega, ?_⟩
    show hgF c G t 4 (giT c G t k ρ) 10 = _
    rw [h2, h4, Int32.add_assoc, nI_add]
noncomputable def gbI (c : CT) (G : Int32) (ρ : RT) (s : Nat) : Int32 := giT c G (15 - s) 3 ρ 10
noncomputable def shI (c : CT) (G : Int32) (wd : Nat) (ρ : RT) : Nat → Int32
  | 0 => 0
  | s + 1 => shI c G wd ρ s + (if s.testBit wd then 0 else ordF (onF s 14 % 4) * (gbI c G ρ (s ||| 2 ^ wd) - gbI c G ρ s))
theorem ord_n (j : Nat) : ∃ o, o ≤ 6 ∧ ordF j = nI o := by
  unfold ordF
  split
  · exact ⟨6, by decide, rfl⟩
  · split
    · exact ⟨2, by decide, rfl⟩
    · split
      · exact ⟨2, by decide, rfl⟩
      · exact ⟨6, by decide, rfl⟩
theorem sh_al (r p q o a b : Int32) : p - q + o * (r + a - (r + b)) = p + o * a - (q + o * b) := by grind
theorem sh_bd (c : CT) (G : Int32) (wd : Nat) (ρ : RT) : ∀ k, ∃ P Q, P ≤ 1008 * k ∧ Q ≤ 1008 * k ∧ shI c G wd ρ k = nI P - nI Q
  | 0 => ⟨0, 0, Nat.zero_le _, Nat.zero_le _, rfl⟩
  | k + 1 => by
    obtain ⟨P, Q, hP, hQ, e⟩ := sh_bd c G wd ρ k
    show ∃ P Q, P ≤ 1008 * (k + 1) ∧ Q ≤ 1008 * (k + 1) ∧ shI c G wd ρ k + (if k.testBit wd then 0 else ordF (onF k 14 % 4) * (gbI c G ρ (k ||| 2 ^ wd) - gbI c G ρ k)) = nI P - nI Q
    split
    · exact ⟨P, Q, by omega, by omega, by rw [e, Int32.add_zero]⟩
    · obtain ⟨o, ho, eo⟩ := ord_n (onF k 14 % 4)
      obtain ⟨a, ha, ea⟩ := gt_10 c G (15 - (k ||| 2 ^ wd)) ρ 3
      obtain ⟨b, hb, eb⟩ := gt_10 c G (15 - k) ρ 3
      have h1 : o * a ≤ 6 * 168 := Nat.mul_le_mul ho ha
      have h2 : o * b ≤ 6 * 168 := Nat.mul_le_mul ho hb
      refine ⟨P + o * a, Q + o * b, by omega, by omega, ?_⟩
      unfold gbI
      rw [e, eo, ea, eb, sh_al, pk_mul, pk_mul, nI_add, nI_add]
theorem abs_I {P Q : Nat} (hP : P < 2 ^ 30) (hQ : Q < 2 ^ 30) : (nI P - nI Q).toInt.natAbs < 2 ^ 31 ∧ (if 0 ≤ nI P - nI Q then nI P - nI Q else 0 - (nI P - nI Q)) = nI (nI P - nI Q).toInt.natAbs := by
  have e := pk_sub_toInt hP hQ
  refine ⟨by omega, ?_⟩
  rw [e]
  by_cases h : Q ≤ P
  · rw [pk_sub h, if_pos (nI_pos' (by omega)), show ((P : Int) - Q).natAbs = P - Q by omega]
  · have h9 := pk_sneg (a := P) (b := Q) hQ (by omega)
    rw [if_neg (fun z => by rw [i32_lt] at h9; rw [i32_le] at z; omega), show ((P : Int) - Q).natAbs = Q - P by omega, ← pk_sub (by omega)]
    generalize nI P = p
    generalize nI Q = q
    grind
noncomputable def hcI (c : CT) (G : Int32) (wd : Nat) (ρ : RT) (up : Int32) : Int32 := frI (shI c G wd ρ 16) 24 up
theorem k_share {g : GT} {Z : ZT} {I : IT} {L : LT} {Post : PT} {t : Nat → Nat} {n : Nat} {c : CT} {w : Nat} {ρ : RT} {A : Nat × Nat × (Nat → RT)} {K : (Nat → RT) × (Nat → Bool)} {E : (Nat → Int32) × (Nat → Nat) × (Nat → Nat) × Nat} {sd : Int64} {G up : Int32} {k : Nat} (hX : isX Z) (hs : CSt t n c w ρ A K E sd I L) (ho : OKs c w ρ A K E) (hk : k < 4) (hp : ∀ I', CSt t n c w ρ A K E sd I' L → eqM I I' → Post (some (.int (hcI c G k ρ up))) Z I' L) : CM g 7 0 0 mX5_share [.ref 0, .int G, .int (nI k), .int up] Z I L Post := by
  have k0 : zK Z 0 = 5 := hX.1
  have sC := hs.2.1.1
  have sN := hs.2.2.1
  have oC := ho.1
  have oN := ho.2.2.1
  have hcc : ∀ V, CC (wr I 135 V) c := fun V => sC.fr (fun a _ _ => wr_n (by omega))
  have hrr : ∀ V, REC (vw (wr I 135 V) 8) ρ := fun V => rec_fr sN (fun j hj => wr_n (by omega))
  refine CM_intro ?_
  have loop : ∀ (m j : Nat) (V : IT), j + m = 16 → JW g mX5_share (rmO 7 0 0) (QM Post 0 0) 15 [(5, .int (nI j)), (4, .int (shI c G k ρ j)), (0, .ref 0), (1, .int G), (2, .int (nI k)), (3, .int up)] [] 0 0 Z (wr I 135 V) L := by
    intro m
    induction m with
    | zero =>
      intro j V hj
      have : j = 16 := by omega
      subst this
      obtain ⟨P, Q, hP, hQ, e⟩ := sh_bd c G k ρ 16
      have hab := abs_I (P := P) (Q := Q) (by omega) (by omega)
      rw [← e] at hab
      refine j_iload 0 dX5_share_15 rfl (j_bipush (v := 16) dX5_share_17 rfl (j_icmp_ge (tgt := 77) dX5_share_19 rfl (fun g1 => ?_) (fun g1 => ?_)))
      · refine j_iload 1 dX5_share_77 rfl (j_bipush (v := 24) dX5_share_79 rfl (j_iload_n 5 dX5_share_81 rfl (j_S3 dX5_share_82 kX5_262 (c_fraction (b := 24) hab.2 hab.1 (by decide) (by decide) ?_))))
        refine j_iret dX5_share_85 ?_
        exact hp _ (hs.trial (fun a ha => wr_n (by omega))) (fun a ha => wr_n (by omega))
      · exact absurd (by decide) g1
    | succ m ih =>
      intro j V hj
      have hi := fun V' => ih (j + 1) V' (by omega)
      have h2k : 1 * 2 ^ k < 2 ^ 32 := by
        rw [Nat.one_mul]
        exact Nat.pow_lt_pow_right (by decide) (by omega)
      have h16 : j ||| 2 ^ k < 2 ^ 4 := Nat.or_lt_two_pow (by omega) (Nat.pow_lt_pow_right (by decide) hk)
      refine j_iload 0 dX5_share_15 rfl (j_bipush (v := 16) dX5_share_17 rfl (j_icmp_ge (tgt := 77) dX5_share_19 rfl (fun g1 => ?_) (fun g1 => ?_)))
      · exact absurd g1 (nI_ge (b := 16) (by omega) (by decide))
      · refine j_iload 0 dX5_share_22 rfl (j_iload_n 4 dX5_share_24 rfl (j_ishr dX5_share_25 (j_iconst (v := 1) dX5_share_26 rfl (j_iand dX5_share_27 ?_))))
        rw [bitI (by omega) (by omega)]
        cases hb : j.testBit k with
        | true =>
          have hi : ∀ V', JW g mX5_share (rmO 7 0 0) (QM Post 0 0) 15 [(5, .int (nI (j + 1))), (4, .int (shI c G k ρ j + (if j.testBit k then 0 else ordF (onF j 14 % 4) * (gbI c G ρ (j ||| 2 ^ k) - gbI c G ρ j)))), (0, .ref 0), (1, .int G), (2, .int (nI k)), (3, .int up)] [] 0 0 Z (wr I 135 V') L := hi
          rw [hb] at hi
          refine j_if_ne (tgt := 71) dX5_share_28 rfl (fun g2 => ?_) (fun g2 => ?_)
          · refine j_iinc (y := 1) (lv' := [(5, _), (4, _), (0, _), (1, _), (2, _), (3, _)]) 0 dX5_share_71 rfl rfl rfl (j_goto (tgt := 15) dX5_share_74 rfl ?_)
            rw [nI_1]
            have hi := hi V
            rw [if_pos rfl, Int32.add_zero] at hi
            exact hi
          · exact absurd g2 (by decide)
        | false =>
          have hi : ∀ V', JW g mX5_share (rmO 7 0 0) (QM Post 0 0) 15 [(5, .int (nI (j + 1))), (4, .int (shI c G k ρ j + (if j.testBit k then 0 else ordF (onF j 14 % 4) * (gbI c G ρ (j ||| 2 ^ k) - gbI c G ρ j)))), (0, .ref 0), (1, .int G), (2, .int (nI k)), (3, .int up)] [] 0 0 Z (wr I 135 V') L := hi
          rw [hb] at hi
          refine j_if_ne (tgt := 71) dX5_share_28 rfl (fun g2 => ?_) (fun g2 => ?_)
          · exact absurd rfl g2
          · refine j_aload_n 2 dX5_share_31 rfl (j_iload_n 3 dX5_share_32 rfl (j_iload 0 dX5_share_33 rfl (j_iconst (v := 1) dX5_share_35 rfl (j_iload_n 4 dX5_share_36 rfl (j_ishl dX5_share_37 (j_ior dX5_share_38 ?_))))))
            rw [show (1 : Int32) <<< (nI k &&& 31) = nI (1 * 2 ^ k) from shlI (s := 1) h2k (by omega), fa_or, Nat.one_mul]
            refine j_V2 dX5_share_39 kX5_256 (by first | assumption | rfl) (c_goodBehind hX (hcc V) oC (hrr V) oN h16 (fun V' => ?_))
            rw [wr_wr]
            refine j_aload_n 2 dX5_share_42 rfl (j_iload_n 3 dX5_share_43 rfl (j_iload 0 dX5_share_44 rfl (j_V2 dX5_share_46 kX5_256 (by first | assumption | rfl) (c_goodBehind hX (hcc V') oC (hrr V') oN (by omega) (fun V2 => ?_)))))
            rw [wr_wr]
            refine j_isub dX5_share_49 (j_istore (lv' := [(6, _), (5, _), (4, _), (0, _), (1, _), (2, _), (3, _)]) dX5_share_50 rfl (j_iload 2 dX5_share_52 rfl (j_gets dX5_share_54 (List.mem_of_getElem? (i := 667) (by decide +kernel)) (j_iload 1 dX5_share_57 rfl (j_S1 dX5_share_59 kX5_180 (c_bitC (v := j) (by omega) ?_))))))
            refine j_iconst (v := 3) dX5_share_62 rfl (j_iand dX5_share_63 ?_)
            rw [and3]
            refine j_oaload (onF j 14 % 4) dX5_share_64 (by first | assumption | rfl) (by omega) (j_iload 0 dX5_share_65 rfl (j_imul dX5_share_67 (j_iadd dX5_share_68 (j_istore (lv' := [(4, _), (6, _), (5, _), (0, _), (1, _), (2, _), (3, _)]) dX5_share_69 rfl (j_iinc (y := 1) (lv' := [(5, _), (4, _), (6, _), (0, _), (1, _), (2, _), (3, _)]) 2 dX5_share_71 rfl rfl rfl (j_goto (tgt := 15) dX5_share_74 rfl ?_))))))
            rw [nI_1]
            have hi := hi V2
            rw [if_neg (show ¬ (false = true) by decide)] at hi
            exact JW.locals [0, 1, 3, 4, 5, 6] rfl hi
  have h0 := loop 16 0 (vw I 135) rfl
  rw [wr_vw] at h0
  refine j_iload_n 2 dX5_share_0 rfl (j_S1 dX5_share_1 kX5_109 (c_isOffset ⟨fun _ _ _ => ?_, fun h => absurd rfl (h k hk)⟩))
  refine j_if_ne (tgt := 9) dX5_share_4 rfl (fun _ => (j_iconst (v := 0) dX5_share_9 rfl (j_istore (lv' := [(4, _), (0, _), (1, _), (2, _), (3, _)]) dX5_share_10 rfl (j_iconst (v := 0) dX5_share_12 rfl (j_istore (lv' := [(5, _), (4, _), (0, _), (1, _), (2, _), (3, _)]) dX5_share_13 rfl ?_))))) (fun h9 => absurd h9 (by decide))
  exact JW.locals [0, 1, 2, 3, 4, 5] rfl h0
theorem k_share_u {g : GT} {Z : ZT} {I : IT} {L : LT} {Post : PT} {G x up : Int32} (hx : ∀ j, j < 4 → x ≠ nI j) (hp : Post (some (.int (-1))) Z I L) : CM g 7 0 0 mX5_share [.ref 0, .int G, .int x, .int up] Z I L Post := by
  refine CM_intro ?_
  refine j_iload_n 2 dX5_share_0 rfl (j_S1 dX5_share_1 kX5_109 (c_isOffset ⟨fun j hj e => absurd e (hx j hj), fun _ => ?_⟩))
  refine j_if_ne (tgt := 9) dX5_share_4 rfl (fun h9 => absurd (by decide) h9) (fun _ => (j_iconst (v := -1) dX5_share_7 rfl (j_iret dX5_share_8 ?_)))
  exact hp
