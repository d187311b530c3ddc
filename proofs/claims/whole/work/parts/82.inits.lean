theorem rfn {n : Nat} : rfL n [] := trivial
theorem rfr {n a : Nat} {l : List Value} (h : a < n ∨ 1000 ≤ a) (t : rfL n l) : rfL n (.ref a :: l) := ⟨h, t⟩
theorem rfi {n : Nat} {x : Int32} {l : List Value} (t : rfL n l) : rfL n (.int x :: l) := ⟨trivial, t⟩
theorem c_tInit {g : GT} {Z : ZT} {I : IT} {L : LT} {Post : PT} (hkk : okK Z) (hn : zN Z = 2) (hK : zK Z 1 = 4) (hp : ∀ Z' I' L', ZM Z Z' → zN Z' = 3 → isTx Z' → (∀ a, a ≠ 1 → a ≠ 2 → I' a = I a) → I' 1 1 = 0 → I' 2 = (fun _ => 0) → (∀ a, a ≠ 2 → L' a = L a) → Post none Z' I' L') : CM g 1 1 40 mX4_init [.ref 1] Z I L Post := by
  refine CM_intro ?_
  refine j_aload_n 0 dX4_init_0 rfl (j_oinit dX4_init_1 oiX4 ?_)
  refine j_aload_n 0 dX4_init_4 rfl (j_bipush (v := 40) dX4_init_5 rfl ?_)
  refine j_rowI (n := 2) (ci := 4) (f := 0) (len := 40) hn dX4_init_7 dX4_init_9 fX4_11 rfl rfl rfl (by decide) rfl hK hkk (rfr (by omega) (rfr (by omega) rfn)) (by decide) ⟨Nat.le_of_ble_eq_true rfl, Nat.le_of_ble_eq_true rfl⟩ (fun Z1 z1 n1 q1 q2 q3 => ?_) (by decide)
  have k1 := z1.k hK (by omega)
  refine j_aload_n 0 dX4_init_12 rfl (j_iconst (v := 0) dX4_init_13 rfl (j_putI dX4_init_14 fX4_15 (by first | assumption | rfl) (j_vret dX4_init_17 ?_)))
  exact hp Z1 _ _ z1 n1 ⟨k1, q3, q1, q2⟩ (fun a h1 h2 => by rw [upI_n h1, upR_n h2]) (by rw [upI_s, upd_s]) (by rw [upI_n (by decide), upR_s]) (fun a h => upL_n h)
theorem c_sInit {g : GT} {Z : ZT} {I : IT} {L : LT} {Post : PT} {b : Nat} (hb : b < 950) (hkk : okK Z) (hn : zN Z = b + 1) (hK : zK Z b = 3) (hp : ∀ Z' I' L', ZM Z Z' → zN Z' = b + 5 → (zS Z' b 0 = true ∧ zS Z' b 1 = true ∧ zS Z' b 2 = true ∧ zS Z' b 3 = true ∧ zK Z' (b + 1) = 7 ∧ zL Z' (b + 1) = 4 ∧ zK Z' (b + 2) = 7 ∧ zL Z' (b + 2) = 4 ∧ zK Z' (b + 3) = 7 ∧ zL Z' (b + 3) = 8 ∧ zK Z' (b + 4) = 7 ∧ zL Z' (b + 4) = 8) → (∀ a, a ≤ b ∨ b + 5 ≤ a → I' a = I a) → (∀ a, a ≤ b → L' a = L a) → Post none Z' I' L') : CM g 1 4 24 mX3_init [.ref b] Z I L Post := by
  refine CM_intro ?_
  refine j_aload_n 0 dX3_init_0 rfl (j_oinit dX3_init_1 oiX3 ?_)
  refine j_aload_n 0 dX3_init_4 rfl (j_iconst (v := 4) dX3_init_5 rfl ?_)
  refine j_rowI (n := b + 1) (ci := 3) (f := 0) (len := 4) hn dX3_init_6 dX3_init_8 fX3_11 rfl rfl rfl (by decide) rfl hK hkk (rfr (by omega) (rfr (by omega) rfn)) (by omega) ⟨Nat.le_of_ble_eq_true rfl, Nat.le_of_ble_eq_true rfl⟩ (fun Z1 z1 n1 p1 p2 p3 => ?_) (by decide)
  have k1 := z1.k hK (by omega)
  refine j_aload_n 0 dX3_init_11 rfl (j_iconst (v := 4) dX3_init_12 rfl ?_)
  refine j_rowI (n := b + 2) (ci := 3) (f := 1) (len := 4) n1 dX3_init_13 dX3_init_15 fX3_15 rfl rfl rfl (by decide) rfl k1 z1.2.1 (rfr (by omega) (rfr (by omega) rfn)) (by omega) ⟨Nat.le_of_ble_eq_true rfl, Nat.le_of_ble_eq_true rfl⟩ (fun Z2 z2 n2 q1 q2 q3 => ?_) (by decide)
  have k2 := z2.k k1 (by omega)
  refine j_aload_n 0 dX3_init_18 rfl (j_bipush (v := 8) dX3_init_19 rfl ?_)
  refine j_rowI (n := b + 3) (ci := 3) (f := 2) (len := 8) n2 dX3_init_21 dX3_init_23 fX3_18 rfl rfl rfl (by decide) rfl k2 z2.2.1 (rfr (by omega) (rfr (by omega) rfn)) (by omega) ⟨Nat.le_of_ble_eq_true rfl, Nat.le_of_ble_eq_true rfl⟩ (fun Z3 z3 n3 r1 r2 r3 => ?_) (by decide)
  have k3 := z3.k k2 (by omega)
  refine j_aload_n 0 dX3_init_26 rfl (j_bipush (v := 8) dX3_init_27 rfl ?_)
  refine j_rowI (n := b + 4) (ci := 3) (f := 3) (len := 8) n3 dX3_init_29 dX3_init_31 fX3_21 rfl rfl rfl (by decide) rfl k3 z3.2.1 (rfr (by omega) (rfr (by omega) rfn)) (by omega) ⟨Nat.le_of_ble_eq_true rfl, Nat.le_of_ble_eq_true rfl⟩ (fun Z4 z4 n4 s1 s2 s3 => ?_) (by decide)
  have z34 := z3.tr z4
  have z24 := z2.tr z34
  refine j_vret dX3_init_34 ?_
  exact hp Z4 _ _ (z1.tr z24) n4 ⟨z24.s p3 (by omega), z34.s q3 (by omega), z4.s r3 (by omega), s3, z24.k p1 (by omega), z24.l p2 (by omega), z34.k q1 (by omega), z34.l q2 (by omega), z4.k r1 (by omega), z4.l r2 (by omega), s1, s2⟩ (fun a h => by rw [upR_n (by omega), upR_n (by omega), upR_n (by omega), upR_n (by omega)]) (fun a h => by rw [upL_n (by omega), upL_n (by omega), upL_n (by omega), upL_n (by omega)])
theorem c_rInit {g : GT} {Z : ZT} {I : IT} {L : LT} {Post : PT} {r : Nat} (hr : r < 900) (hkk : okK Z) (hn : zN Z = r + 1) (hK : zK Z r = 2) (hp : ∀ Z' I' L', ZM Z Z' → zN Z' = r + 7 → isR Z' r → (∀ a, a < r ∨ r + 7 ≤ a → I' a = I a) → REC (vw I' r) fr0 → (∀ a, a ≤ r → L' a = L a) → Post none Z' I' L') : CM g 4 6 37 mX2_init [.ref r] Z I L Post := by
  refine CM_intro ?_
  refine j_aload_n 0 dX2_init_0 rfl (j_oinit dX2_init_1 oiX2 ?_)
  refine j_aload_n 0 dX2_init_4 rfl ?_
  refine j_new2 (n := r + 1) (ci := 3) hn dX2_init_5 (nwd3 clX2_9) (by decide) hkk (rfr (by omega) (rfr (by omega) rfn)) (by omega) ⟨Nat.le_of_ble_eq_true rfl, Nat.le_of_ble_eq_true rfl⟩ (fun Z1 z1 n1 p1 => ?_)
  have k1 := z1.k hK (by omega)
  refine j_dup dX2_init_8 rfl ?_
  refine j_X (a := r + 1) (d := 1) (mc := 4) (ms := 24) (as := []) (st := [.ref (r + 1), .ref r]) (Or.inr ⟨rfl, rfl, rfl⟩) dX2_init_9 kX2_11 rfl rfl (Or.inr (rf_of (rfr (by omega) (rfr (by omega) (rfr (by omega) rfn))))) (Nat.le_of_ble_eq_true rfl) (Nat.le_of_ble_eq_true rfl) ⟨Nat.le_of_ble_eq_true rfl, Nat.le_of_ble_eq_true rfl⟩ (Nat.le_of_ble_eq_true rfl) (c_sInit (b := r + 1) (by omega) z1.2.1 n1 p1 (fun Z2 I2 L2 z2 n2 hS e2 l2 => ?_))
  obtain ⟨s0, s1, s2, s3, a1, a2, b1, b2, c1, c2, d1, d2⟩ := hS
  have k2 := z2.k k1 (by omega)
  refine j_put2 (a := r) (b := r + 1) (ci := 2) (f := 0) dX2_init_12 fX2_12 rfl rfl z2.2.1 rfl k2 (by omega) (fun Z3 z3 n3 t3 => ?_)
  have k3 := z3.k k2 (by omega)
  have z23 := z2.tr z3
  refine j_aload_n 0 dX2_init_15 rfl (j_iconst (v := 4) dX2_init_16 rfl ?_)
  refine j_rowI (n := r + 6) (ci := 2) (f := 1) (len := 4) (by omega) dX2_init_17 dX2_init_19 fX2_18 rfl rfl rfl (by decide) rfl k3 z3.2.1 (rfr (by omega) (rfr (by omega) rfn)) (by omega) ⟨Nat.le_of_ble_eq_true rfl, Nat.le_of_ble_eq_true rfl⟩ (fun Z4 z4 n4 u1 u2 u3 => ?_) (by decide)
  have z34 := z3.tr z4
  have hR4 : isR Z4 r := ⟨z4.k k3 (by omega), z4.s t3 (by omega), u3, z34.k (z2.k p1 (by omega)) (by omega), z34.s s0 (by omega), z34.s s1 (by omega), z34.s s2 (by omega), z34.s s3 (by omega), z34.k a1 (by omega), z34.l a2 (by omega), z34.k b1 (by omega), z34.l b2 (by omega), z34.k c1 (by omega), z34.l c2 (by omega), z34.k d1 (by omega), z34.l d2 (by omega), u1, u2⟩
  have k4 := hR4.1
  refine j_aload_n 0 dX2_init_22 rfl (j_V0 dX2_init_23 kX2_22 (by first | assumption | rfl) (c_clr hR4 (fun V' hV' => ?_)))
  refine j_vret dX2_init_26 ?_
  exact hp Z4 _ _ ((z1.tr z23).tr z4) (by omega) hR4 (fun a h => by rw [wr_n (by omega), upR_n (by omega), e2 a (by omega), upR_n (by omega)]) (rec_wr hV') (fun a h => by rw [upL_n (by omega), l2 a (by omega), upL_n (by omega)])
theorem id_lt : ∀ k, k < 4 → k < 64 := by decide
theorem c_cInit {g : GT} {Z : ZT} {I : IT} {L : LT} {Post : PT} (hkk : okK Z) (hn : zN Z = 4) (hK : zK Z 3 = 1) (hp : ∀ Z' I' L', ZM Z Z' → zN Z' = 8 → isCo Z' → (∀ a, a < 3 ∨ 8 ≤ a → I' a = I a) → cC I' (mkC 1 (fun k => k) 0 1) 0 → (∀ a, a ≤ 3 → L' a = L a) → Post none Z' I' L') : CM g 4 4 388 mX1_init [.ref 3] Z I L Post := by
  refine CM_intro ?_
  refine j_aload_n 0 dX1_init_0 rfl (j_oinit dX1_init_1 oiX1 ?_)
  refine j_aload_n 0 dX1_init_4 rfl (j_iconst (v := 4) dX1_init_5 rfl ?_)
  refine j_rowI (n := 4) (ci := 1) (f := 0) (len := 4) hn dX1_init_6 dX1_init_8 fX1_9 rfl rfl rfl (by decide) rfl hK hkk (rfr (by omega) (rfr (by omega) rfn)) (by decide) ⟨Nat.le_of_ble_eq_true rfl, Nat.le_of_ble_eq_true rfl⟩ (fun Z1 z1 n1 p1 p2 p3 => ?_) (by decide)
  have k1 := z1.k hK (by omega)
  refine j_aload_n 0 dX1_init_11 rfl (j_sipush (v := 256) dX1_init_12 rfl ?_)
  refine j_rowI (n := 5) (ci := 1) (f := 1) (len := 256) n1 dX1_init_15 dX1_init_17 fX1_15 rfl rfl rfl (by decide) rfl k1 z1.2.1 (rfr (by omega) (rfr (by omega) rfn)) (by decide) ⟨Nat.le_of_ble_eq_true rfl, Nat.le_of_ble_eq_true rfl⟩ (fun Z2 z2 n2 q1 q2 q3 => ?_) (by decide)
  have k2 := z2.k k1 (by omega)
  refine j_aload_n 0 dX1_init_20 rfl (j_bipush (v := 64) dX1_init_21 rfl ?_)
  refine j_rowI (n := 6) (ci := 1) (f := 2) (len := 64) n2 dX1_init_23 dX1_init_25 fX1_18 rfl rfl rfl (by decide) rfl k2 z2.2.1 (rfr (by omega) (rfr (by omega) rfn)) (by decide) ⟨Nat.le_of_ble_eq_true rfl, Nat.le_of_ble_eq_true rfl⟩ (fun Z3 z3 n3 r1 r2 r3 => ?_) (by decide)
  have k3 := z3.k k2 (by omega)
  refine j_aload_n 0 dX1_init_28 rfl (j_bipush (v := 64) dX1_init_29 rfl ?_)
  refine j_rowI (n := 7) (ci := 1) (f := 3) (len := 64) n3 dX1_init_31 dX1_init_33 fX1_21 rfl rfl rfl (by decide) rfl k3 z3.2.1 (rfr (by omega) (rfr (by omega) rfn)) (by decide) ⟨Nat.le_of_ble_eq_true rfl, Nat.le_of_ble_eq_true rfl⟩ (fun Z4 z4 n4 s1 s2 s3 => ?_) (by decide)
  have k4 := z4.k k3 (by omega)
  have z34 := z3.tr z4
  have z24 := z2.tr z34
  have hC : isCo Z4 := ⟨k4, z24.s p3 (by omega), z34.s q3 (by omega), z4.s r3 (by omega), s3, z24.k p1 (by omega), z24.l p2 (by omega), z34.k q1 (by omega), z34.l q2 (by omega), z4.k r1 (by omega), z4.l r2 (by omega), s1, s2⟩
  have w3 := hC.2.1
  have k04 := hC.2.2.2.2.2.1
  have l04 := hC.2.2.2.2.2.2.1
  have loop : ∀ (m k : Nat) (I1 : IT) (L1 : LT), k + m = 4 → (∀ a, a < 3 ∨ 8 ≤ a → I1 a = I a) → I1 3 4 = nI 1 → I1 3 5 = nI 0 → I1 3 6 = nI 1 → (∀ q, q < k → I1 4 q = nI q) → (∀ a, a ≤ 3 → L1 a = L a) → JW g mX1_init (rmO 4 4 388) (QM Post 4 388) 63 [(1, .int (nI k)), (0, .ref 3)] [] 4 388 Z4 I1 L1 := by
    intro m
    induction m with
    | zero =>
      intro k I1 L1 hk e v4 v5 v6 hq hl
      have : k = 4 := by omega
      subst this
      refine j_iload_n 0 dX1_init_63 rfl (j_iconst (v := 4) dX1_init_64 rfl (j_icmp_ge (tgt := 81) dX1_init_65 rfl (fun g1 => ?_) (fun g1 => ?_)))
      · refine j_aload_n 1 dX1_init_81 rfl (j_V0 dX1_init_82 kX1_40 (by first | assumption | rfl) (c_fillRows (gn := 1) (w := 0) (hold := 1) (o := fun k => k) hC (by decide) (by decide) (by decide) (by decide) (by decide) id_lt (fun i j _ _ h => h) v4 hq v5 v6 (fun I2 e2 e23 hcc h7 h8 => ?_)))
        refine j_vret dX1_init_85 ?_
        exact hp Z4 I2 L1 (z1.tr z24) n4 hC (fun a h => by rw [e2 a (by omega) (by omega) (by omega) (by omega)]; exact e a h) ⟨hcc, by rw [e23 5 (by decide) (by decide)]; exact v5, h7, h8⟩ hl
      · exact absurd (by decide) g1
    | succ m ih =>
      intro k I1 L1 hk e v4 v5 v6 hq hl
      refine j_iload_n 0 dX1_init_63 rfl (j_iconst (v := 4) dX1_init_64 rfl (j_icmp_ge (tgt := 81) dX1_init_65 rfl (fun g1 => ?_) (fun g1 => ?_)))
      · exact absurd g1 (nI_ge (b := 4) (by omega) (by decide))
      · refine j_aload_n 1 dX1_init_68 rfl (j_getR (b := 4) dX1_init_69 fX1_9 rfl (by first | assumption | rfl) (by first | assumption | rfl) (j_iload_n 0 dX1_init_72 rfl (j_iload_n 0 dX1_init_73 rfl (j_iastore k dX1_init_74 (by first | assumption | rfl) (by first | assumption | rfl) (by omega) (j_iinc (y := 1) (lv' := [(1, _), (0, _)]) 0 dX1_init_75 rfl rfl rfl (j_goto (tgt := 63) dX1_init_78 rfl ?_))))))
        rw [nI_1]
        refine ih (k + 1) _ L1 (by omega) (fun a h => by rw [upI_n (by omega)]; exact e a h) (by rw [upI_n (by decide)]; exact v4) (by rw [upI_n (by decide)]; exact v5) (by rw [upI_n (by decide)]; exact v6) (fun q hq2 => ?_) hl
        rw [upI_s, upd_app]
        by_cases eq : q = k
        · rw [if_pos eq, eq]
        · rw [if_neg eq]
          exact hq q (by omega)
  refine j_aload_n 0 dX1_init_36 rfl (j_iconst (v := 1) dX1_init_37 rfl (j_putI dX1_init_38 fX1_24 (by first | assumption | rfl) (j_aload_n 0 dX1_init_41 rfl (j_iconst (v := 0) dX1_init_42 rfl (j_putI dX1_init_43 fX1_28 (by first | assumption | rfl) (j_aload_n 0 dX1_init_46 rfl (j_iconst (v := 1) dX1_init_47 rfl (j_putI dX1_init_48 fX1_31 (by first | assumption | rfl) (j_aload_n 0 dX1_init_51 rfl (j_iconst (v := 0) dX1_init_52 rfl (j_putI dX1_init_53 fX1_34 (by first | assumption | rfl) (j_aload_n 0 dX1_init_56 rfl (j_iconst (v := 0) dX1_init_57 rfl (j_putI dX1_init_58 fX1_37 (by first | assumption | rfl) (j_iconst (v := 0) dX1_init_61 rfl (j_istore_n (lv' := [(1, _), (0, _)]) dX1_init_62 rfl ?_))))))))))))))))
  refine JW.locals [0, 1] rfl (loop 4 0 _ _ rfl (fun a h => ?_) ?_ ?_ ?_ (fun q hq => absurd hq (Nat.not_lt_zero _)) (fun a h => ?_))
  · rw [upI_n (by omega), upI_n (by omega), upI_n (by omega), upI_n (by omega), upI_n (by omega), upR_n (by omega), upR_n (by omega), upR_n (by omega), upR_n (by omega)]
  · rw [upI_s, upd_n (by decide), upI_s, upd_n (by decide), upI_s, upd_n (by decide), upI_s, upd_n (by decide), upI_s, upd_s]
    rfl
  · rw [upI_s, upd_n (by decide), upI_s, upd_n (by decide), upI_s, upd_n (by decide), upI_s, upd_s]
    rfl
  · rw [upI_s, upd_n (by decide), upI_s, upd_n (by decide), upI_s, upd_s]
    rfl
  · rw [upL_n (by omega), upL_n (by omega), upL_n (by omega), upL_n (by omega)]
theorem c_aInit {g : GT} {Z : ZT} {I : IT} {L : LT} {Post : PT} (hkk : okK Z) (hn : zN Z = 16) (hK : zK Z 15 = 0) (hp : ∀ Z' I' L', ZM Z Z' → zN Z' = 115 → isA Z' → (∀ a, a < 15 ∨ 115 ≤ a → I' a = I a) → I' 15 1 = 0 → I' 15 2 = 0 → (∀ a, a ≤ 15 → L' a = L a) → Post none Z' I' L') : CM g 5 99 742 mX0_init [.ref 15] Z I L Post := by
  refine CM_intro ?_
  refine j_aload_n 0 dX0_init_0 rfl (j_oinit dX0_init_1 oiX0 ?_)
  refine j_aload_n 0 dX0_init_4 rfl (j_bipush (v := 14) dX0_init_5 rfl ?_)
  refine j_rowQ (n := 16) (ci := 0) (f := 0) (len := 14) hn dX0_init_7 clX0_9 dX0_init_10 fX0_11 rfl rfl rfl (by decide) rfl hK hkk (rfr (by omega) (rfr (by omega) rfn)) (by decide) ⟨Nat.le_of_ble_eq_true rfl, Nat.le_of_ble_eq_true rfl⟩ (fun Z1 z1 n1 p1 p2 p3 => ?_) (by decide)
  have k1 := z1.k hK (by omega)
  have loop : ∀ (m i : Nat) (Z2 : ZT) (I2 : IT) (L2 : LT), i + m = 14 → ZM Z1 Z2 → zN Z2 = 17 + 7 * i → (∀ q, q < i → zS Z2 16 q = true) → (∀ q, q < i → isR Z2 (17 + 7 * q)) → (∀ a, a < 15 ∨ 115 ≤ a → I2 a = I a) → I2 15 1 = 0 → I2 15 2 = 0 → (∀ a, a ≤ 15 → L2 a = L a) → JW g mX0_init (rmO 5 99 742) (QM Post 99 742) 25 [(1, .int (nI i)), (0, .ref 15)] [] (1 + 7 * i) (14 + 52 * i) Z2 I2 L2 := by
    intro m
    induction m with
    | zero =>
      intro i Z2 I2 L2 hi z2 n2 hs hr e v1 v2 hl
      have : i = 14 := by omega
      subst this
      refine j_iload_n 0 dX0_init_25 rfl (j_bipush (v := 14) dX0_init_26 rfl (j_icmp_ge (tgt := 50) dX0_init_28 rfl (fun g1 => ?_) (fun g1 => ?_)))
      · refine j_vret dX0_init_50 ?_
        exact hp Z2 I2 L2 (z1.tr z2) n2 ⟨z2.k k1 (by omega), z2.s p3 (by omega), z2.k p1 (by omega), z2.l p2 (by omega), hs, hr⟩ e v1 v2 hl
      · exact absurd (by decide) g1
    | succ m ih =>
      intro i Z2 I2 L2 hi z2 n2 hs hr e v1 v2 hl
      have q15 := z2.k k1 (by omega)
      have s15 := z2.s p3 (by omega)
      have q16 := z2.k p1 (by omega)
      have l16 := z2.l p2 (by omega)
      refine j_iload_n 0 dX0_init_25 rfl (j_bipush (v := 14) dX0_init_26 rfl (j_icmp_ge (tgt := 50) dX0_init_28 rfl (fun g1 => ?_) (fun g1 => ?_)))
      · exact absurd g1 (nI_ge (b := 14) (by omega) (by decide))
      · refine j_aload_n 1 dX0_init_31 rfl (j_getR (b := 16) dX0_init_32 fX0_11 rfl (by first | assumption | rfl) (by first | assumption | rfl) (j_iload_n 0 dX0_init_35 rfl ?_))
        refine j_new2 (n := 17 + 7 * i) (ci := 2) n2 dX0_init_36 (nwd2 clX0_9) (by decide) z2.2.1 (rfi (rfr (by omega) (rfi (rfr (by omega) rfn)))) (by omega) ⟨by show _ ≤ 99; omega, by show _ + 15 ≤ 742; omega⟩ (fun Z3 z3 n3 k3 => ?_)
        refine j_dup dX0_init_39 rfl ?_
        refine j_I (a := 17 + 7 * i) (d := 4) (mc := 6) (ms := 37) (as := []) (st := [.ref (17 + 7 * i), .int (nI i), .ref 16]) dX0_init_40 kX0_24 rfl rfl (Or.inr (rf_of (rfr (by omega) (rfi (rfr (by omega) (rfi (rfr (by omega) rfn))))))) (Nat.le_of_ble_eq_true rfl) (Nat.le_of_ble_eq_true rfl) ⟨by show _ + 6 ≤ 99; omega, by show _ + 15 + 37 ≤ 742; omega⟩ (Nat.le_of_ble_eq_true rfl) (c_rInit (r := 17 + 7 * i) (by omega) z3.2.1 n3 k3 (fun Z4 I4 L4 z4 n4 r4 e4 _ l4 => ?_))
        have z24 := z3.tr z4
        refine j_aast2 (a := 16) (b := 17 + 7 * i) i dX0_init_43 z4.2.1 rfl rfl (z24.k q16 (by omega)) (by rw [z24.l l16 (by omega)]; omega) r4.1 (fun Z5 z5 n5 s5 => ?_)
        refine j_iinc (y := 1) (lv' := [(1, _), (0, _)]) 0 dX0_init_44 rfl rfl rfl (j_goto (tgt := 25) dX0_init_47 rfl ?_)
        rw [nI_1, show 1 + 7 * i + 1 + 6 = 1 + 7 * (i + 1) by omega, show 14 + 52 * i + nf 2 + 37 = 14 + 52 * (i + 1) from show 14 + 52 * i + 15 + 37 = _ by omega]
        refine ih (i + 1) Z5 I4 L4 (by omega) ((z2.tr z24).tr z5) (by omega) (fun q hq => ?_) (fun q hq => ?_) (fun a h => ?_) ?_ ?_ (fun a h => ?_)
        · rcases Nat.lt_or_ge q i with z | z
          · exact z5.s (z24.s (hs q z) (by omega)) (by omega)
          · have : q = i := by omega
            subst this
            exact s5
        · rcases Nat.lt_or_ge q i with z | z
          · exact (((hr q z).zm z24 (by omega))).zm z5 (by omega)
          · have : q = i := by omega
            subst this
            exact r4.zm z5 (by omega)
        · rw [e4 a (by omega), upR_n (by omega)]
          exact e a h
        · rw [e4 15 (by omega), upR_n (by omega)]
          exact v1
        · rw [e4 15 (by omega), upR_n (by omega)]
          exact v2
        · rw [l4 a (by omega), upL_n (by omega)]
          exact hl a h
  refine j_aload_n 0 dX0_init_13 rfl (j_iconst (v := 0) dX0_init_14 rfl (j_putI dX0_init_15 fX0_17 (by first | assumption | rfl) (j_aload_n 0 dX0_init_18 rfl (j_iconst (v := 0) dX0_init_19 rfl (j_putI dX0_init_20 fX0_21 (by first | assumption | rfl) (j_iconst (v := 0) dX0_init_23 rfl (j_istore_n (lv' := [(1, _), (0, _)]) dX0_init_24 rfl ?_)))))))
  refine JW.locals [0, 1] rfl (loop 14 0 Z1 _ _ rfl (ZM.rfl' z1.2.1) n1 (fun q hq => absurd hq (Nat.not_lt_zero _)) (fun q hq => absurd hq (Nat.not_lt_zero _)) (fun a h => ?_) ?_ ?_ (fun a h => ?_))
  · rw [upI_n (by omega), upI_n (by omega), upR_n (by omega)]
  · rw [upI_s, upd_n (by decide), upI_s, upd_s]
  · rw [upI_s, upd_s]
  · rw [upL_n (by omega)]
