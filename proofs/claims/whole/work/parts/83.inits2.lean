def c0T : CT := mkC 1 (fun k => k) 0 1
def A0T : Nat × Nat × (Nat → RT) := (0, 0, fun _ => fr0)
def K0T : (Nat → RT) × (Nat → Bool) := (fun _ => fr0, fun _ => false)
def E0T : (Nat → Int32) × (Nat → Nat) × (Nat → Nat) × Nat := (fun _ => 0, fun _ => 0, fun _ => 0, 0)
theorem okC0 : okC c0T := ⟨by decide, by decide, by decide, id_lt, fun r _ => suB_lt (by decide)⟩
theorem OKs0 : OKs c0T 0 fr0 A0T K0T E0T := ⟨okC0, by decide, OKz.fr okC0, fun j hj => absurd hj (Nat.not_lt_zero _), fun i _ h => absurd h Bool.false_ne_true, Nat.zero_le _, fun i _ => ⟨Nat.zero_le _, Nat.zero_le _⟩⟩
def HZ (lo : Nat) (I : IT) (n : Nat) (I' : IT) : Prop := (∀ a, a < lo → I' a = I a) ∧ (∀ a, lo ≤ a → a < n → I' a = fun _ => 0)
theorem HZ.up {lo n : Nat} {I I' : IT} (h : HZ lo I n I') (hl : lo ≤ n) : HZ lo I (n + 1) (upR I' n (fun _ => 0)) := by
  refine ⟨fun a ha => by rw [upR_n (by omega)]; exact h.1 a ha, fun a h1 h2 => ?_⟩
  by_cases e : a = n
  · rw [e, upR_s]
  · rw [upR_n e]
    exact h.2 a h1 (by omega)
theorem HZ.st (lo : Nat) (I : IT) : HZ lo I lo I := ⟨fun _ _ => rfl, fun a h1 h2 => by omega⟩
theorem c_xInit {g : GT} {Z : ZT} {I : IT} {L : LT} {Post : PT} (hkk : okK Z) (hn : zN Z = 1) (hK : zK Z 0 = 5) (hp : ∀ Z' I' L', ZM Z Z' → zN Z' = 198 → isX Z' → CSt (fun _ => 0) 0 c0T 0 fr0 A0T K0T E0T 0 I' L' → Post none Z' I' L') : CM g 6 197 1833 mX5_init [.ref 0] Z I L Post := by
  refine CM_intro ?_
  refine j_aload_n 0 dX5_init_0 rfl (j_oinit dX5_init_1 oiX5 ?_)
  refine j_aload_n 0 dX5_init_4 rfl ?_
  refine j_new2 (n := 1) (ci := 4) hn dX5_init_5 (nwd4 clX5_7) (by decide) hkk (rfr (by omega) (rfr (by omega) rfn)) (by decide) ⟨Nat.le_of_ble_eq_true rfl, Nat.le_of_ble_eq_true rfl⟩ (fun Z1 z1 n1 p1 => ?_)
  have k1 := z1.k hK (by omega)
  refine j_dup dX5_init_8 rfl ?_
  refine j_X (a := 1) (d := 1) (mc := 1) (ms := 40) (as := []) (st := [.ref 1, .ref 0]) (Or.inl ⟨rfl, rfl, rfl⟩) dX5_init_9 kX5_9 rfl rfl (Or.inr (rf_of (rfr (by omega) (rfr (by omega) (rfr (by omega) rfn))))) (Nat.le_of_ble_eq_true rfl) (Nat.le_of_ble_eq_true rfl) ⟨Nat.le_of_ble_eq_true rfl, Nat.le_of_ble_eq_true rfl⟩ (Nat.le_of_ble_eq_true rfl) (c_tInit z1.2.1 n1 p1 (fun Z2 I2 L2 z2 n2 hT e2 v21 v22 l2 => ?_))
  have k2 := z2.k k1 (by omega)
  refine j_put2 (a := 0) (b := 1) (ci := 5) (f := 0) dX5_init_12 fX5_10 rfl rfl z2.2.1 rfl k2 (by omega) (fun Z3 z3 n3 s0 => ?_)
  have k3 := z3.k k2 (by omega)
  have z03 := (z1.tr z2).tr z3
  have hT3 := hT.zm z3 (by omega)
  refine j_aload_n 0 dX5_init_15 rfl ?_
  refine j_new2 (n := 3) (ci := 1) (by omega) dX5_init_16 (nwd1 clX5_16) (by decide) z3.2.1 (rfr (by omega) (rfr (by omega) rfn)) (by decide) ⟨Nat.le_of_ble_eq_true rfl, Nat.le_of_ble_eq_true rfl⟩ (fun Z4 z4 n4 p4 => ?_)
  refine j_dup dX5_init_19 rfl ?_
  refine j_I (a := 3) (d := 4) (mc := 4) (ms := 388) (as := []) (st := [.ref 3, .ref 0]) dX5_init_20 kX5_18 rfl rfl (Or.inr (rf_of (rfr (by omega) (rfr (by omega) (rfr (by omega) rfn))))) (Nat.le_of_ble_eq_true rfl) (Nat.le_of_ble_eq_true rfl) ⟨Nat.le_of_ble_eq_true rfl, Nat.le_of_ble_eq_true rfl⟩ (Nat.le_of_ble_eq_true rfl) (c_cInit z4.2.1 n4 p4 (fun Z5 I5 L5 z5 n5 hC e5 c5 l5 => ?_))
  have z35 := z4.tr z5
  have k5 := z35.k k3 (by omega)
  refine j_put2 (a := 0) (b := 3) (ci := 5) (f := 1) dX5_init_23 fX5_19 rfl rfl z5.2.1 rfl k5 (by omega) (fun Z6 z6 n6 s1 => ?_)
  have z36 := z35.tr z6
  have k6 := z6.k k5 (by omega)
  refine j_aload_n 0 dX5_init_26 rfl ?_
  refine j_new2 (n := 8) (ci := 2) (by omega) dX5_init_27 (nwd2 clX5_23) (by decide) z6.2.1 (rfr (by omega) (rfr (by omega) rfn)) (by decide) ⟨Nat.le_of_ble_eq_true rfl, Nat.le_of_ble_eq_true rfl⟩ (fun Z7 z7 n7 p7 => ?_)
  refine j_dup dX5_init_30 rfl ?_
  refine j_I (a := 8) (d := 4) (mc := 6) (ms := 37) (as := []) (st := [.ref 8, .ref 0]) dX5_init_31 kX5_25 rfl rfl (Or.inr (rf_of (rfr (by omega) (rfr (by omega) (rfr (by omega) rfn))))) (Nat.le_of_ble_eq_true rfl) (Nat.le_of_ble_eq_true rfl) ⟨Nat.le_of_ble_eq_true rfl, Nat.le_of_ble_eq_true rfl⟩ (Nat.le_of_ble_eq_true rfl) (c_rInit (r := 8) (by decide) z7.2.1 n7 p7 (fun Z8 I8 L8 z8 n8 hR e8 r8 l8 => ?_))
  have z68 := z7.tr z8
  have k8 := z68.k k6 (by omega)
  refine j_put2 (a := 0) (b := 8) (ci := 5) (f := 2) dX5_init_34 fX5_26 rfl rfl z8.2.1 rfl k8 (by omega) (fun Z9 z9 n9 s2 => ?_)
  have z69 := z68.tr z9
  have k9 := z9.k k8 (by omega)
  refine j_aload_n 0 dX5_init_37 rfl ?_
  refine j_new2 (n := 15) (ci := 0) (by omega) dX5_init_38 (nwd0 clX5_30) (by decide) z9.2.1 (rfr (by omega) (rfr (by omega) rfn)) (by decide) ⟨Nat.le_of_ble_eq_true rfl, Nat.le_of_ble_eq_true rfl⟩ (fun Z10 z10 n10 p10 => ?_)
  refine j_dup dX5_init_41 rfl ?_
  refine j_I (a := 15) (d := 5) (mc := 99) (ms := 742) (as := []) (st := [.ref 15, .ref 0]) dX5_init_42 kX5_32 rfl rfl (Or.inr (rf_of (rfr (by omega) (rfr (by omega) (rfr (by omega) rfn))))) (Nat.le_of_ble_eq_true rfl) (Nat.le_of_ble_eq_true rfl) ⟨Nat.le_of_ble_eq_true rfl, Nat.le_of_ble_eq_true rfl⟩ (Nat.le_of_ble_eq_true rfl) (c_aInit z10.2.1 n10 p10 (fun Z11 I11 L11 z11 n11 hA e11 v1 v2 l11 => ?_))
  have z911 := z10.tr z11
  have k11 := z911.k k9 (by omega)
  refine j_put2 (a := 0) (b := 15) (ci := 5) (f := 3) dX5_init_45 fX5_33 rfl rfl z11.2.1 rfl k11 (by omega) (fun Z12 z12 n12 s3 => ?_)
  have z912 := z911.tr z12
  have k12 := z12.k k11 (by omega)
  have hz12 : HZ 115 I11 115 I11 := HZ.st 115 I11
  have sl12 := z912.s (z69.s (z36.s s0 (by omega)) (by omega)) (by omega)
  refine j_aload_n 0 dX5_init_48 rfl (j_iconst (v := 2) dX5_init_49 rfl ?_)
  refine j_rowQ (n := 115) (ci := 5) (f := 4) (len := 2) (by omega) dX5_init_50 clX5_23 dX5_init_53 fX5_37 rfl rfl rfl (by decide) rfl k12 z12.2.1 (rfr (by omega) (rfr (by omega) rfn)) (by decide) ⟨Nat.le_of_ble_eq_true rfl, Nat.le_of_ble_eq_true rfl⟩ (fun Z13 z13 n13 a13 b13 c13 => ?_) (by decide)
  have k13 := z13.k k12 (by omega)
  have hz13 := hz12.up (by decide)
  refine j_aload_n 0 dX5_init_56 rfl (j_iconst (v := 2) dX5_init_57 rfl ?_)
  refine j_rowZ (n := 116) (ci := 5) (f := 5) (len := 2) (by omega) dX5_init_58 dX5_init_60 fX5_41 rfl rfl rfl (by decide) rfl k13 z13.2.1 (rfr (by omega) (rfr (by omega) rfn)) (by decide) ⟨Nat.le_of_ble_eq_true rfl, Nat.le_of_ble_eq_true rfl⟩ (fun Z14 z14 n14 a14 b14 c14 => ?_) (by decide)
  have k14 := z14.k k13 (by omega)
  have hz14 := hz13.up (by decide)
  refine j_aload_n 0 dX5_init_63 rfl (j_bipush (v := 9) dX5_init_64 rfl ?_)
  refine j_rowQ (n := 117) (ci := 5) (f := 6) (len := 9) (by omega) dX5_init_66 clX5_23 dX5_init_69 fX5_45 rfl rfl rfl (by decide) rfl k14 z14.2.1 (rfr (by omega) (rfr (by omega) rfn)) (by decide) ⟨Nat.le_of_ble_eq_true rfl, Nat.le_of_ble_eq_true rfl⟩ (fun Z15 z15 n15 a15 b15 c15 => ?_) (by decide)
  have k15 := z15.k k14 (by omega)
  have hz15 := hz14.up (by decide)
  refine j_aload_n 0 dX5_init_72 rfl (j_iconst (v := 4) dX5_init_73 rfl ?_)
  refine j_rowI (n := 118) (ci := 5) (f := 7) (len := 4) (by omega) dX5_init_74 dX5_init_76 fX5_48 rfl rfl rfl (by decide) rfl k15 z15.2.1 (rfr (by omega) (rfr (by omega) rfn)) (by decide) ⟨Nat.le_of_ble_eq_true rfl, Nat.le_of_ble_eq_true rfl⟩ (fun Z16 z16 n16 a16 b16 c16 => ?_) (by decide)
  have k16 := z16.k k15 (by omega)
  have hz16 := hz15.up (by decide)
  refine j_aload_n 0 dX5_init_79 rfl (j_iconst (v := 4) dX5_init_80 rfl ?_)
  refine j_rowI (n := 119) (ci := 5) (f := 8) (len := 4) (by omega) dX5_init_81 dX5_init_83 fX5_52 rfl rfl rfl (by decide) rfl k16 z16.2.1 (rfr (by omega) (rfr (by omega) rfn)) (by decide) ⟨Nat.le_of_ble_eq_true rfl, Nat.le_of_ble_eq_true rfl⟩ (fun Z17 z17 n17 a17 b17 c17 => ?_) (by decide)
  have k17 := z17.k k16 (by omega)
  have hz17 := hz16.up (by decide)
  refine j_aload_n 0 dX5_init_86 rfl (j_iconst (v := 4) dX5_init_87 rfl ?_)
  refine j_rowI (n := 120) (ci := 5) (f := 9) (len := 4) (by omega) dX5_init_88 dX5_init_90 fX5_55 rfl rfl rfl (by decide) rfl k17 z17.2.1 (rfr (by omega) (rfr (by omega) rfn)) (by decide) ⟨Nat.le_of_ble_eq_true rfl, Nat.le_of_ble_eq_true rfl⟩ (fun Z18 z18 n18 a18 b18 c18 => ?_) (by decide)
  have k18 := z18.k k17 (by omega)
  have hz18 := hz17.up (by decide)
  have z17 := z17.tr z18
  have z16 := z16.tr z17
  have z15 := z15.tr z16
  have z14 := z14.tr z15
  have z1318 := z13.tr z14
  have zb : ZM Z Z18 := ((z03.tr z36).tr (z69.tr z912)).tr z1318
  have y0 : zS Z18 0 0 = true := z1318.s sl12 (by omega)
  have y1 : zS Z18 0 1 = true := z1318.s (z912.s (z69.s s1 (by omega)) (by omega)) (by omega)
  have y2 : zS Z18 0 2 = true := z1318.s (z912.s s2 (by omega)) (by omega)
  have y3 : zS Z18 0 3 = true := z1318.s s3 (by omega)
  have y4 : zS Z18 0 4 = true := z14.s c13 (by omega)
  have y5 : zS Z18 0 5 = true := z15.s c14 (by omega)
  have y6 : zS Z18 0 6 = true := z16.s c15 (by omega)
  have y7 : zS Z18 0 7 = true := z17.s c16 (by omega)
  have y8 : zS Z18 0 8 = true := z18.s c17 (by omega)
  have xT : isTx Z18 := (((hT3.zm z36 (by omega)).zm z69 (by omega)).zm z912 (by omega)).zm z1318 (by omega)
  have xC : isCo Z18 := (((hC.zm z6 (by omega)).zm z69 (by omega)).zm z912 (by omega)).zm z1318 (by omega)
  have xN : isR Z18 8 := ((hR.zm z9 (by omega)).zm z912 (by omega)).zm z1318 (by omega)
  have xA : isA Z18 := (hA.zm z12 (by omega)).zm z1318 (by omega)
  have q115 : zK Z18 115 = 9 := z14.k a13 (by omega)
  have l115 : zL Z18 115 = 2 := z14.l b13 (by omega)
  have q116 : zK Z18 116 = 8 := z15.k a14 (by omega)
  have l116 : zL Z18 116 = 2 := z15.l b14 (by omega)
  have q117 : zK Z18 117 = 9 := z16.k a15 (by omega)
  have l117 : zL Z18 117 = 9 := z16.l b15 (by omega)
  have q118 : zK Z18 118 = 7 := z17.k a16 (by omega)
  have l118 : zL Z18 118 = 4 := z17.l b16 (by omega)
  have q119 : zK Z18 119 = 7 := z18.k a17 (by omega)
  have l119 : zL Z18 119 = 4 := z18.l b17 (by omega)
  generalize hIR : upR (upR (upR (upR (upR (upR I11 115 (fun _ => 0)) 116 (fun _ => 0)) 117 (fun _ => 0)) 118 (fun _ => 0)) 119 (fun _ => 0)) 120 (fun _ => 0) = IR at hz18 ⊢
  have fC : ∀ a, a < 8 → IR a = I5 a ∨ a = 0 := fun a ha => by
    rw [hz18.1 a (by omega), e11 a (by omega), upR_n (by omega), e8 a (by omega), upR_n (by omega)]
    exact Or.inl rfl
  have fC : ∀ a, a < 8 → IR a = I5 a := fun a ha => by
    rw [hz18.1 a (by omega), e11 a (by omega), upR_n (by omega), e8 a (by omega), upR_n (by omega)]
  have fT : ∀ a, 1 ≤ a → a < 3 → IR a = I2 a := fun a h1 h2 => by
    rw [fC a (by omega), e5 a (by omega), upR_n (by omega)]
  have fR : ∀ a, 8 ≤ a → a < 15 → IR a = I8 a := fun a h1 h2 => by
    rw [hz18.1 a (by omega), e11 a (by omega), upR_n (by omega)]
  have hst : ∀ I' L', (∀ a, a < 121 → I' a = upI IR 0 10 0 a) → L' 0 = 0 → CSt (fun _ => 0) 0 c0T 0 fr0 A0T K0T E0T 0 I' L' := by
    intro I' L' e hl
    have e' : ∀ a, 1 ≤ a → a < 121 → I' a = IR a := fun a h1 h2 => by rw [e a h2, upI_n (by omega)]
    refine ⟨⟨by decide, by rw [e' 1 (by decide) (by decide), fT 1 (by decide) (by decide)]; exact v21, fun i _ => by rw [e' 2 (by decide) (by decide), fT 2 (by decide) (by decide), v22]; rfl, fun i _ => Nat.zero_le _⟩, c5.fr (fun a h1 h2 => by rw [e' a (by omega) (by omega), fC a (by omega)]), rec_fr r8 (fun j hj => by rw [e' (8 + j) (by omega) (by omega), fR (8 + j) (by omega) (by omega)]), ⟨by decide, by decide, ?_, ?_, fun j hj => absurd hj (Nat.not_lt_zero _)⟩, fun i hi => ⟨?_, fun h => absurd h Bool.false_ne_true⟩, ⟨?_, fun i hi => ⟨?_, ?_, ?_⟩⟩, hl⟩
    · rw [e' 15 (by decide) (by decide), hz18.1 15 (by decide)]; exact v1
    · rw [e' 15 (by decide) (by decide), hz18.1 15 (by decide)]; exact v2
    · rw [e' 116 (by decide) (by decide), hz18.2 116 (by decide) (by decide)]; rfl
    · rw [e 0 (by decide), upI_s, upd_s]; rfl
    · rw [e' 118 (by decide) (by decide), hz18.2 118 (by decide) (by decide)]; rfl
    · rw [e' 119 (by decide) (by decide), hz18.2 119 (by decide) (by decide)]; rfl
    · rw [e' 120 (by decide) (by decide), hz18.2 120 (by decide) (by decide)]; rfl
  have loopT : ∀ Zc, ZM Z18 Zc → zN Zc = 135 → (∀ q, q < 2 → zS Zc 115 q = true) → (∀ q, q < 2 → isR Zc (121 + 7 * q)) → ∀ (m i : Nat) (Z2 : ZT) (I2 : IT) (L2 : LT), i + m = 9 → ZM Zc Z2 → zN Z2 = 135 + 7 * i → (∀ q, q < i → zS Z2 117 q = true) → (∀ q, q < i → isR Z2 (135 + 7 * q)) → (∀ a, a < 121 → I2 a = upI IR 0 10 0 a) → L2 0 = 0 → JW g mX5_init (rmO 6 197 1833) (QM Post 197 1833) 131 [(1, .int (nI i)), (0, .ref 0)] [] (134 + 7 * i) (1365 + 52 * i) Z2 I2 L2 := by
    intro Zc zc nc sc rc m
    have zd := fun Z2 (z2 : ZM Zc Z2) => zc.tr z2
    induction m with
    | zero =>
      intro i Z2 I2 L2 hi z2 n2 hs hr e hl
      have : i = 9 := by omega
      subst this
      have zz := zc.tr z2
      have q0 := zz.k k18 (by omega)
      have w6 := zz.s y6 (by omega)
      have q7 := zz.k q117 (by omega)
      have l7 := zz.l l117 (by omega)
      refine j_iload_n 0 dX5_init_131 rfl (j_aload_n 1 dX5_init_132 rfl (j_getR (b := 117) dX5_init_133 fX5_45 rfl (by first | assumption | rfl) (by first | assumption | rfl) (j_alen (v := (nI 9)) dX5_init_136 (by first | exact Or.inl (by first | assumption | rfl) | exact Or.inr (by first | assumption | rfl)) (congrArg nI l7) (j_icmp_ge (tgt := 159) dX5_init_137 rfl (fun g1 => ?_) (fun g1 => ?_)))))
      · refine j_vret dX5_init_159 ?_
        exact hp Z2 I2 L2 (zb.tr zz) n2 ⟨q0, zz.s y0 (by omega), zz.s y1 (by omega), zz.s y2 (by omega), zz.s y3 (by omega), zz.s y4 (by omega), zz.s y5 (by omega), w6, zz.s y7 (by omega), zz.s y8 (by omega), zz.s c18 (by omega), xT.zm zz (by omega), xC.zm zz (by omega), xN.zm zz (by omega), xA.zm zz (by omega), zz.k q115 (by omega), zz.l l115 (by omega), fun q hq => z2.s (sc q hq) (by omega), fun q hq => (rc q hq).zm z2 (by omega), zz.k q116 (by omega), zz.l l116 (by omega), q7, l7, hs, hr, zz.k q118 (by omega), zz.l l118 (by omega), zz.k q119 (by omega), zz.l l119 (by omega), zz.k a18 (by omega), zz.l b18 (by omega)⟩ (hst I2 L2 e hl)
      · exact absurd (by decide) g1
    | succ m ih =>
      intro i Z2 I2 L2 hi z2 n2 hs hr e hl
      have zz := zc.tr z2
      have q0 := zz.k k18 (by omega)
      have w6 := zz.s y6 (by omega)
      have q7 := zz.k q117 (by omega)
      have l7 := zz.l l117 (by omega)
      refine j_iload_n 0 dX5_init_131 rfl (j_aload_n 1 dX5_init_132 rfl (j_getR (b := 117) dX5_init_133 fX5_45 rfl (by first | assumption | rfl) (by first | assumption | rfl) (j_alen (v := (nI 9)) dX5_init_136 (by first | exact Or.inl (by first | assumption | rfl) | exact Or.inr (by first | assumption | rfl)) (congrArg nI l7) (j_icmp_ge (tgt := 159) dX5_init_137 rfl (fun g1 => ?_) (fun g1 => ?_)))))
      · exact absurd g1 (nI_ge (by omega) (by decide))
      · refine j_aload_n 1 dX5_init_140 rfl (j_getR (b := 117) dX5_init_141 fX5_45 rfl (by first | assumption | rfl) (by first | assumption | rfl) (j_iload_n 0 dX5_init_144 rfl ?_))
        refine j_new2 (n := 135 + 7 * i) (ci := 2) n2 dX5_init_145 (nwd2 clX5_23) (by decide) z2.2.1 (rfi (rfr (by omega) (rfi (rfr (by omega) rfn)))) (by omega) ⟨by show _ ≤ 197; omega, by show _ + 15 ≤ 1833; omega⟩ (fun Z3 z3 n3 k3 => ?_)
        refine j_dup dX5_init_148 rfl ?_
        refine j_I (a := 135 + 7 * i) (d := 4) (mc := 6) (ms := 37) (as := []) (st := [.ref (135 + 7 * i), .int (nI i), .ref 117]) dX5_init_149 kX5_25 rfl rfl (Or.inr (rf_of (rfr (by omega) (rfi (rfr (by omega) (rfi (rfr (by omega) rfn))))))) (Nat.le_of_ble_eq_true rfl) (Nat.le_of_ble_eq_true rfl) ⟨by show _ + 6 ≤ 197; omega, by show _ + 15 + 37 ≤ 1833; omega⟩ (Nat.le_of_ble_eq_true rfl) (c_rInit (r := 135 + 7 * i) (by omega) z3.2.1 n3 k3 (fun Z4 I4 L4 z4 n4 r4 e4 _ l4 => ?_))
        have z24 := z3.tr z4
        refine j_aast2 (a := 117) (b := 135 + 7 * i) i dX5_init_152 z4.2.1 rfl rfl (z24.k q7 (by omega)) (by rw [z24.l l7 (by omega)]; omega) r4.1 (fun Z5 z5 n5 s5 => ?_)
        refine j_iinc (y := 1) (lv' := [(1, _), (0, _)]) 0 dX5_init_153 rfl rfl rfl (j_goto (tgt := 131) dX5_init_156 rfl ?_)
        rw [nI_1, show 134 + 7 * i + 1 + 6 = 134 + 7 * (i + 1) by omega, show 1365 + 52 * i + nf 2 + 37 = 1365 + 52 * (i + 1) from show 1365 + 52 * i + 15 + 37 = _ by omega]
        refine ih (i + 1) Z5 I4 L4 (by omega) ((z2.tr z24).tr z5) (by omega) (fun q hq => ?_) (fun q hq => ?_) (fun a h => ?_) ?_
        · rcases Nat.lt_or_ge q i with z | z
          · exact z5.s (z24.s (hs q z) (by omega)) (by omega)
          · have : q = i := by omega
            subst this
            exact s5
        · rcases Nat.lt_or_ge q i with z | z
          · exact (((hr q z).zm z24 (by omega))).zm z5 (by omega)
          · have : q = i := by omega
            subst this
            exact r4.zm z5 (by omega)
        · rw [e4 a (by omega), upR_n (by omega)]
          exact e a h
        · rw [l4 0 (by omega), upL_n (by omega)]
          exact hl
  have loopS : ∀ (m i : Nat) (Z2 : ZT) (I2 : IT) (L2 : LT), i + m = 2 → ZM Z18 Z2 → zN Z2 = 121 + 7 * i → (∀ q, q < i → zS Z2 115 q = true) → (∀ q, q < i → isR Z2 (121 + 7 * q)) → (∀ a, a < 121 → I2 a = upI IR 0 10 0 a) → L2 0 = 0 → JW g mX5_init (rmO 6 197 1833) (QM Post 197 1833) 105 [(1, .int (nI i)), (0, .ref 0)] [] (120 + 7 * i) (1261 + 52 * i) Z2 I2 L2 := by
    intro m
    induction m with
    | zero =>
      intro i Z2 I2 L2 hi z2 n2 hs hr e hl
      have : i = 2 := by omega
      subst this
      refine j_iload_n 0 dX5_init_105 rfl (j_iconst (v := 2) dX5_init_106 rfl (j_icmp_ge (tgt := 129) dX5_init_107 rfl (fun g1 => ?_) (fun g1 => ?_)))
      · refine j_iconst (v := 0) dX5_init_129 rfl (j_istore_n (lv' := [(1, _), (0, _)]) dX5_init_130 rfl ?_)
        exact JW.locals [0, 1] rfl (loopT Z2 z2 n2 hs hr 9 0 Z2 I2 L2 rfl (ZM.rfl' z2.2.1) n2 (fun q hq => absurd hq (Nat.not_lt_zero _)) (fun q hq => absurd hq (Nat.not_lt_zero _)) e hl)
      · exact absurd (by decide) g1
    | succ m ih =>
      intro i Z2 I2 L2 hi z2 n2 hs hr e hl
      have q0 := z2.k k18 (by omega)
      have w4 := z2.s y4 (by omega)
      have q7 := z2.k q115 (by omega)
      have l7 := z2.l l115 (by omega)
      refine j_iload_n 0 dX5_init_105 rfl (j_iconst (v := 2) dX5_init_106 rfl (j_icmp_ge (tgt := 129) dX5_init_107 rfl (fun g1 => ?_) (fun g1 => ?_)))
      · exact absurd g1 (nI_ge (b := 2) (by omega) (by decide))
      · refine j_aload_n 1 dX5_init_110 rfl (j_getR (b := 115) dX5_init_111 fX5_37 rfl (by first | assumption | rfl) (by first | assumption | rfl) (j_iload_n 0 dX5_init_114 rfl ?_))
        refine j_new2 (n := 121 + 7 * i) (ci := 2) n2 dX5_init_115 (nwd2 clX5_23) (by decide) z2.2.1 (rfi (rfr (by omega) (rfi (rfr (by omega) rfn)))) (by omega) ⟨by show _ ≤ 197; omega, by show _ + 15 ≤ 1833; omega⟩ (fun Z3 z3 n3 k3 => ?_)
        refine j_dup dX5_init_118 rfl ?_
        refine j_I (a := 121 + 7 * i) (d := 4) (mc := 6) (ms := 37) (as := []) (st := [.ref (121 + 7 * i), .int (nI i), .ref 115]) dX5_init_119 kX5_25 rfl rfl (Or.inr (rf_of (rfr (by omega) (rfi (rfr (by omega) (rfi (rfr (by omega) rfn))))))) (Nat.le_of_ble_eq_true rfl) (Nat.le_of_ble_eq_true rfl) ⟨by show _ + 6 ≤ 197; omega, by show _ + 15 + 37 ≤ 1833; omega⟩ (Nat.le_of_ble_eq_true rfl) (c_rInit (r := 121 + 7 * i) (by omega) z3.2.1 n3 k3 (fun Z4 I4 L4 z4 n4 r4 e4 _ l4 => ?_))
        have z24 := z3.tr z4
        refine j_aast2 (a := 115) (b := 121 + 7 * i) i dX5_init_122 z4.2.1 rfl rfl (z24.k q7 (by omega)) (by rw [z24.l l7 (by omega)]; omega) r4.1 (fun Z5 z5 n5 s5 => ?_)
        refine j_iinc (y := 1) (lv' := [(1, _), (0, _)]) 0 dX5_init_123 rfl rfl rfl (j_goto (tgt := 105) dX5_init_126 rfl ?_)
        rw [nI_1, show 120 + 7 * i + 1 + 6 = 120 + 7 * (i + 1) by omega, show 1261 + 52 * i + nf 2 + 37 = 1261 + 52 * (i + 1) from show 1261 + 52 * i + 15 + 37 = _ by omega]
        refine ih (i + 1) Z5 I4 L4 (by omega) ((z2.tr z24).tr z5) (by omega) (fun q hq => ?_) (fun q hq => ?_) (fun a h => ?_) ?_
        · rcases Nat.lt_or_ge q i with z | z
          · exact z5.s (z24.s (hs q z) (by omega)) (by omega)
          · have : q = i := by omega
            subst this
            exact s5
        · rcases Nat.lt_or_ge q i with z | z
          · exact (((hr q z).zm z24 (by omega))).zm z5 (by omega)
          · have : q = i := by omega
            subst this
            exact r4.zm z5 (by omega)
        · rw [e4 a (by omega), upR_n (by omega)]
          exact e a h
        · rw [l4 0 (by omega), upL_n (by omega)]
          exact hl
  refine j_aload_n 0 dX5_init_93 rfl (j_iconst (v := 0) dX5_init_94 rfl (j_putI dX5_init_95 fX5_58 (by first | assumption | rfl) (j_aload_n 0 dX5_init_98 rfl (j_lconst (v := 0) dX5_init_99 rfl (j_putJ dX5_init_100 fX5_62 (by first | assumption | rfl) (j_iconst (v := 0) dX5_init_103 rfl (j_istore_n (lv' := [(1, _), (0, _)]) dX5_init_104 rfl ?_)))))))
  exact JW.locals [0, 1] rfl (loopS 2 0 Z18 _ _ rfl (ZM.rfl' z18.2.1) n18 (fun q hq => absurd hq (Nat.not_lt_zero _)) (fun q hq => absurd hq (Nat.not_lt_zero _)) (fun a h => rfl) (upL_s _ _ _))
theorem c_mInit {g : GT} {Z : ZT} {I : IT} {L : LT} {Post : PT} (hkk : okK Z) (hn : zN Z = 199) (hK : zK Z 198 = 6) (hI : I 198 = fun _ => 0) (hL0 : L 198 = 0) (hp : ∀ Z' I' L', ZM Z Z' → isM Z' → (∀ a, a < 198 → I' a = I a) → (∀ a, a < 198 → L' a = L a) → MSt (fun _ => 0) 0 c0T 0 fr0 A0T K0T E0T 0 I' L' → Post none Z' I' L') : CM g 3 14 1052 mX6_init [.ref 198] Z I L Post := by
  refine CM_intro ?_
  refine j_aload_n 0 dX6_init_0 rfl (j_oinit dX6_init_1 oiX6 ?_)
  have hz0 : HZ 199 I 199 I := HZ.st 199 I
  have hl0 : ∀ a, a ≤ 198 → L a = L a := fun _ _ => rfl
  refine j_aload_n 0 dX6_init_4 rfl (j_bipush (v := 40) dX6_init_5 rfl ?_)
  refine j_rowI (n := 199) (ci := 6) (f := 0) (len := 40) (by omega) dX6_init_7 dX6_init_9 fX6_7 rfl rfl rfl (by decide) rfl hK hkk (rfr (by omega) (rfr (by omega) rfn)) (by decide) ⟨Nat.le_of_ble_eq_true rfl, Nat.le_of_ble_eq_true rfl⟩ (fun Z1 z1 n1 a1 b1 c1 => ?_) (by decide)
  have k1 := z1.k hK (by omega)
  have hz1 := hz0.up (by decide)
  refine j_aload_n 0 dX6_init_12 rfl (j_iconst (v := 4) dX6_init_13 rfl ?_)
  refine j_rowI (n := 200) (ci := 6) (f := 3) (len := 4) (by omega) dX6_init_14 dX6_init_16 fX6_13 rfl rfl rfl (by decide) rfl k1 z1.2.1 (rfr (by omega) (rfr (by omega) rfn)) (by decide) ⟨Nat.le_of_ble_eq_true rfl, Nat.le_of_ble_eq_true rfl⟩ (fun Z2 z2 n2 a2 b2 c2 => ?_) (by decide)
  have k2 := z2.k k1 (by omega)
  have hz2 := hz1.up (by decide)
  refine j_aload_n 0 dX6_init_19 rfl (j_bipush (v := 64) dX6_init_20 rfl ?_)
  refine j_rowI (n := 201) (ci := 6) (f := 6) (len := 64) (by omega) dX6_init_22 dX6_init_24 fX6_16 rfl rfl rfl (by decide) rfl k2 z2.2.1 (rfr (by omega) (rfr (by omega) rfn)) (by decide) ⟨Nat.le_of_ble_eq_true rfl, Nat.le_of_ble_eq_true rfl⟩ (fun Z3 z3 n3 a3 b3 c3 => ?_) (by decide)
  have k3 := z3.k k2 (by omega)
  have hz3 := hz2.up (by decide)
  refine j_aload_n 0 dX6_init_27 rfl (j_bipush (v := 64) dX6_init_28 rfl ?_)
  refine j_rowI (n := 202) (ci := 6) (f := 7) (len := 64) (by omega) dX6_init_30 dX6_init_32 fX6_19 rfl rfl rfl (by decide) rfl k3 z3.2.1 (rfr (by omega) (rfr (by omega) rfn)) (by decide) ⟨Nat.le_of_ble_eq_true rfl, Nat.le_of_ble_eq_true rfl⟩ (fun Z4 z4 n4 a4 b4 c4 => ?_) (by decide)
  have k4 := z4.k k3 (by omega)
  have hz4 := hz3.up (by decide)
  refine j_aload_n 0 dX6_init_35 rfl (j_bipush (v := 47) dX6_init_36 rfl ?_)
  refine j_rowI (n := 203) (ci := 6) (f := 10) (len := 47) (by omega) dX6_init_38 dX6_init_40 fX6_22 rfl rfl rfl (by decide) rfl k4 z4.2.1 (rfr (by omega) (rfr (by omega) rfn)) (by decide) ⟨Nat.le_of_ble_eq_true rfl, Nat.le_of_ble_eq_true rfl⟩ (fun Z5 z5 n5 a5 b5 c5 => ?_) (by decide)
  have k5 := z5.k k4 (by omega)
  have hz5 := hz4.up (by decide)
  refine j_aload_n 0 dX6_init_43 rfl (j_bipush (v := 47) dX6_init_44 rfl ?_)
  refine j_rowI (n := 204) (ci := 6) (f := 11) (len := 47) (by omega) dX6_init_46 dX6_init_48 fX6_25 rfl rfl rfl (by decide) rfl k5 z5.2.1 (rfr (by omega) (rfr (by omega) rfn)) (by decide) ⟨Nat.le_of_ble_eq_true rfl, Nat.le_of_ble_eq_true rfl⟩ (fun Z6 z6 n6 a6 b6 c6 => ?_) (by decide)
  have k6 := z6.k k5 (by omega)
  have hz6 := hz5.up (by decide)
  refine j_aload_n 0 dX6_init_51 rfl (j_sipush (v := 658) dX6_init_52 rfl ?_)
  refine j_rowI (n := 205) (ci := 6) (f := 12) (len := 658) (by omega) dX6_init_55 dX6_init_57 fX6_28 rfl rfl rfl (by decide) rfl k6 z6.2.1 (rfr (by omega) (rfr (by omega) rfn)) (by decide) ⟨Nat.le_of_ble_eq_true rfl, Nat.le_of_ble_eq_true rfl⟩ (fun Z7 z7 n7 a7 b7 c7 => ?_) (by decide)
  have k7 := z7.k k6 (by omega)
  have hz7 := hz6.up (by decide)
  refine j_aload_n 0 dX6_init_60 rfl (j_bipush (v := 94) dX6_init_61 rfl ?_)
  refine j_rowI (n := 206) (ci := 6) (f := 15) (len := 94) (by omega) dX6_init_63 dX6_init_65 fX6_31 rfl rfl rfl (by decide) rfl k7 z7.2.1 (rfr (by omega) (rfr (by omega) rfn)) (by decide) ⟨Nat.le_of_ble_eq_true rfl, Nat.le_of_ble_eq_true rfl⟩ (fun Z8 z8 n8 a8 b8 c8 => ?_) (by decide)
  have k8 := z8.k k7 (by omega)
  have hz8 := hz7.up (by decide)
  refine j_aload_n 0 dX6_init_68 rfl (j_iconst (v := 2) dX6_init_69 rfl ?_)
  refine j_rowZ (n := 207) (ci := 6) (f := 16) (len := 2) (by omega) dX6_init_70 dX6_init_72 fX6_34 rfl rfl rfl (by decide) rfl k8 z8.2.1 (rfr (by omega) (rfr (by omega) rfn)) (by decide) ⟨Nat.le_of_ble_eq_true rfl, Nat.le_of_ble_eq_true rfl⟩ (fun Z9 z9 n9 a9 b9 c9 => ?_) (by decide)
  have k9 := z9.k k8 (by omega)
  have hz9 := hz8.up (by decide)
  refine j_aload_n 0 dX6_init_75 rfl (j_iconst (v := 4) dX6_init_76 rfl ?_)
  refine j_rowI (n := 208) (ci := 6) (f := 17) (len := 4) (by omega) dX6_init_77 dX6_init_79 fX6_38 rfl rfl rfl (by decide) rfl k9 z9.2.1 (rfr (by omega) (rfr (by omega) rfn)) (by decide) ⟨Nat.le_of_ble_eq_true rfl, Nat.le_of_ble_eq_true rfl⟩ (fun Z10 z10 n10 a10 b10 c10 => ?_) (by decide)
  have k10 := z10.k k9 (by omega)
  have hz10 := hz9.up (by decide)
  refine j_aload_n 0 dX6_init_82 rfl (j_iconst (v := 4) dX6_init_83 rfl ?_)
  refine j_rowI (n := 209) (ci := 6) (f := 18) (len := 4) (by omega) dX6_init_84 dX6_init_86 fX6_41 rfl rfl rfl (by decide) rfl k10 z10.2.1 (rfr (by omega) (rfr (by omega) rfn)) (by decide) ⟨Nat.le_of_ble_eq_true rfl, Nat.le_of_ble_eq_true rfl⟩ (fun Z11 z11 n11 a11 b11 c11 => ?_) (by decide)
  have k11 := z11.k k10 (by omega)
  have hz11 := hz10.up (by decide)
  refine j_aload_n 0 dX6_init_89 rfl (j_iconst (v := 4) dX6_init_90 rfl ?_)
  refine j_rowI (n := 210) (ci := 6) (f := 19) (len := 4) (by omega) dX6_init_91 dX6_init_93 fX6_44 rfl rfl rfl (by decide) rfl k11 z11.2.1 (rfr (by omega) (rfr (by omega) rfn)) (by decide) ⟨Nat.le_of_ble_eq_true rfl, Nat.le_of_ble_eq_true rfl⟩ (fun Z12 z12 n12 a12 b12 c12 => ?_) (by decide)
  have k12 := z12.k k11 (by omega)
  have hz12 := hz11.up (by decide)
  refine j_aload_n 0 dX6_init_96 rfl (j_bipush (v := 16) dX6_init_97 rfl ?_)
  refine j_rowI (n := 211) (ci := 6) (f := 22) (len := 16) (by omega) dX6_init_99 dX6_init_101 fX6_47 rfl rfl rfl (by decide) rfl k12 z12.2.1 (rfr (by omega) (rfr (by omega) rfn)) (by decide) ⟨Nat.le_of_ble_eq_true rfl, Nat.le_of_ble_eq_true rfl⟩ (fun Z13 z13 n13 a13 b13 c13 => ?_) (by decide)
  have k13 := z13.k k12 (by omega)
  have hz13 := hz12.up (by decide)
  refine j_aload_n 0 dX6_init_104 rfl (j_iconst (v := 4) dX6_init_105 rfl ?_)
  refine j_rowI (n := 212) (ci := 6) (f := 24) (len := 4) (by omega) dX6_init_106 dX6_init_108 fX6_50 rfl rfl rfl (by decide) rfl k13 z13.2.1 (rfr (by omega) (rfr (by omega) rfn)) (by decide) ⟨Nat.le_of_ble_eq_true rfl, Nat.le_of_ble_eq_true rfl⟩ (fun Z14 z14 n14 a14 b14 c14 => ?_) (by decide)
  have k14 := z14.k k13 (by omega)
  have hz14 := hz13.up (by decide)
  have w13 := z13.tr z14
  have w12 := z12.tr w13
  have w11 := z11.tr w12
  have w10 := z10.tr w11
  have w9 := z9.tr w10
  have w8 := z8.tr w9
  have w7 := z7.tr w8
  have w6 := z6.tr w7
  have w5 := z5.tr w6
  have w4 := z4.tr w5
  have w3 := z3.tr w4
  have w2 := z2.tr w3
  have w1 := z1.tr w2
  have zb : ZM Z Z14 := w1
  have hM : isM Z14 := ⟨k14, w2.s c1 (by omega), w3.s c2 (by omega), w4.s c3 (by omega), w5.s c4 (by omega), w6.s c5 (by omega), w7.s c6 (by omega), w8.s c7 (by omega), w9.s c8 (by omega), w10.s c9 (by omega), w11.s c10 (by omega), w12.s c11 (by omega), w13.s c12 (by omega), z14.s c13 (by omega), c14, w2.k a1 (by omega), w2.l b1 (by omega), w3.k a2 (by omega), w3.l b2 (by omega), w4.k a3 (by omega), w4.l b3 (by omega), w5.k a4 (by omega), w5.l b4 (by omega), w6.k a5 (by omega), w6.l b5 (by omega), w7.k a6 (by omega), w7.l b6 (by omega), w8.k a7 (by omega), w8.l b7 (by omega), w9.k a8 (by omega), w9.l b8 (by omega), w10.k a9 (by omega), w10.l b9 (by omega), w11.k a10 (by omega), w11.l b10 (by omega), w12.k a11 (by omega), w12.l b11 (by omega), w13.k a12 (by omega), w13.l b12 (by omega), z14.k a13 (by omega), z14.l b13 (by omega), a14, b14⟩
  obtain ⟨m0, f0, f3, f6, f7, f10, f11, f12, f15, f16, f17, f18, f19, f22, f24, k199, l199, k200, l200, k201, l201, k202, l202, k203, l203, k204, l204, k205, l205, k206, l206, k207, l207, k208, l208, k209, l209, k210, l210, k211, l211, k212, l212⟩ := id hM
  generalize hIR : upR (upR (upR (upR (upR (upR (upR (upR (upR (upR (upR (upR (upR (upR I 199 (fun _ => 0)) 200 (fun _ => 0)) 201 (fun _ => 0)) 202 (fun _ => 0)) 203 (fun _ => 0)) 204 (fun _ => 0)) 205 (fun _ => 0)) 206 (fun _ => 0)) 207 (fun _ => 0)) 208 (fun _ => 0)) 209 (fun _ => 0)) 210 (fun _ => 0)) 211 (fun _ => 0)) 212 (fun _ => 0) = IR at hz14 ⊢
  have hLL : ∀ a, a ≤ 198 → (upL (upL (upL (upL (upL (upL (upL (upL (upL (upL (upL (upL (upL (upL L 199 0) 200 0) 201 0) 202 0) 203 0) 204 0) 205 0) 206 0) 207 0) 208 0) 209 0) 210 0) 211 0) 212 0) a = L a := fun a ha => by
    rw [upL_n (by omega), upL_n (by omega), upL_n (by omega), upL_n (by omega), upL_n (by omega), upL_n (by omega), upL_n (by omega), upL_n (by omega), upL_n (by omega), upL_n (by omega), upL_n (by omega), upL_n (by omega), upL_n (by omega), upL_n (by omega)]
  generalize hLR : upL (upL (upL (upL (upL (upL (upL (upL (upL (upL (upL (upL (upL (upL L 199 0) 200 0) 201 0) 202 0) 203 0) 204 0) 205 0) 206 0) 207 0) 208 0) 209 0) 210 0) 211 0) 212 0 = LR at hLL ⊢
  have i198 : IR 198 = fun _ => 0 := (hz14.1 198 (by decide)).trans hI
  have loop : ∀ (m k : Nat) (I1 : IT), k + m = 4 → (∀ a, a ≠ 198 → a ≠ 200 → I1 a = IR a) → (∀ j, j ≠ 2 → j ≠ 5 → I1 198 j = 0) → I1 198 2 = nI 1 → I1 198 5 = nI 1 → (∀ q, q < k → I1 200 q = nI q) → JW g mX6_init (rmO 3 14 1052) (QM Post 14 1052) 123 [(1, .int (nI k)), (0, .ref 198)] [] 14 1052 Z14 I1 LR := by
    intro m
    induction m with
    | zero =>
      intro k I1 hk e e8 v2 v5 hq
      have : k = 4 := by omega
      subst this
      refine j_iload_n 0 dX6_init_123 rfl (j_iconst (v := 4) dX6_init_124 rfl (j_icmp_ge (tgt := 141) dX6_init_125 rfl (fun g1 => ?_) (fun g1 => ?_)))
      · refine j_aload_n 1 dX6_init_141 rfl (j_V0 dX6_init_142 kX6_60 (by first | assumption | rfl) (c_layBursts (gn := 1) (w := 0) hM (by decide) (by decide) v2 (e8 4 (by decide) (by decide)) (fun I3 e3 e38 q8 q9 qs => ?_)))
        have n3 : I3 203 = fun _ => 0 := by rw [e3 203 (by decide) (by decide) (by decide), e 203 (by decide) (by decide)]; exact hz14.2 203 (by decide) (by decide)
        refine j_aload_n 1 dX6_init_145 rfl (j_V0 dX6_init_146 kX6_63 (by first | assumption | rfl) (c_fresh m0 f10 k203 l203 (by rw [n3]; exact fun _ _ => rfl) ?_))
        refine j_vret dX6_init_149 ?_
        have pz : ∀ a, 199 ≤ a → a < 213 → a ≠ 200 → a ≠ 201 → a ≠ 202 → a ≠ 203 → upR I3 203 fr0 a = fun _ => 0 := fun a h1 h2 h3 h4 h5 h6 => by rw [upR_n h6, e3 a (by omega) h4 h5, e a (by omega) h3]; exact hz14.2 a h1 h2
        have p8 : ∀ j, j ≠ 8 → j ≠ 9 → upR I3 203 fr0 198 j = I1 198 j := fun j h1 h2 => by rw [upR_n (by decide), e38 j h1 h2]
        have hmc : MC (upR I3 203 fr0) c0T := ⟨by rw [p8 2 (by decide) (by decide)]; exact v2, by decide, fun k hk => by rw [upR_n (by decide), e3 200 (by decide) (by decide) (by decide)]; exact hq k hk, id_lt, by rw [p8 5 (by decide) (by decide)]; exact v5, by decide, by decide, fun r hr => by rw [upR_n (by decide), upR_n (by decide)]; exact qs r hr, fun r hr => suB_lt (by decide), fun i j _ _ h => h⟩
        refine hp Z14 _ LR zb hM (fun a ha => by rw [upR_n (by omega), e3 a (by omega) (by omega) (by omega), e a (by omega) (by omega)]; exact hz14.1 a (by omega)) (fun a ha => hLL a (by omega)) ⟨⟨by decide, by rw [p8 1 (by decide) (by decide), e8 1 (by decide) (by decide)]; rfl, fun i _ => by rw [pz 199 (by decide) (by decide) (by decide) (by decide) (by decide) (by decide)]; rfl, fun i _ => Nat.zero_le _⟩, ⟨hmc, by rw [p8 4 (by decide) (by decide), e8 4 (by decide) (by decide)]; rfl, by rw [upR_n (by decide)]; exact q8, by rw [upR_n (by decide)]; exact q9⟩, upR_s _ _ _, ⟨by decide, by decide, by rw [p8 14 (by decide) (by decide), e8 14 (by decide) (by decide)]; rfl, by rw [p8 13 (by decide) (by decide), e8 13 (by decide) (by decide)]; rfl, fun j hj => absurd hj (Nat.not_lt_zero _)⟩, fun i hi => ⟨by rw [pz 207 (by decide) (by decide) (by decide) (by decide) (by decide) (by decide)]; rfl, fun h => absurd h Bool.false_ne_true⟩, ⟨by rw [p8 20 (by decide) (by decide), e8 20 (by decide) (by decide)]; rfl, fun i hi => ⟨by rw [pz 208 (by decide) (by decide) (by decide) (by decide) (by decide) (by decide)]; rfl, by rw [pz 209 (by decide) (by decide) (by decide) (by decide) (by decide) (by decide)]; rfl, by rw [pz 210 (by decide) (by decide) (by decide) (by decide) (by decide) (by decide)]; rfl⟩⟩, (hLL 198 (by decide)).trans hL0, by rw [pz 204 (by decide) (by decide) (by decide) (by decide) (by decide) (by decide)]; exact fun _ _ => rfl⟩
      · exact absurd (by decide) g1
    | succ m ih =>
      intro k I1 hk e e8 v2 v5 hq
      refine j_iload_n 0 dX6_init_123 rfl (j_iconst (v := 4) dX6_init_124 rfl (j_icmp_ge (tgt := 141) dX6_init_125 rfl (fun g1 => ?_) (fun g1 => ?_)))
      · exact absurd g1 (nI_ge (b := 4) (by omega) (by decide))
      · refine j_aload_n 1 dX6_init_128 rfl (j_getR (b := 200) dX6_init_129 fX6_13 rfl (by first | assumption | rfl) (by first | assumption | rfl) (j_iload_n 0 dX6_init_132 rfl (j_iload_n 0 dX6_init_133 rfl (j_iastore k dX6_init_134 (by first | assumption | rfl) (by first | assumption | rfl) (by omega) (j_iinc (y := 1) (lv' := [(1, _), (0, _)]) 0 dX6_init_135 rfl rfl rfl (j_goto (tgt := 123) dX6_init_138 rfl ?_))))))
        rw [nI_1]
        refine ih (k + 1) _ (by omega) (fun a h1 h2 => by rw [upI_n h2]; exact e a h1 h2) (fun j h1 h2 => by rw [upI_n (by decide)]; exact e8 j h1 h2) (by rw [upI_n (by decide)]; exact v2) (by rw [upI_n (by decide)]; exact v5) (fun q hq2 => ?_)
        rw [upI_s, upd_app]
        by_cases eq : q = k
        · rw [if_pos eq, eq]
        · rw [if_neg eq]
          exact hq q (by omega)
  refine j_aload_n 0 dX6_init_111 rfl (j_iconst (v := 1) dX6_init_112 rfl (j_putI dX6_init_113 fX6_53 (by first | assumption | rfl) (j_aload_n 0 dX6_init_116 rfl (j_iconst (v := 1) dX6_init_117 rfl (j_putI dX6_init_118 fX6_57 (by first | assumption | rfl) (j_iconst (v := 0) dX6_init_121 rfl (j_istore_n (lv' := [(1, _), (0, _)]) dX6_init_122 rfl ?_)))))))
  refine JW.locals [0, 1] rfl (loop 4 0 _ rfl (fun a h1 _ => by rw [upI_n h1, upI_n h1]) (fun j h1 h2 => by rw [upI_s, upd_n h2, upI_s, upd_n h1, i198]) (by rw [upI_s, upd_n (by decide), upI_s, upd_s]; rfl) (by rw [upI_s, upd_s]; rfl) (fun q hq => absurd hq (Nat.not_lt_zero _)))
