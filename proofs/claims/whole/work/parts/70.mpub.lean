/-! THE REFERENCE'S CELLS beside the class's abstract state, and its public methods -/
def isM (Z : ZT) : Prop := zK Z 198 = 6 ∧ zS Z 198 0 = true ∧ zS Z 198 3 = true ∧ zS Z 198 6 = true ∧ zS Z 198 7 = true ∧ zS Z 198 10 = true ∧ zS Z 198 11 = true ∧ zS Z 198 12 = true ∧ zS Z 198 15 = true ∧ zS Z 198 16 = true ∧ zS Z 198 17 = true ∧ zS Z 198 18 = true ∧ zS Z 198 19 = true ∧ zS Z 198 22 = true ∧ zS Z 198 24 = true ∧ zK Z 199 = 7 ∧ zL Z 199 = 40 ∧ zK Z 200 = 7 ∧ zL Z 200 = 4 ∧ zK Z 201 = 7 ∧ zL Z 201 = 64 ∧ zK Z 202 = 7 ∧ zL Z 202 = 64 ∧ zK Z 203 = 7 ∧ zL Z 203 = 47 ∧ zK Z 204 = 7 ∧ zL Z 204 = 47 ∧ zK Z 205 = 7 ∧ zL Z 205 = 658 ∧ zK Z 206 = 7 ∧ zL Z 206 = 94 ∧ zK Z 207 = 8 ∧ zL Z 207 = 2 ∧ zK Z 208 = 7 ∧ zL Z 208 = 4 ∧ zK Z 209 = 7 ∧ zL Z 209 = 4 ∧ zK Z 210 = 7 ∧ zL Z 210 = 4 ∧ zK Z 211 = 7 ∧ zL Z 211 = 16 ∧ zK Z 212 = 7 ∧ zL Z 212 = 4
def mC (I : IT) (c : CT) (w : Nat) : Prop := MC I c ∧ I 198 4 = nI w ∧ I 198 8 = nI (CL w).length ∧ I 198 9 = nI (snB c.1 w 64)
def mA (I : IT) (nx ac : Nat) (dn : Nat → RT) : Prop := nx < 14 ∧ ac ≤ 14 ∧ I 198 14 = nI nx ∧ I 198 13 = nI ac ∧ ∀ j, j < ac → ∀ k, k < 47 → I 205 (47 * ((nx + 13 - j) % 14) + k) = dn ((nx + 13 - j) % 14) k
def mK (I : IT) (K : (Nat → RT) × (Nat → Bool)) : Prop := ∀ i, i < 2 → I 207 i = (if K.2 i = true then 1 else 0) ∧ (K.2 i = true → ∀ k, k < 47 → I 206 (47 * i + k) = K.1 i k)
def mSe (I : IT) (E : (Nat → Int32) × (Nat → Nat) × (Nat → Nat) × Nat) : Prop := I 198 20 = nI E.2.2.2 ∧ ∀ i, i < 4 → I 208 i = E.1 i ∧ I 209 i = nI (E.2.1 i) ∧ I 210 i = nI (E.2.2.1 i)
def MSt (t : Nat → Nat) (n : Nat) (c : CT) (w : Nat) (ρ : RT) (A : Nat × Nat × (Nat → RT)) (K : (Nat → RT) × (Nat → Bool)) (E : (Nat → Int32) × (Nat → Nat) × (Nat → Nat) × Nat) (sd : Int64) (I : IT) (L : LT) : Prop := TX I 198 199 1 t n ∧ mC I c w ∧ I 203 = ρ ∧ mA I A.1 A.2.1 A.2.2 ∧ mK I K ∧ mSe I E ∧ L 198 = sd ∧ Z47 (I 204)
def eqC (I I' : IT) : Prop := ∀ a, a < 198 → I' a = I a
theorem eqC.rfl' {I : IT} : eqC I I := fun _ _ => rfl
theorem eqC.tr {I I' I'' : IT} (h : eqC I I') (h2 : eqC I' I'') : eqC I I'' := fun a ha => (h2 a ha).trans (h a ha)
theorem eqC.up (I : IT) {a : Nat} (ha : 198 ≤ a) (f : Nat → Int32) : eqC I (upR I a f) := fun b hb => upR_n (by omega)
theorem MC.fr {I I' : IT} {c : CT} (h : MC I c) (e2 : I' 198 2 = I 198 2) (e5 : I' 198 5 = I 198 5) (e : ∀ a, 200 ≤ a → a ≤ 202 → I' a = I a) : MC I' c := by
  unfold MC at h ⊢
  rw [e2, e5, e 200 (by omega) (by omega), e 201 (by omega) (by omega), e 202 (by omega) (by omega)]
  exact h
theorem mC.fr {I I' : IT} {c : CT} {w : Nat} (h : mC I c w) (e8 : ∀ j, j = 2 ∨ j = 4 ∨ j = 5 ∨ j = 8 ∨ j = 9 → I' 198 j = I 198 j) (e : ∀ a, 200 ≤ a → a ≤ 202 → I' a = I a) : mC I' c w :=
  ⟨h.1.fr (e8 2 (by omega)) (e8 5 (by omega)) e, (e8 4 (by omega)).trans h.2.1, (e8 8 (by omega)).trans h.2.2.1, (e8 9 (by omega)).trans h.2.2.2⟩
theorem mA.fr {I I' : IT} {nx ac : Nat} {dn : Nat → RT} (h : mA I nx ac dn) (e13 : I' 198 13 = I 198 13) (e14 : I' 198 14 = I 198 14) (e : I' 205 = I 205) : mA I' nx ac dn := by
  unfold mA at h ⊢
  rw [e13, e14, e]
  exact h
theorem mK.fr {I I' : IT} {K : (Nat → RT) × (Nat → Bool)} (h : mK I K) (e6 : I' 206 = I 206) (e7 : I' 207 = I 207) : mK I' K := by
  unfold mK at h ⊢
  rw [e6, e7]
  exact h
theorem mSe.fr {I I' : IT} {E : (Nat → Int32) × (Nat → Nat) × (Nat → Nat) × Nat} (h : mSe I E) (e : I' 198 20 = I 198 20) (e8 : I' 208 = I 208) (e9 : I' 209 = I 209) (e10 : I' 210 = I 210) : mSe I' E := by
  unfold mSe at h ⊢
  rw [e, e8, e9, e10]
  exact h
theorem MSt.scr {t : Nat → Nat} {n : Nat} {c : CT} {w : Nat} {ρ : RT} {A : Nat × Nat × (Nat → RT)} {K : (Nat → RT) × (Nat → Bool)} {E : (Nat → Int32) × (Nat → Nat) × (Nat → Nat) × Nat} {sd : Int64} {I I' : IT} {L : LT} (h : MSt t n c w ρ A K E sd I L) (e8 : ∀ j, j < 23 → I' 198 j = I 198 j) (e : ∀ a, 199 ≤ a → a < 211 → a ≠ 204 → I' a = I a) (hz : Z47 (I' 204)) : MSt t n c w ρ A K E sd I' L := by
  obtain ⟨h1, h2, h3, h4, h5, h6, h7, h8⟩ := h
  exact ⟨h1.up (e8 1 (by omega)) (e 199 (by omega) (by omega) (by omega)), h2.fr (fun j hj => e8 j (by omega)) (fun a h1 h2 => e a (by omega) (by omega) (by omega)), (e 203 (by omega) (by omega) (by omega)).trans h3, h4.fr (e8 13 (by omega)) (e8 14 (by omega)) (e 205 (by omega) (by omega) (by omega)), h5.fr (e 206 (by omega) (by omega) (by omega)) (e 207 (by omega) (by omega) (by omega)), h6.fr (e8 20 (by omega)) (e 208 (by omega) (by omega) (by omega)) (e 209 (by omega) (by omega) (by omega)) (e 210 (by omega) (by omega) (by omega)), h7, hz⟩
theorem MSt.tri {t : Nat → Nat} {n : Nat} {c : CT} {w : Nat} {ρ : RT} {A : Nat × Nat × (Nat → RT)} {K : (Nat → RT) × (Nat → Bool)} {E : (Nat → Int32) × (Nat → Nat) × (Nat → Nat) × Nat} {sd : Int64} {I : IT} {L : LT} (h : MSt t n c w ρ A K E sd I L) {σ : RT} (hz : Z47 σ) : MSt t n c w ρ A K E sd (upR I 204 σ) L := h.scr (fun j _ => by rw [upR_n (by decide)]) (fun a _ _ h4 => upR_n h4) (by rw [upR_s]; exact hz)
theorem c_copy47 {g : GT} {Z : ZT} {I : IT} {L : LT} {Post : PT} {a b : Nat} (h1 : zK Z a = 7) (h2 : zL Z a = 47) (h3 : zK Z b = 7) (h4 : zL Z b = 47) (hab : b ≠ a) (hp : Post none Z (upR I b (fun k => if k < 47 then I a k else I b k)) L) : CM g 0 0 0 mX6_copy [.ref a, .ref b] Z I L Post := by
  refine CM_intro ?_
  have loop : ∀ (m k : Nat), k + m = 47 → JW g mX6_copy (rmO 0 0 0) (QM Post 0 0) 2 [(2, .int (nI k)), (0, .ref a), (1, .ref b)] [] 0 0 Z (upR I b (fun j => if j < k then I a j else I b j)) L := by
    intro m
    induction m with
    | zero =>
      intro k hk
      have : k = 47 := by omega
      subst this
      refine j_iload_n 0 dX6_copy_2 rfl (j_bipush (v := 47) dX6_copy_3 rfl (j_icmp_ge (tgt := 20) dX6_copy_5 rfl (fun g1 => ?_) (fun g1 => ?_)))
      · refine j_vret dX6_copy_20 ?_
        exact hp
      · exact absurd (by decide) g1
    | succ m ih =>
      intro k hk
      have hi := ih (k + 1) (by omega)
      refine j_iload_n 0 dX6_copy_2 rfl (j_bipush (v := 47) dX6_copy_3 rfl (j_icmp_ge (tgt := 20) dX6_copy_5 rfl (fun g1 => ?_) (fun g1 => ?_)))
      · exact absurd g1 (nI_ge (b := 47) (by omega) (by decide))
      · refine j_aload_n 2 dX6_copy_8 rfl (j_iload_n 0 dX6_copy_9 rfl (j_aload_n 1 dX6_copy_10 rfl (j_iload_n 0 dX6_copy_11 rfl (j_iaload k dX6_copy_12 (by first | assumption | rfl) (by first | assumption | rfl) (by omega) (j_iastore k dX6_copy_13 (by first | assumption | rfl) (by first | assumption | rfl) (by omega) (j_iinc (y := 1) (lv' := [(2, _), (0, _), (1, _)]) 0 dX6_copy_14 rfl rfl rfl (j_goto (tgt := 2) dX6_copy_17 rfl ?_)))))))
        rw [nI_1, upI, upR_R, upR_s, upR_n (Ne.symm hab)]
        rw [show (fun j => if j < k + 1 then I a j else I b j) = upd (fun j => if j < k then I a j else I b j) k (I a k) from ?_] at hi
        · exact hi
        · funext j
          rw [upd_app]
          by_cases e : j = k
          · subst e; rw [if_pos (by omega), if_pos rfl]
          · rw [if_neg e]
            by_cases e2 : j < k
            · rw [if_pos e2, if_pos (by omega)]
            · rw [if_neg e2, if_neg (by omega)]
  have h0 := loop 47 0 rfl
  rw [show (fun j => if j < 0 then I a j else I b j) = I b from funext (fun j => if_neg (by omega)), fa_self] at h0
  refine j_iconst (v := 0) dX6_copy_0 rfl (j_istore_n (lv' := [(2, _), (0, _), (1, _)]) dX6_copy_1 rfl ?_)
  exact JW.locals [0, 1, 2] rfl h0
theorem c_toTrial {g : GT} {Z : ZT} {I : IT} {L : LT} {Post : PT} {ρ : RT} (k203 : zK Z 203 = 7) (l203 : zL Z 203 = 47) (k204 : zK Z 204 = 7) (l204 : zL Z 204 = 47) (hn : I 203 = ρ) (hz : Z47 ρ) (hz2 : Z47 (I 204)) (hp : Post none Z (upR I 204 ρ) L) : CM g 0 0 0 mX6_copy [.ref 203, .ref 204] Z I L Post := by
  refine c_copy47 k203 l203 k204 l204 (by decide) ?_
  rw [hn, z_mix hz hz2]
  exact hp
theorem c_fresh {g : GT} {Z : ZT} {I : IT} {L : LT} {Post : PT} (m0 : zK Z 198 = 6) (f10 : zS Z 198 10 = true) (k203 : zK Z 203 = 7) (l203 : zL Z 203 = 47) (hz : Z47 (I 203)) (hp : Post none Z (upR I 203 fr0) L) : CM g 0 0 0 mX6_fresh [.ref 198] Z I L Post := by
  refine CM_intro ?_
  have loop : ∀ (m k : Nat), k + m = 47 → JW g mX6_fresh (rmO 0 0 0) (QM Post 0 0) 2 [(1, .int (nI k)), (0, .ref 198)] [] 0 0 Z (upR I 203 (fun j => if j < k then fr0 j else I 203 j)) L := by
    intro m
    induction m with
    | zero =>
      intro k hk
      have : k = 47 := by omega
      subst this
      refine j_iload_n 0 dX6_fresh_2 rfl (j_bipush (v := 47) dX6_fresh_3 rfl (j_icmp_ge (tgt := 50) dX6_fresh_5 rfl (fun g1 => ?_) (fun g1 => ?_)))
      · refine j_vret dX6_fresh_50 ?_
        rw [show (fun j => if j < 47 then fr0 j else I 203 j) = fr0 from funext (fun j => by
          by_cases h : j < 47
          · exact if_pos h
          · rw [if_neg h, hz j (by omega)]
            unfold fr0
            rw [if_neg (by omega)])]
        exact hp
      · exact absurd (by decide) g1
    | succ m ih =>
      intro k hk
      have hi := ih (k + 1) (by omega)
      have hst : ∀ v : Int32, fr0 k = v → JW g mX6_fresh (rmO 0 0 0) (QM Post 0 0) 43 [(1, .int (nI k)), (0, .ref 198)] [.int v, .int (nI k), .ref 203] 0 0 Z (upR I 203 (fun j => if j < k then fr0 j else I 203 j)) L := by
        intro v hv
        refine j_iastore k dX6_fresh_43 (by first | assumption | rfl) (by first | assumption | rfl) (by omega) (j_iinc (y := 1) (lv' := [(1, _), (0, _)]) 0 dX6_fresh_44 rfl rfl rfl (j_goto (tgt := 2) dX6_fresh_47 rfl ?_))
        rw [nI_1, upI, upR_R, upR_s]
        rw [show (fun j => if j < k + 1 then fr0 j else I 203 j) = upd (fun j => if j < k then fr0 j else I 203 j) k v from ?_] at hi
        · exact hi
        · funext j
          rw [upd_app]
          by_cases e : j = k
          · subst e; rw [if_pos (by omega), if_pos rfl, hv]
          · rw [if_neg e]
            by_cases e2 : j < k
            · rw [if_pos e2, if_pos (by omega)]
            · rw [if_neg e2, if_neg (by omega)]
      refine j_iload_n 0 dX6_fresh_2 rfl (j_bipush (v := 47) dX6_fresh_3 rfl (j_icmp_ge (tgt := 50) dX6_fresh_5 rfl (fun g1 => ?_) (fun g1 => ?_)))
      · exact absurd g1 (nI_ge (b := 47) (by omega) (by decide))
      · refine j_aload_n 1 dX6_fresh_8 rfl (j_getR (b := 203) dX6_fresh_9 fX6_22 rfl (by first | assumption | rfl) (by first | assumption | rfl) (j_iload_n 0 dX6_fresh_12 rfl (j_iload_n 0 dX6_fresh_13 rfl (j_bipush (v := 14) dX6_fresh_14 rfl (j_icmp_lt (tgt := 25) dX6_fresh_16 rfl (fun g2 => ?_) (fun g2 => ?_))))))
        · have b2 : k < 14 := (nI_ltI (b := 14) (by omega) (by decide)).mp g2
          refine j_iload_n 0 dX6_fresh_25 rfl (j_bipush (v := 18) dX6_fresh_26 rfl (j_icmp_lt (tgt := 42) dX6_fresh_28 rfl (fun g3 => ?_) (fun g3 => ?_)))
          · refine j_iconst (v := 0) dX6_fresh_42 rfl ?_
            exact hst 0 (if_neg (by omega))
          · exact absurd (nI_lt (b := 18) (by omega) (by decide)) g3
        · have b2 : ¬ k < 14 := fun z => g2 (nI_lt (b := 14) z (by decide))
          refine j_iload_n 0 dX6_fresh_19 rfl (j_bipush (v := 16) dX6_fresh_20 rfl (j_icmp_le (tgt := 37) dX6_fresh_22 rfl (fun g3 => ?_) (fun g3 => ?_)))
          · have b3 : k ≤ 16 := (nI_leI (b := 16) (by omega) (by decide)).mp g3
            refine j_bipush (v := -9) dX6_fresh_37 rfl (j_goto (tgt := 43) dX6_fresh_39 rfl ?_)
            exact hst (-9) (if_pos (by omega))
          · have b3 : ¬ k ≤ 16 := fun z => g3 (nI_le (b := 16) z (by decide))
            refine j_iload_n 0 dX6_fresh_25 rfl (j_bipush (v := 18) dX6_fresh_26 rfl (j_icmp_lt (tgt := 42) dX6_fresh_28 rfl (fun g4 => ?_) (fun g4 => ?_)))
            · have b4 : k < 18 := (nI_ltI (b := 18) (by omega) (by decide)).mp g4
              refine j_iconst (v := 0) dX6_fresh_42 rfl ?_
              exact hst 0 (if_neg (by omega))
            · have b4 : ¬ k < 18 := fun z => g4 (nI_lt (b := 18) z (by decide))
              refine j_iload_n 0 dX6_fresh_31 rfl (j_bipush (v := 30) dX6_fresh_32 rfl (j_icmp_ge (tgt := 42) dX6_fresh_34 rfl (fun g5 => ?_) (fun g5 => ?_)))
              · have b5 : ¬ k < 30 := fun z => absurd g5 (nI_ge (b := 30) z (by decide))
                refine j_iconst (v := 0) dX6_fresh_42 rfl ?_
                exact hst 0 (if_neg (by omega))
              · have b5 : k < 30 := Nat.lt_of_not_le (fun z => g5 (nI_le (a := 30) z (by omega)))
                refine j_bipush (v := -9) dX6_fresh_37 rfl (j_goto (tgt := 43) dX6_fresh_39 rfl ?_)
                exact hst (-9) (if_pos (by omega))
  have h0 := loop 47 0 rfl
  rw [show (fun j => if j < 0 then fr0 j else I 203 j) = I 203 from funext (fun j => if_neg (by omega)), fa_self] at h0
  refine j_iconst (v := 0) dX6_fresh_0 rfl (j_istore_n (lv' := [(1, _), (0, _)]) dX6_fresh_1 rfl ?_)
  exact JW.locals [0, 1] rfl h0
theorem q_offset {g : GT} {Z : ZT} {I : IT} {L : LT} {Post : PT} {t : Nat → Nat} {n : Nat} {c : CT} {w : Nat} {ρ : RT} {A : Nat × Nat × (Nat → RT)} {K : (Nat → RT) × (Nat → Bool)} {E : (Nat → Int32) × (Nat → Nat) × (Nat → Nat) × Nat} {sd : Int64} {k : Nat} (hM : isM Z) (hs : MSt t n c w ρ A K E sd I L) (ho : OKs c w ρ A K E) (hk : k < 4) (hp : Post (some (.int (nI (c.2.1 k)))) Z I L) : CM g 2 0 0 mX6_offset [.ref 198, .int (nI k)] Z I L Post := by
  obtain ⟨m0, f0, f3, f6, f7, f10, f11, f12, f15, f16, f17, f18, f19, f22, f24, k199, l199, k200, l200, k201, l201, k202, l202, k203, l203, k204, l204, k205, l205, k206, l206, k207, l207, k208, l208, k209, l209, k210, l210, k211, l211, k212, l212⟩ := id hM
  have hMo : isMo Z := ⟨m0, f3, f6, f7, k200, l200, k201, l201, k202, l202⟩
  obtain ⟨sT, ⟨sC, s4, s8, s9⟩, sN, sA, sK, sE, sL, sZ⟩ := id hs
  obtain ⟨oC, oW, oN, oA, oK, oE⟩ := id ho
  refine CM_intro ?_
  refine j_iload_n 1 dX6_offset_0 rfl (j_S1 dX6_offset_1 kX6_183 (c_mIsOffset ⟨fun _ _ _ _ => ?_, fun h => absurd rfl (h k (Nat.zero_le _) (by omega))⟩))
  refine j_if_eq (tgt := 16) dX6_offset_4 rfl (fun h9 => absurd h9 (by decide)) (fun _ => (j_aload_n 0 dX6_offset_7 rfl (j_getR (b := 200) dX6_offset_8 fX6_13 rfl (by first | assumption | rfl) (by first | assumption | rfl) (j_iload_n 1 dX6_offset_11 rfl (j_iaload k dX6_offset_12 (by first | assumption | rfl) (by first | assumption | rfl) (by omega) (j_goto (tgt := 17) dX6_offset_13 rfl (j_iret dX6_offset_17 ?_)))))))
  rw [sC.2.2.1 k hk]
  exact hp

theorem q_offset_u {g : GT} {Z : ZT} {I : IT} {L : LT} {Post : PT} {t : Nat → Nat} {n : Nat} {c : CT} {w : Nat} {ρ : RT} {A : Nat × Nat × (Nat → RT)} {K : (Nat → RT) × (Nat → Bool)} {E : (Nat → Int32) × (Nat → Nat) × (Nat → Nat) × Nat} {sd : Int64} {x : Int32} (hM : isM Z) (hs : MSt t n c w ρ A K E sd I L) (ho : OKs c w ρ A K E) (hx : ∀ j, j < 4 → x ≠ nI j) (hp : Post (some (.int (-1))) Z I L) : CM g 2 0 0 mX6_offset [.ref 198, .int x] Z I L Post := by
  obtain ⟨m0, f0, f3, f6, f7, f10, f11, f12, f15, f16, f17, f18, f19, f22, f24, k199, l199, k200, l200, k201, l201, k202, l202, k203, l203, k204, l204, k205, l205, k206, l206, k207, l207, k208, l208, k209, l209, k210, l210, k211, l211, k212, l212⟩ := id hM
  have hMo : isMo Z := ⟨m0, f3, f6, f7, k200, l200, k201, l201, k202, l202⟩
  obtain ⟨sT, ⟨sC, s4, s8, s9⟩, sN, sA, sK, sE, sL, sZ⟩ := id hs
  obtain ⟨oC, oW, oN, oA, oK, oE⟩ := id ho
  refine CM_intro ?_
  refine j_iload_n 1 dX6_offset_0 rfl (j_S1 dX6_offset_1 kX6_183 (c_mIsOffset ⟨fun j _ hj e => absurd e (hx j (by omega)), fun _ => ?_⟩))
  refine j_if_eq (tgt := 16) dX6_offset_4 rfl (fun _ => (j_iconst (v := -1) dX6_offset_16 rfl (j_iret dX6_offset_17 ?_))) (fun h9 => absurd (by decide) h9)
  exact hp

theorem q_part {g : GT} {Z : ZT} {I : IT} {L : LT} {Post : PT} {t : Nat → Nat} {n : Nat} {c : CT} {w : Nat} {ρ : RT} {A : Nat × Nat × (Nat → RT)} {K : (Nat → RT) × (Nat → Bool)} {E : (Nat → Int32) × (Nat → Nat) × (Nat → Nat) × Nat} {sd : Int64} {k : Nat} (hM : isM Z) (hs : MSt t n c w ρ A K E sd I L) (ho : OKs c w ρ A K E) (hk : k < 4) (hp : Post (some (.int (ρ (18 + k)))) Z I L) : CM g 2 0 0 mX6_part [.ref 198, .int (nI k)] Z I L Post := by
  obtain ⟨m0, f0, f3, f6, f7, f10, f11, f12, f15, f16, f17, f18, f19, f22, f24, k199, l199, k200, l200, k201, l201, k202, l202, k203, l203, k204, l204, k205, l205, k206, l206, k207, l207, k208, l208, k209, l209, k210, l210, k211, l211, k212, l212⟩ := id hM
  have hMo : isMo Z := ⟨m0, f3, f6, f7, k200, l200, k201, l201, k202, l202⟩
  obtain ⟨sT, ⟨sC, s4, s8, s9⟩, sN, sA, sK, sE, sL, sZ⟩ := id hs
  obtain ⟨oC, oW, oN, oA, oK, oE⟩ := id ho
  refine CM_intro ?_
  refine j_iload_n 1 dX6_part_0 rfl (j_S1 dX6_part_1 kX6_183 (c_mIsOffset ⟨fun _ _ _ _ => ?_, fun h => absurd rfl (h k (Nat.zero_le _) (by omega))⟩))
  refine j_if_eq (tgt := 19) dX6_part_4 rfl (fun h9 => absurd h9 (by decide)) (fun _ => (j_aload_n 0 dX6_part_7 rfl (j_getR (b := 203) dX6_part_8 fX6_22 rfl (by first | assumption | rfl) (by first | assumption | rfl) (j_bipush (v := 18) dX6_part_11 rfl (j_iload_n 1 dX6_part_13 rfl (j_iadd dX6_part_14 (j_iaload (18 + k) dX6_part_15 (nI_add 18 k) (by first | assumption | rfl) (by omega) (j_goto (tgt := 20) dX6_part_16 rfl (j_iret dX6_part_20 ?_)))))))))
  rw [sN]
  exact hp

theorem q_part_u {g : GT} {Z : ZT} {I : IT} {L : LT} {Post : PT} {t : Nat → Nat} {n : Nat} {c : CT} {w : Nat} {ρ : RT} {A : Nat × Nat × (Nat → RT)} {K : (Nat → RT) × (Nat → Bool)} {E : (Nat → Int32) × (Nat → Nat) × (Nat → Nat) × Nat} {sd : Int64} {x : Int32} (hM : isM Z) (hs : MSt t n c w ρ A K E sd I L) (ho : OKs c w ρ A K E) (hx : ∀ j, j < 4 → x ≠ nI j) (hp : Post (some (.int (-1))) Z I L) : CM g 2 0 0 mX6_part [.ref 198, .int x] Z I L Post := by
  obtain ⟨m0, f0, f3, f6, f7, f10, f11, f12, f15, f16, f17, f18, f19, f22, f24, k199, l199, k200, l200, k201, l201, k202, l202, k203, l203, k204, l204, k205, l205, k206, l206, k207, l207, k208, l208, k209, l209, k210, l210, k211, l211, k212, l212⟩ := id hM
  have hMo : isMo Z := ⟨m0, f3, f6, f7, k200, l200, k201, l201, k202, l202⟩
  obtain ⟨sT, ⟨sC, s4, s8, s9⟩, sN, sA, sK, sE, sL, sZ⟩ := id hs
  obtain ⟨oC, oW, oN, oA, oK, oE⟩ := id ho
  refine CM_intro ?_
  refine j_iload_n 1 dX6_part_0 rfl (j_S1 dX6_part_1 kX6_183 (c_mIsOffset ⟨fun j _ hj e => absurd e (hx j (by omega)), fun _ => ?_⟩))
  refine j_if_eq (tgt := 19) dX6_part_4 rfl (fun _ => (j_iconst (v := -1) dX6_part_19 rfl (j_iret dX6_part_20 ?_))) (fun h9 => absurd (by decide) h9)
  exact hp

theorem q_name {g : GT} {Z : ZT} {I : IT} {L : LT} {Post : PT} {t : Nat → Nat} {n : Nat} {c : CT} {w : Nat} {ρ : RT} {A : Nat × Nat × (Nat → RT)} {K : (Nat → RT) × (Nat → Bool)} {E : (Nat → Int32) × (Nat → Nat) × (Nat → Nat) × Nat} {sd : Int64} {k : Nat} {b : Int32} (hM : isM Z) (hs : MSt t n c w ρ A K E sd I L) (ho : OKs c w ρ A K E) (hk : k < 4) (hp : Post (some (.int (if b = 0 then ρ (22 + k) else ρ (26 + k)))) Z I L) : CM g 2 0 0 mX6_name [.ref 198, .int (nI k), .int b] Z I L Post := by
  obtain ⟨m0, f0, f3, f6, f7, f10, f11, f12, f15, f16, f17, f18, f19, f22, f24, k199, l199, k200, l200, k201, l201, k202, l202, k203, l203, k204, l204, k205, l205, k206, l206, k207, l207, k208, l208, k209, l209, k210, l210, k211, l211, k212, l212⟩ := id hM
  have hMo : isMo Z := ⟨m0, f3, f6, f7, k200, l200, k201, l201, k202, l202⟩
  obtain ⟨sT, ⟨sC, s4, s8, s9⟩, sN, sA, sK, sE, sL, sZ⟩ := id hs
  obtain ⟨oC, oW, oN, oA, oK, oE⟩ := id ho
  refine CM_intro ?_
  refine j_iload_n 1 dX6_name_0 rfl (j_S1 dX6_name_1 kX6_183 (c_mIsOffset ⟨fun _ _ _ _ => ?_, fun h => absurd rfl (h k (Nat.zero_le _) (by omega))⟩))
  refine j_if_eq (tgt := 28) dX6_name_4 rfl (fun h9 => absurd h9 (by decide)) (fun _ => (j_aload_n 0 dX6_name_7 rfl (j_getR (b := 203) dX6_name_8 fX6_22 rfl (by first | assumption | rfl) (by first | assumption | rfl) (j_iload_n 2 dX6_name_11 rfl (j_if_eq (tgt := 20) dX6_name_12 rfl (fun g1 => ?_) (fun g1 => ?_))))))
  · refine j_bipush (v := 22) dX6_name_20 rfl (j_iload_n 1 dX6_name_22 rfl (j_iadd dX6_name_23 (j_iaload (22 + k) dX6_name_24 (nI_add 22 k) (by first | assumption | rfl) (by omega) (j_goto (tgt := 29) dX6_name_25 rfl (j_iret dX6_name_29 ?_)))))
    rw [if_pos g1] at hp
    rw [sN]
    exact hp
  · refine j_bipush (v := 26) dX6_name_15 rfl (j_goto (tgt := 22) dX6_name_17 rfl (j_iload_n 1 dX6_name_22 rfl (j_iadd dX6_name_23 (j_iaload (26 + k) dX6_name_24 (nI_add 26 k) (by first | assumption | rfl) (by omega) (j_goto (tgt := 29) dX6_name_25 rfl (j_iret dX6_name_29 ?_))))))
    rw [if_neg g1] at hp
    rw [sN]
    exact hp

theorem q_name_u {g : GT} {Z : ZT} {I : IT} {L : LT} {Post : PT} {t : Nat → Nat} {n : Nat} {c : CT} {w : Nat} {ρ : RT} {A : Nat × Nat × (Nat → RT)} {K : (Nat → RT) × (Nat → Bool)} {E : (Nat → Int32) × (Nat → Nat) × (Nat → Nat) × Nat} {sd : Int64} {x b : Int32} (hM : isM Z) (hs : MSt t n c w ρ A K E sd I L) (ho : OKs c w ρ A K E) (hx : ∀ j, j < 4 → x ≠ nI j) (hp : Post (some (.int (-1))) Z I L) : CM g 2 0 0 mX6_name [.ref 198, .int x, .int b] Z I L Post := by
  obtain ⟨m0, f0, f3, f6, f7, f10, f11, f12, f15, f16, f17, f18, f19, f22, f24, k199, l199, k200, l200, k201, l201, k202, l202, k203, l203, k204, l204, k205, l205, k206, l206, k207, l207, k208, l208, k209, l209, k210, l210, k211, l211, k212, l212⟩ := id hM
  have hMo : isMo Z := ⟨m0, f3, f6, f7, k200, l200, k201, l201, k202, l202⟩
  obtain ⟨sT, ⟨sC, s4, s8, s9⟩, sN, sA, sK, sE, sL, sZ⟩ := id hs
  obtain ⟨oC, oW, oN, oA, oK, oE⟩ := id ho
  refine CM_intro ?_
  refine j_iload_n 1 dX6_name_0 rfl (j_S1 dX6_name_1 kX6_183 (c_mIsOffset ⟨fun j _ hj e => absurd e (hx j (by omega)), fun _ => ?_⟩))
  refine j_if_eq (tgt := 28) dX6_name_4 rfl (fun _ => (j_iconst (v := -1) dX6_name_28 rfl (j_iret dX6_name_29 ?_))) (fun h9 => absurd (by decide) h9)
  exact hp

theorem q_word {g : GT} {Z : ZT} {I : IT} {L : LT} {Post : PT} {t : Nat → Nat} {n : Nat} {c : CT} {w : Nat} {ρ : RT} {A : Nat × Nat × (Nat → RT)} {K : (Nat → RT) × (Nat → Bool)} {E : (Nat → Int32) × (Nat → Nat) × (Nat → Nat) × Nat} {sd : Int64} {k d : Nat} (hM : isM Z) (hs : MSt t n c w ρ A K E sd I L) (ho : OKs c w ρ A K E) (hk : k < 4) (hd : d < 256) (hp : Post (some (.int (nI (wdN c k d)))) Z I L) : CM g 3 0 0 mX6_word [.ref 198, .int (nI k), .int (nI d)] Z I L Post := by
  obtain ⟨m0, f0, f3, f6, f7, f10, f11, f12, f15, f16, f17, f18, f19, f22, f24, k199, l199, k200, l200, k201, l201, k202, l202, k203, l203, k204, l204, k205, l205, k206, l206, k207, l207, k208, l208, k209, l209, k210, l210, k211, l211, k212, l212⟩ := id hM
  have hMo : isMo Z := ⟨m0, f3, f6, f7, k200, l200, k201, l201, k202, l202⟩
  obtain ⟨sT, ⟨sC, s4, s8, s9⟩, sN, sA, sK, sE, sL, sZ⟩ := id hs
  obtain ⟨oC, oW, oN, oA, oK, oE⟩ := id ho
  refine CM_intro ?_
  refine j_iload_n 1 dX6_word_0 rfl (j_S1 dX6_word_1 kX6_183 (c_mIsOffset ⟨fun _ _ _ _ => ?_, fun h => absurd rfl (h k (Nat.zero_le _) (by omega))⟩))
  refine j_if_ne (tgt := 11) dX6_word_4 rfl (fun _ => (j_iload_n 2 dX6_word_11 rfl (j_i2l dX6_word_12 (j_lconst (v := 0) dX6_word_13 rfl (j_ldc2 (v := 255) dX6_word_14 (List.mem_of_getElem? (i := 820) (by decide +kernel)) (j_S3 dX6_word_17 kX6_68 (c_inB 0 255 (by decide) rfl rfl ⟨fun _ _ _ _ => ?_, fun h => absurd rfl (h d (by omega) (by omega))⟩))))))) (fun h9 => absurd h9 (by decide))
  refine j_if_eq (tgt := 32) dX6_word_20 rfl (fun h9 => absurd h9 (by decide)) (fun _ => (j_aload_n 0 dX6_word_23 rfl (j_iload_n 1 dX6_word_24 rfl (j_iload_n 2 dX6_word_25 rfl (j_V2 dX6_word_26 kX6_168 (by first | assumption | rfl) (c_mWord hMo sC hk (by omega) ?_))))))
  refine j_goto (tgt := 34) dX6_word_29 rfl (j_iret dX6_word_34 ?_)
  exact hp

theorem q_word_u {g : GT} {Z : ZT} {I : IT} {L : LT} {Post : PT} {t : Nat → Nat} {n : Nat} {c : CT} {w : Nat} {ρ : RT} {A : Nat × Nat × (Nat → RT)} {K : (Nat → RT) × (Nat → Bool)} {E : (Nat → Int32) × (Nat → Nat) × (Nat → Nat) × Nat} {sd : Int64} {x y : Int32} (hM : isM Z) (hs : MSt t n c w ρ A K E sd I L) (ho : OKs c w ρ A K E) (hx : ∀ j, j < 4 → x ≠ nI j) (hp : Post (some (.int (-1))) Z I L) : CM g 3 0 0 mX6_word [.ref 198, .int x, .int y] Z I L Post := by
  obtain ⟨m0, f0, f3, f6, f7, f10, f11, f12, f15, f16, f17, f18, f19, f22, f24, k199, l199, k200, l200, k201, l201, k202, l202, k203, l203, k204, l204, k205, l205, k206, l206, k207, l207, k208, l208, k209, l209, k210, l210, k211, l211, k212, l212⟩ := id hM
  have hMo : isMo Z := ⟨m0, f3, f6, f7, k200, l200, k201, l201, k202, l202⟩
  obtain ⟨sT, ⟨sC, s4, s8, s9⟩, sN, sA, sK, sE, sL, sZ⟩ := id hs
  obtain ⟨oC, oW, oN, oA, oK, oE⟩ := id ho
  refine CM_intro ?_
  refine j_iload_n 1 dX6_word_0 rfl (j_S1 dX6_word_1 kX6_183 (c_mIsOffset ⟨fun j _ hj e => absurd e (hx j (by omega)), fun _ => ?_⟩))
  refine j_if_ne (tgt := 11) dX6_word_4 rfl (fun h9 => absurd (by decide) h9) (fun _ => (j_iconst (v := -1) dX6_word_7 rfl (j_goto (tgt := 34) dX6_word_8 rfl (j_iret dX6_word_34 ?_))))
  exact hp

theorem q_word_b {g : GT} {Z : ZT} {I : IT} {L : LT} {Post : PT} {t : Nat → Nat} {n : Nat} {c : CT} {w : Nat} {ρ : RT} {A : Nat × Nat × (Nat → RT)} {K : (Nat → RT) × (Nat → Bool)} {E : (Nat → Int32) × (Nat → Nat) × (Nat → Nat) × Nat} {sd : Int64} {k : Nat} {y : Int32} (hM : isM Z) (hs : MSt t n c w ρ A K E sd I L) (ho : OKs c w ρ A K E) (hk : k < 4) (hy : ∀ j, j < 256 → y ≠ nI j) (hp : Post (some (.int (-2))) Z I L) : CM g 3 0 0 mX6_word [.ref 198, .int (nI k), .int y] Z I L Post := by
  obtain ⟨m0, f0, f3, f6, f7, f10, f11, f12, f15, f16, f17, f18, f19, f22, f24, k199, l199, k200, l200, k201, l201, k202, l202, k203, l203, k204, l204, k205, l205, k206, l206, k207, l207, k208, l208, k209, l209, k210, l210, k211, l211, k212, l212⟩ := id hM
  have hMo : isMo Z := ⟨m0, f3, f6, f7, k200, l200, k201, l201, k202, l202⟩
  obtain ⟨sT, ⟨sC, s4, s8, s9⟩, sN, sA, sK, sE, sL, sZ⟩ := id hs
  obtain ⟨oC, oW, oN, oA, oK, oE⟩ := id ho
  refine CM_intro ?_
  refine j_iload_n 1 dX6_word_0 rfl (j_S1 dX6_word_1 kX6_183 (c_mIsOffset ⟨fun _ _ _ _ => ?_, fun h => absurd rfl (h k (Nat.zero_le _) (by omega))⟩))
  refine j_if_ne (tgt := 11) dX6_word_4 rfl (fun _ => (j_iload_n 2 dX6_word_11 rfl (j_i2l dX6_word_12 (j_lconst (v := 0) dX6_word_13 rfl (j_ldc2 (v := 255) dX6_word_14 (List.mem_of_getElem? (i := 820) (by decide +kernel)) (j_S3 dX6_word_17 kX6_68 (c_inB 0 255 (by decide) rfl rfl ⟨fun j hj0 hj e => absurd e (hy j (by omega)), fun _ => ?_⟩))))))) (fun h9 => absurd h9 (by decide))
  refine j_if_eq (tgt := 32) dX6_word_20 rfl (fun _ => (j_bipush (v := -2) dX6_word_32 rfl (j_iret dX6_word_34 ?_))) (fun h9 => absurd (by decide) h9)
  exact hp

theorem q_rest {g : GT} {Z : ZT} {I : IT} {L : LT} {Post : PT} {t : Nat → Nat} {n : Nat} {c : CT} {w : Nat} {ρ : RT} {A : Nat × Nat × (Nat → RT)} {K : (Nat → RT) × (Nat → Bool)} {E : (Nat → Int32) × (Nat → Nat) × (Nat → Nat) × Nat} {sd : Int64} {k d : Nat} (hM : isM Z) (hs : MSt t n c w ρ A K E sd I L) (ho : OKs c w ρ A K E) (hk : k < 4) (hd : d < 16384) (hp : Post (some (.int (nI (lfN c.1 (d ^^^ c.2.1 k))))) Z I L) : CM g 3 0 0 mX6_rest [.ref 198, .int (nI k), .int (nI d)] Z I L Post := by
  obtain ⟨m0, f0, f3, f6, f7, f10, f11, f12, f15, f16, f17, f18, f19, f22, f24, k199, l199, k200, l200, k201, l201, k202, l202, k203, l203, k204, l204, k205, l205, k206, l206, k207, l207, k208, l208, k209, l209, k210, l210, k211, l211, k212, l212⟩ := id hM
  have hMo : isMo Z := ⟨m0, f3, f6, f7, k200, l200, k201, l201, k202, l202⟩
  obtain ⟨sT, ⟨sC, s4, s8, s9⟩, sN, sA, sK, sE, sL, sZ⟩ := id hs
  obtain ⟨oC, oW, oN, oA, oK, oE⟩ := id ho
  refine CM_intro ?_
  refine j_iload_n 1 dX6_rest_0 rfl (j_S1 dX6_rest_1 kX6_183 (c_mIsOffset ⟨fun _ _ _ _ => ?_, fun h => absurd rfl (h k (Nat.zero_le _) (by omega))⟩))
  refine j_if_ne (tgt := 11) dX6_rest_4 rfl (fun _ => (j_iload_n 2 dX6_rest_11 rfl (j_i2l dX6_rest_12 (j_lconst (v := 0) dX6_rest_13 rfl (j_ldc2 (v := 16383) dX6_rest_14 (List.mem_of_getElem? (i := 902) (by decide +kernel)) (j_S3 dX6_rest_17 kX6_68 (c_inB 0 16383 (by decide) rfl rfl ⟨fun _ _ _ _ => ?_, fun h => absurd rfl (h d (by omega) (by omega))⟩))))))) (fun h9 => absurd h9 (by decide))
  refine j_if_eq (tgt := 32) dX6_rest_20 rfl (fun h9 => absurd h9 (by decide)) (fun _ => (j_aload_n 0 dX6_rest_23 rfl (j_iload_n 1 dX6_rest_24 rfl (j_iload_n 2 dX6_rest_25 rfl (j_V2 dX6_rest_26 kX6_146 (by first | assumption | rfl) (c_mRest hMo sC hk (by omega) ?_))))))
  refine j_goto (tgt := 34) dX6_rest_29 rfl (j_iret dX6_rest_34 ?_)
  exact hp

theorem q_rest_u {g : GT} {Z : ZT} {I : IT} {L : LT} {Post : PT} {t : Nat → Nat} {n : Nat} {c : CT} {w : Nat} {ρ : RT} {A : Nat × Nat × (Nat → RT)} {K : (Nat → RT) × (Nat → Bool)} {E : (Nat → Int32) × (Nat → Nat) × (Nat → Nat) × Nat} {sd : Int64} {x y : Int32} (hM : isM Z) (hs : MSt t n c w ρ A K E sd I L) (ho : OKs c w ρ A K E) (hx : ∀ j, j < 4 → x ≠ nI j) (hp : Post (some (.int (-1))) Z I L) : CM g 3 0 0 mX6_rest [.ref 198, .int x, .int y] Z I L Post := by
  obtain ⟨m0, f0, f3, f6, f7, f10, f11, f12, f15, f16, f17, f18, f19, f22, f24, k199, l199, k200, l200, k201, l201, k202, l202, k203, l203, k204, l204, k205, l205, k206, l206, k207, l207, k208, l208, k209, l209, k210, l210, k211, l211, k212, l212⟩ := id hM
  have hMo : isMo Z := ⟨m0, f3, f6, f7, k200, l200, k201, l201, k202, l202⟩
  obtain ⟨sT, ⟨sC, s4, s8, s9⟩, sN, sA, sK, sE, sL, sZ⟩ := id hs
  obtain ⟨oC, oW, oN, oA, oK, oE⟩ := id ho
  refine CM_intro ?_
  refine j_iload_n 1 dX6_rest_0 rfl (j_S1 dX6_rest_1 kX6_183 (c_mIsOffset ⟨fun j _ hj e => absurd e (hx j (by omega)), fun _ => ?_⟩))
  refine j_if_ne (tgt := 11) dX6_rest_4 rfl (fun h9 => absurd (by decide) h9) (fun _ => (j_iconst (v := -1) dX6_rest_7 rfl (j_goto (tgt := 34) dX6_rest_8 rfl (j_iret dX6_rest_34 ?_))))
  exact hp

theorem q_rest_b {g : GT} {Z : ZT} {I : IT} {L : LT} {Post : PT} {t : Nat → Nat} {n : Nat} {c : CT} {w : Nat} {ρ : RT} {A : Nat × Nat × (Nat → RT)} {K : (Nat → RT) × (Nat → Bool)} {E : (Nat → Int32) × (Nat → Nat) × (Nat → Nat) × Nat} {sd : Int64} {k : Nat} {y : Int32} (hM : isM Z) (hs : MSt t n c w ρ A K E sd I L) (ho : OKs c w ρ A K E) (hk : k < 4) (hy : ∀ j, j < 16384 → y ≠ nI j) (hp : Post (some (.int (-2))) Z I L) : CM g 3 0 0 mX6_rest [.ref 198, .int (nI k), .int y] Z I L Post := by
  obtain ⟨m0, f0, f3, f6, f7, f10, f11, f12, f15, f16, f17, f18, f19, f22, f24, k199, l199, k200, l200, k201, l201, k202, l202, k203, l203, k204, l204, k205, l205, k206, l206, k207, l207, k208, l208, k209, l209, k210, l210, k211, l211, k212, l212⟩ := id hM
  have hMo : isMo Z := ⟨m0, f3, f6, f7, k200, l200, k201, l201, k202, l202⟩
  obtain ⟨sT, ⟨sC, s4, s8, s9⟩, sN, sA, sK, sE, sL, sZ⟩ := id hs
  obtain ⟨oC, oW, oN, oA, oK, oE⟩ := id ho
  refine CM_intro ?_
  refine j_iload_n 1 dX6_rest_0 rfl (j_S1 dX6_rest_1 kX6_183 (c_mIsOffset ⟨fun _ _ _ _ => ?_, fun h => absurd rfl (h k (Nat.zero_le _) (by omega))⟩))
  refine j_if_ne (tgt := 11) dX6_rest_4 rfl (fun _ => (j_iload_n 2 dX6_rest_11 rfl (j_i2l dX6_rest_12 (j_lconst (v := 0) dX6_rest_13 rfl (j_ldc2 (v := 16383) dX6_rest_14 (List.mem_of_getElem? (i := 902) (by decide +kernel)) (j_S3 dX6_rest_17 kX6_68 (c_inB 0 16383 (by decide) rfl rfl ⟨fun j hj0 hj e => absurd e (hy j (by omega)), fun _ => ?_⟩))))))) (fun h9 => absurd h9 (by decide))
  refine j_if_eq (tgt := 32) dX6_rest_20 rfl (fun _ => (j_bipush (v := -2) dX6_rest_32 rfl (j_iret dX6_rest_34 ?_))) (fun h9 => absurd (by decide) h9)
  exact hp

theorem q_mended_u {g : GT} {Z : ZT} {I : IT} {L : LT} {Post : PT} {t : Nat → Nat} {n : Nat} {c : CT} {w : Nat} {ρ : RT} {A : Nat × Nat × (Nat → RT)} {K : (Nat → RT) × (Nat → Bool)} {E : (Nat → Int32) × (Nat → Nat) × (Nat → Nat) × Nat} {sd : Int64} {x y : Int32} (hM : isM Z) (hs : MSt t n c w ρ A K E sd I L) (ho : OKs c w ρ A K E) (hx : ∀ j, j < 4 → x ≠ nI j) (hp : Post (some (.int (-1))) Z I L) : CM g 3 0 0 mX6_mended [.ref 198, .int x, .int y] Z I L Post := by
  obtain ⟨m0, f0, f3, f6, f7, f10, f11, f12, f15, f16, f17, f18, f19, f22, f24, k199, l199, k200, l200, k201, l201, k202, l202, k203, l203, k204, l204, k205, l205, k206, l206, k207, l207, k208, l208, k209, l209, k210, l210, k211, l211, k212, l212⟩ := id hM
  have hMo : isMo Z := ⟨m0, f3, f6, f7, k200, l200, k201, l201, k202, l202⟩
  obtain ⟨sT, ⟨sC, s4, s8, s9⟩, sN, sA, sK, sE, sL, sZ⟩ := id hs
  obtain ⟨oC, oW, oN, oA, oK, oE⟩ := id ho
  refine CM_intro ?_
  refine j_iload_n 1 dX6_mended_0 rfl (j_S1 dX6_mended_1 kX6_183 (c_mIsOffset ⟨fun j _ hj e => absurd e (hx j (by omega)), fun _ => ?_⟩))
  refine j_if_ne (tgt := 9) dX6_mended_4 rfl (fun h9 => absurd (by decide) h9) (fun _ => (j_iconst (v := -1) dX6_mended_7 rfl (j_iret dX6_mended_8 ?_)))
  exact hp

theorem q_mended_b {g : GT} {Z : ZT} {I : IT} {L : LT} {Post : PT} {t : Nat → Nat} {n : Nat} {c : CT} {w : Nat} {ρ : RT} {A : Nat × Nat × (Nat → RT)} {K : (Nat → RT) × (Nat → Bool)} {E : (Nat → Int32) × (Nat → Nat) × (Nat → Nat) × Nat} {sd : Int64} {k : Nat} {y : Int32} (hM : isM Z) (hs : MSt t n c w ρ A K E sd I L) (ho : OKs c w ρ A K E) (hk : k < 4) (hy : ∀ j, j < 16384 → y ≠ nI j) (hp : Post (some (.int (-2))) Z I L) : CM g 3 0 0 mX6_mended [.ref 198, .int (nI k), .int y] Z I L Post := by
  obtain ⟨m0, f0, f3, f6, f7, f10, f11, f12, f15, f16, f17, f18, f19, f22, f24, k199, l199, k200, l200, k201, l201, k202, l202, k203, l203, k204, l204, k205, l205, k206, l206, k207, l207, k208, l208, k209, l209, k210, l210, k211, l211, k212, l212⟩ := id hM
  have hMo : isMo Z := ⟨m0, f3, f6, f7, k200, l200, k201, l201, k202, l202⟩
  obtain ⟨sT, ⟨sC, s4, s8, s9⟩, sN, sA, sK, sE, sL, sZ⟩ := id hs
  obtain ⟨oC, oW, oN, oA, oK, oE⟩ := id ho
  refine CM_intro ?_
  refine j_iload_n 1 dX6_mended_0 rfl (j_S1 dX6_mended_1 kX6_183 (c_mIsOffset ⟨fun _ _ _ _ => ?_, fun h => absurd rfl (h k (Nat.zero_le _) (by omega))⟩))
  refine j_if_ne (tgt := 9) dX6_mended_4 rfl (fun _ => (j_iload_n 2 dX6_mended_9 rfl (j_i2l dX6_mended_10 (j_lconst (v := 0) dX6_mended_11 rfl (j_ldc2 (v := 16383) dX6_mended_12 (List.mem_of_getElem? (i := 902) (by decide +kernel)) (j_S3 dX6_mended_15 kX6_68 (c_inB 0 16383 (by decide) rfl rfl ⟨fun j hj0 hj e => absurd e (hy j (by omega)), fun _ => ?_⟩))))))) (fun h9 => absurd h9 (by decide))
  refine j_if_ne (tgt := 24) dX6_mended_18 rfl (fun h9 => absurd (by decide) h9) (fun _ => (j_bipush (v := -2) dX6_mended_21 rfl (j_iret dX6_mended_23 ?_)))
  exact hp

theorem q_mended {g : GT} {Z : ZT} {I : IT} {L : LT} {Post : PT} {t : Nat → Nat} {n : Nat} {c : CT} {w : Nat} {ρ : RT} {A : Nat × Nat × (Nat → RT)} {K : (Nat → RT) × (Nat → Bool)} {E : (Nat → Int32) × (Nat → Nat) × (Nat → Nat) × Nat} {sd : Int64} {k d : Nat} (hM : isM Z) (hs : MSt t n c w ρ A K E sd I L) (ho : OKs c w ρ A K E) (hk : k < 4) (hd : d < 16384) (hp : Post (some (.int (meI c k d))) Z I L) : CM g 3 0 0 mX6_mended [.ref 198, .int (nI k), .int (nI d)] Z I L Post := by
  obtain ⟨m0, f0, f3, f6, f7, f10, f11, f12, f15, f16, f17, f18, f19, f22, f24, k199, l199, k200, l200, k201, l201, k202, l202, k203, l203, k204, l204, k205, l205, k206, l206, k207, l207, k208, l208, k209, l209, k210, l210, k211, l211, k212, l212⟩ := id hM
  have hMo : isMo Z := ⟨m0, f3, f6, f7, k200, l200, k201, l201, k202, l202⟩
  obtain ⟨sT, ⟨sC, s4, s8, s9⟩, sN, sA, sK, sE, sL, sZ⟩ := id hs
  obtain ⟨oC, oW, oN, oA, oK, oE⟩ := id ho
  refine CM_intro ?_
  have hr : lfN c.1 (d ^^^ c.2.1 k) < 64 := lfN_lt oC.2.2.1 (xor_lt14 hd (Nat.lt_trans (oC.2.2.2.1 k hk) (by decide)))
  have hsr := oC.2.2.2.2 _ hr
  have hxs : d ^^^ c.2.2.2 (lfN c.1 (d ^^^ c.2.1 k)) < 16384 := xor_lt14 hd hsr
  refine j_iload_n 1 dX6_mended_0 rfl (j_S1 dX6_mended_1 kX6_183 (c_mIsOffset ⟨fun _ _ _ _ => ?_, fun h => absurd rfl (h k (Nat.zero_le _) (by omega))⟩))
  refine j_if_ne (tgt := 9) dX6_mended_4 rfl (fun _ => (j_iload_n 2 dX6_mended_9 rfl (j_i2l dX6_mended_10 (j_lconst (v := 0) dX6_mended_11 rfl (j_ldc2 (v := 16383) dX6_mended_12 (List.mem_of_getElem? (i := 902) (by decide +kernel)) (j_S3 dX6_mended_15 kX6_68 (c_inB 0 16383 (by decide) rfl rfl ⟨fun _ _ _ _ => ?_, fun h => absurd rfl (h d (by omega) (by omega))⟩))))))) (fun h9 => absurd h9 (by decide))
  refine j_if_ne (tgt := 24) dX6_mended_18 rfl (fun _ => (j_aload_n 0 dX6_mended_24 rfl (j_iload_n 1 dX6_mended_25 rfl (j_iload_n 2 dX6_mended_26 rfl (j_V2 dX6_mended_27 kX6_146 (by first | assumption | rfl) (c_mRest hMo sC hk hd ?_)))))) (fun h9 => absurd h9 (by decide))
  refine j_istore_n (lv' := [(3, _), (0, _), (1, _), (2, _)]) dX6_mended_30 rfl (j_aload_n 1 dX6_mended_31 rfl (j_iload_n 0 dX6_mended_32 rfl (j_V1 dX6_mended_33 kX6_150 (by first | assumption | rfl) (c_mSure hMo sC hr sC.s0 ?_))))
  refine j_istore (lv' := [(4, _), (3, _), (0, _), (1, _), (2, _)]) dX6_mended_36 rfl (j_iload_n 1 dX6_mended_38 rfl (j_if_eq (tgt := 52) dX6_mended_39 rfl (fun g1 => ?_) (fun g1 => ?_)))
  · have e0 : lfN c.1 (d ^^^ c.2.1 k) = 0 := nI_inj (b := 0) (by omega) (by decide) g1
    refine j_iload_n 4 dX6_mended_52 rfl (j_iload 0 dX6_mended_53 rfl (j_ixor dX6_mended_55 (j_bipush (v := 64) dX6_mended_56 rfl (j_idiv dX6_mended_58 (by decide) ?_))))
    unfold meI at hp
    rw [if_pos e0] at hp
    rw [fb_xorI, e0, sC.s0, Nat.xor_zero, show (64 : Int32) = nI 64 from rfl, divI (by omega) (by decide) (by decide)]
    refine j_iret dX6_mended_59 ?_
    exact hp
  · have e0 : lfN c.1 (d ^^^ c.2.1 k) ≠ 0 := fun z => g1 (by rw [z]; rfl)
    unfold meI at hp
    rw [if_neg e0] at hp
    refine j_iload 0 dX6_mended_42 rfl (j_if_ne (tgt := 52) dX6_mended_44 rfl (fun g2 => ?_) (fun g2 => ?_))
    · have e1 : c.2.2.2 (lfN c.1 (d ^^^ c.2.1 k)) ≠ 0 := fun z => g2 (by rw [z]; rfl)
      refine j_iload_n 4 dX6_mended_52 rfl (j_iload 0 dX6_mended_53 rfl (j_ixor dX6_mended_55 (j_bipush (v := 64) dX6_mended_56 rfl (j_idiv dX6_mended_58 (by decide) ?_))))
      rw [if_neg e1] at hp
      rw [fb_xorI, show (64 : Int32) = nI 64 from rfl, divI (by omega) (by decide) (by decide)]
      refine j_iret dX6_mended_59 ?_
      exact hp
    · have e1 : c.2.2.2 (lfN c.1 (d ^^^ c.2.1 k)) = 0 := nI_inj (b := 0) (by omega) (by decide) g2
      rw [if_pos e1] at hp
      refine j_bipush (v := -9) dX6_mended_47 rfl (j_goto (tgt := 59) dX6_mended_49 rfl (j_iret dX6_mended_59 ?_))
      exact hp

