theorem sh14 : ∀ k, k < 4 → (14 : Int32) * (3 - nI k) = nI (14 * (3 - k)) := by decide
def mxN (c : CT) (G : Int32) (t k : Nat) : Nat → Nat := fun j => if j < k then gwN c G t j else gwN c G 0 j
theorem mx_lt {c : CT} (oC : okC c) (G : Int32) (t k : Nat) : ∀ j, j < 4 → mxN c G t k j < 16384 := fun j hj => by
  unfold mxN
  split
  · exact gwN_lt oC.2.2.1 (oC.2.2.2.1 j hj)
  · exact gwN_lt oC.2.2.1 (oC.2.2.2.1 j hj)
theorem row4_c {u v : Nat → Nat} (h : ∀ j, j < 4 → u j = v j) : row4 u = row4 v := by
  unfold row4
  rw [h 0 (by decide), h 1 (by decide), h 2 (by decide), h 3 (by decide)]
theorem mx_y {c : CT} {G : Int32} {t k : Nat} (hb : t.testBit k = true) : row4 (tuU (mxN c G t k) k) = row4 (mxN c G t (k + 1)) := row4_c (fun j _ => by
  unfold tuU mxN
  by_cases e : j = k
  · subst e
    rw [if_pos rfl, if_neg (by omega), if_pos (by omega), gw0]
    unfold gwN
    rw [hb, if_pos rfl]
  · rw [if_neg e]
    by_cases h : j < k
    · rw [if_pos h, if_pos (by omega)]
    · rw [if_neg h, if_neg (by omega)])
theorem mx_n {c : CT} {G : Int32} {t k : Nat} (hb : t.testBit k = false) : row4 (mxN c G t k) = row4 (mxN c G t (k + 1)) := row4_c (fun j _ => by
  unfold mxN
  by_cases e : j = k
  · subst e
    rw [if_neg (by omega), if_pos (by omega), gw0]
    unfold gwN
    rw [hb]
    exact (Nat.xor_zero _).symm
  · by_cases h : j < k
    · rw [if_pos h, if_pos (by omega)]
    · rw [if_neg h, if_neg (by omega)])
theorem row4_lt {u : Nat → Nat} (h : ∀ j, j < 4 → u j < 16384) : row4 u < 2 ^ 56 := by
  have h0 := h 0 (by decide)
  have h1 := h 1 (by decide)
  have h2 := h 2 (by decide)
  have h3 := h 3 (by decide)
  unfold row4
  omega
theorem c_goodBehind {g : GT} {Z : ZT} {I : IT} {L : LT} {Post : PT} {ρ : RT} {c : CT} {G : Int32} {s : Nat} (hX : isX Z) (sC : CC I c) (oC : okC c) (sN : REC (vw I 8) ρ) (oN : OKz c ρ) (hs : s < 16) (hp : ∀ V', Post (some (.int (giT c G (15 - s) 3 ρ 10))) Z (wr I 135 V') L) : CM g 6 0 0 mX5_goodBehind [.ref 0, .int G, .int (nI s)] Z I L Post := by
  obtain ⟨x0, y0, y1, y2, y3, y4, y5, y6, y7, y8, y9, xT, xC, xN, xA, b1, b2, b3, b4, b5, b6, t1, t2, t3, t4, e1, e2, e3, e4, e5, e6⟩ := id hX
  have q1 := (t4 0 (by decide)).1
  have k2 := xC.1
  have hcc : ∀ V, CC (wr I 135 V) c := fun V => sC.fr (fun a _ _ => wr_n (by omega))
  refine CM_intro ?_
  have loop2 : ∀ (m k : Nat) (V : IT), k + m = 3 → REC V (giT c G (15 - s) k ρ) → JW g mX5_goodBehind (rmO 6 0 0) (QM Post 0 0) 56 [(6, .int (nI k)), (5, .ref 135), (3, .long (lN (row4 (gwN c G (15 - s))))), (0, .ref 0), (1, .int G), (2, .int (nI s))] [] 0 0 Z (wr I 135 V) L := by
    intro m
    induction m with
    | zero =>
      intro k V hk hV
      have : k = 3 := by omega
      subst this
      refine j_iload 0 dX5_goodBehind_56 rfl (j_iconst (v := 3) dX5_goodBehind_58 rfl (j_icmp_ge (tgt := 80) dX5_goodBehind_59 rfl (fun g1 => ?_) (fun g1 => ?_)))
      · refine j_aload 1 dX5_goodBehind_80 rfl (j_getI dX5_goodBehind_82 fX5_211 (by first | assumption | rfl) (j_iret dX5_goodBehind_85 ?_))
        rw [wr_0, show V 0 9 = _ from hV.1.2.2.2.2.2.2.2.1]
        exact hp V
      · exact absurd (by decide) g1
    | succ m ih =>
      intro k V hk hV
      have hlt := row4_lt (u := gwN c G (15 - s)) (fun j hj => gwN_lt oC.2.2.1 (oC.2.2.2.1 j hj))
      refine j_iload 0 dX5_goodBehind_56 rfl (j_iconst (v := 3) dX5_goodBehind_58 rfl (j_icmp_ge (tgt := 80) dX5_goodBehind_59 rfl (fun g1 => ?_) (fun g1 => ?_)))
      · exact absurd g1 (nI_ge (b := 3) (by omega) (by decide))
      · refine j_aload 1 dX5_goodBehind_62 rfl (j_aload_n 3 dX5_goodBehind_64 rfl (j_getR (b := 3) dX5_goodBehind_65 fX5_19 rfl (by first | assumption | rfl) (by first | assumption | rfl) (j_lload_n 2 dX5_goodBehind_68 rfl (j_bipush (v := 56) dX5_goodBehind_69 rfl (j_V3 dX5_goodBehind_71 kX5_204 (by first | assumption | rfl) (c_hears (n := 56) (t4 0 (by decide)) xC (hcc V) (by decide) (rec_wr hV) (oN.gt oC G _ k).1 (by decide) (by omega) (fun V2 hV2 => ?_)))))))
        rw [← rt_row4, hs_rt (k := 4) oC.2.2.1 oC.2.2.2.1 _ (by decide)] at hV2
        rw [wr_wr]
        refine j_iinc (y := 1) (lv' := [(6, _), (5, _), (3, _), (0, _), (1, _), (2, _)]) 0 dX5_goodBehind_74 rfl rfl rfl (j_goto (tgt := 56) dX5_goodBehind_77 rfl ?_)
        rw [nI_1]
        exact JW.locals [0, 1, 2, 3, 4, 5] rfl (ih (k + 1) V2 (by omega) hV2)
  have loop : ∀ (m k : Nat), k + m = 4 → JW g mX5_goodBehind (rmO 6 0 0) (QM Post 0 0) 12 [(5, .int (nI k)), (3, .long (lN (row4 (mxN c G (15 - s) k)))), (0, .ref 0), (1, .int G), (2, .int (nI s))] [] 0 0 Z I L := by
    intro m
    induction m with
    | zero =>
      intro k hk
      have : k = 4 := by omega
      subst this
      rw [row4_c (u := mxN c G (15 - s) 4) (v := gwN c G (15 - s)) (fun j hj => if_pos hj)]
      refine j_iload 0 dX5_goodBehind_12 rfl (j_iconst (v := 4) dX5_goodBehind_14 rfl (j_icmp_ge (tgt := 47) dX5_goodBehind_15 rfl (fun g1 => ?_) (fun g1 => ?_)))
      · refine j_aload_n 2 dX5_goodBehind_47 rfl (j_V0 dX5_goodBehind_48 kX5_228 (by first | assumption | rfl) (c_freshTrial hX sN oN.1.2.1 (fun V' hV' => ?_)))
        refine j_astore (lv' := [(5, _), (3, _), (0, _), (1, _), (2, _)]) dX5_goodBehind_51 rfl (j_iconst (v := 0) dX5_goodBehind_53 rfl (j_istore (lv' := [(6, _), (5, _), (3, _), (0, _), (1, _), (2, _)]) dX5_goodBehind_54 rfl ?_))
        exact JW.locals [0, 1, 2, 3, 4, 5] rfl (loop2 3 0 V' rfl hV')
      · exact absurd (by decide) g1
    | succ m ih =>
      intro k hk
      have hi := ih (k + 1) (by omega)
      have htb := tb15 s hs k (by omega)
      refine j_iload 0 dX5_goodBehind_12 rfl (j_iconst (v := 4) dX5_goodBehind_14 rfl (j_icmp_ge (tgt := 47) dX5_goodBehind_15 rfl (fun g1 => ?_) (fun g1 => ?_)))
      · exact absurd g1 (nI_ge (b := 4) (by omega) (by decide))
      · refine j_iload_n 4 dX5_goodBehind_18 rfl (j_iload 0 dX5_goodBehind_19 rfl (j_ishr dX5_goodBehind_21 (j_iconst (v := 1) dX5_goodBehind_22 rfl (j_iand dX5_goodBehind_23 ?_))))
        rw [shrI (by omega) (by omega), and1]
        refine j_if_ne (tgt := 41) dX5_goodBehind_24 rfl (fun g2 => ?_) (fun g2 => ?_)
        · rw [decide_eq_false (fun z => g2 (by rw [z]; rfl))] at htb
          rw [← mx_n htb] at hi
          refine j_iinc (y := 1) (lv' := [(5, _), (3, _), (0, _), (1, _), (2, _)]) 0 dX5_goodBehind_41 rfl rfl rfl (j_goto (tgt := 12) dX5_goodBehind_44 rfl ?_)
          rw [nI_1]
          exact JW.locals [0, 1, 2, 3, 4] rfl hi
        · rw [decide_eq_true (nI_inj (b := 0) (by omega) (by decide) g2)] at htb
          rw [← mx_y htb, ← xrow (mx_lt oC G _ k) (show k < 4 by omega)] at hi
          refine j_lload_n 1 dX5_goodBehind_27 rfl (j_ldc2 (v := 16383) dX5_goodBehind_28 (List.mem_of_getElem? (i := 666) (by decide +kernel)) (j_bipush (v := 14) dX5_goodBehind_31 rfl (j_iconst (v := 3) dX5_goodBehind_33 rfl (j_iload 0 dX5_goodBehind_34 rfl (j_isub dX5_goodBehind_36 (j_imul dX5_goodBehind_37 ?_))))))
          rw [sh14 k (by omega)]
          refine j_lshl dX5_goodBehind_38 (j_lxor dX5_goodBehind_39 ?_)
          rw [show (16383 : Int64) = lN 16383 from rfl, wb_shl _ (by omega), fb_xorL]
          refine j_lstore_n (lv' := [(3, _), (5, _), (0, _), (1, _), (2, _)]) dX5_goodBehind_40 rfl (j_iinc (y := 1) (lv' := [(5, _), (3, _), (0, _), (1, _), (2, _)]) 1 dX5_goodBehind_41 rfl rfl rfl (j_goto (tgt := 12) dX5_goodBehind_44 rfl ?_))
          rw [nI_1]
          exact JW.locals [0, 1, 2, 3, 4] rfl hi
  refine j_aload_n 0 dX5_goodBehind_0 rfl (j_getR (b := 3) dX5_goodBehind_1 fX5_19 rfl (by first | assumption | rfl) (by first | assumption | rfl) (j_iload_n 1 dX5_goodBehind_4 rfl (j_V1 dX5_goodBehind_5 kX5_232 (by first | assumption | rfl) (c_groupRow xC sC ?_))))
  rw [rt_row4, row4_c (u := gwN c G 0) (v := mxN c G (15 - s) 0) (fun j hj => (if_neg (Nat.not_lt_zero _)).symm)]
  refine j_lstore_n (lv' := [(3, _), (0, _), (1, _), (2, _)]) dX5_goodBehind_8 rfl (j_iconst (v := 0) dX5_goodBehind_9 rfl (j_istore (lv' := [(5, _), (3, _), (0, _), (1, _), (2, _)]) dX5_goodBehind_10 rfl ?_))
  exact JW.locals [0, 1, 2, 3, 4] rfl (loop 4 0 rfl)
