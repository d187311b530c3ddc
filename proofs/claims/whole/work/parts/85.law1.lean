theorem w_write {g : GT} {nm : String} {Qf : QF} {Z : ZT} {I : IT} {L : LT} {i : Nat} (hX : isX Z) (hM : isM Z) (hi : i + 5 ≤ g.2.1) (hg : g.2.1 < 2 ^ 31) (hs : RSt I L) (k : ∀ I' L', RSt I' L' → JW g (mLw nm) room_1 Qf 1205 [(3, .int (nI i)), (2, .ref 198), (1, .ref 0), (0, .ref 1001)] [] 213 2924 Z I' L') : JW g (mLw nm) room_1 Qf 180 [(3, .int (nI i)), (2, .ref 198), (1, .ref 0), (0, .ref 1001)] [] 213 2924 Z I L := by
  obtain ⟨t, n, c, w, ρ, A, K, E, sd, sc, sm, ho⟩ := hs
  have x0 := hX.1
  have m0 := hM.1
  by_cases h : ∃ l, l < 256 ∧ g.2.2 (i + 1) = nI l
  · obtain ⟨l, hl, e1⟩ := h
    by_cases hn : n < 40
    · skip
      refine j_aload_n 2 dL_law_180 rfl (j_aload_n 3 dL_law_181 rfl (j_iload_n 0 dL_law_182 rfl (j_iconst (v := 1) dL_law_183 rfl (j_iadd dL_law_184 (j_saload (i + 1) dL_law_185 (nI_add i 1) (by omega) (by omega) ?_)))))
      rw [e1]
      refine j_V1 dL_law_186 kL_13 (by first | assumption | rfl) (k_write hX sc ho hl hn (fun I1 c1 q1 => ?_))
      refine j_aload_n 1 dL_law_189 rfl (j_aload_n 3 dL_law_190 rfl (j_iload_n 0 dL_law_191 rfl (j_iconst (v := 1) dL_law_192 rfl (j_iadd dL_law_193 (j_saload (i + 1) dL_law_194 (nI_add i 1) (by omega) (by omega) ?_)))))
      rw [e1]
      refine j_V1 dL_law_195 kL_17 (by first | assumption | rfl) (q_write hM (sm.eqM q1 rfl) ho hl hn (fun I2 m2 q2 => ?_))
      refine j_icmp_eq (tgt := 1205) dL_law_198 rfl (fun gq => ?_) (fun gq => ?_)
      · exact k _ _ ⟨tU t n l, n + 1, c, w, ρ, A, K, E, sd, c1.eqC q2 rfl, m2, ho⟩
      · exact absurd rfl gq
    · have hn : n = 40 := by
        have := sc.1.1
        omega
      refine j_aload_n 2 dL_law_180 rfl (j_aload_n 3 dL_law_181 rfl (j_iload_n 0 dL_law_182 rfl (j_iconst (v := 1) dL_law_183 rfl (j_iadd dL_law_184 (j_saload (i + 1) dL_law_185 (nI_add i 1) (by omega) (by omega) ?_)))))
      rw [e1]
      refine j_V1 dL_law_186 kL_13 (by first | assumption | rfl) (k_write_f hX sc ho hl hn ?_)
      refine j_aload_n 1 dL_law_189 rfl (j_aload_n 3 dL_law_190 rfl (j_iload_n 0 dL_law_191 rfl (j_iconst (v := 1) dL_law_192 rfl (j_iadd dL_law_193 (j_saload (i + 1) dL_law_194 (nI_add i 1) (by omega) (by omega) ?_)))))
      rw [e1]
      refine j_V1 dL_law_195 kL_17 (by first | assumption | rfl) (q_write_f hM sm ho hl hn ?_)
      refine j_icmp_eq (tgt := 1205) dL_law_198 rfl (fun gq => ?_) (fun gq => ?_)
      · exact k _ _ ⟨t, n, c, w, ρ, A, K, E, sd, sc, sm, ho⟩
      · exact absurd rfl gq
  · have hx : ∀ j, j < 256 → g.2.2 (i + 1) ≠ nI j := fun j hj e => h ⟨j, hj, e⟩
    refine j_aload_n 2 dL_law_180 rfl (j_aload_n 3 dL_law_181 rfl (j_iload_n 0 dL_law_182 rfl (j_iconst (v := 1) dL_law_183 rfl (j_iadd dL_law_184 (j_saload (i + 1) dL_law_185 (nI_add i 1) (by omega) (by omega) ?_)))))
    refine j_V1 dL_law_186 kL_13 (by first | assumption | rfl) (k_write_b hX sc ho hx ?_)
    refine j_aload_n 1 dL_law_189 rfl (j_aload_n 3 dL_law_190 rfl (j_iload_n 0 dL_law_191 rfl (j_iconst (v := 1) dL_law_192 rfl (j_iadd dL_law_193 (j_saload (i + 1) dL_law_194 (nI_add i 1) (by omega) (by omega) ?_)))))
    refine j_V1 dL_law_195 kL_17 (by first | assumption | rfl) (q_write_b hM sm ho hx ?_)
    refine j_icmp_eq (tgt := 1205) dL_law_198 rfl (fun gq => ?_) (fun gq => ?_)
    · exact k _ _ ⟨t, n, c, w, ρ, A, K, E, sd, sc, sm, ho⟩
    · exact absurd rfl gq
theorem w_wipe {g : GT} {nm : String} {Qf : QF} {Z : ZT} {I : IT} {L : LT} {i : Nat} (hX : isX Z) (hM : isM Z) (hi : i + 5 ≤ g.2.1) (hg : g.2.1 < 2 ^ 31) (hs : RSt I L) (k : ∀ I' L', RSt I' L' → JW g (mLw nm) room_1 Qf 1205 [(3, .int (nI i)), (2, .ref 198), (1, .ref 0), (0, .ref 1001)] [] 213 2924 Z I' L') : JW g (mLw nm) room_1 Qf 203 [(3, .int (nI i)), (2, .ref 198), (1, .ref 0), (0, .ref 1001)] [] 213 2924 Z I L := by
  obtain ⟨t, n, c, w, ρ, A, K, E, sd, sc, sm, ho⟩ := hs
  have x0 := hX.1
  have m0 := hM.1
  refine j_aload_n 2 dL_law_203 rfl ?_
  refine j_V0 dL_law_204 kL_18 (by first | assumption | rfl) (k_wipe hX sc ho (fun I1 c1 q1 => ?_))
  refine j_aload_n 1 dL_law_207 rfl ?_
  refine j_V0 dL_law_208 kL_22 (by first | assumption | rfl) (q_wipe hM (sm.eqM q1 rfl) ho (fun I2 m2 q2 => ?_))
  refine j_icmp_eq (tgt := 1205) dL_law_211 rfl (fun gq => ?_) (fun gq => ?_)
  · exact k _ _ ⟨t, 0, c, w, ρ, A, K, E, sd, c1.eqC q2 rfl, m2, ho⟩
  · exact absurd rfl gq
theorem w_fault {g : GT} {nm : String} {Qf : QF} {Z : ZT} {I : IT} {L : LT} {i : Nat} (hX : isX Z) (hM : isM Z) (hi : i + 5 ≤ g.2.1) (hg : g.2.1 < 2 ^ 31) (hs : RSt I L) (k : ∀ I' L', RSt I' L' → JW g (mLw nm) room_1 Qf 1205 [(3, .int (nI i)), (2, .ref 198), (1, .ref 0), (0, .ref 1001)] [] 213 2924 Z I' L') : JW g (mLw nm) room_1 Qf 216 [(3, .int (nI i)), (2, .ref 198), (1, .ref 0), (0, .ref 1001)] [] 213 2924 Z I L := by
  obtain ⟨t, n, c, w, ρ, A, K, E, sd, sc, sm, ho⟩ := hs
  have x0 := hX.1
  have m0 := hM.1
  refine j_aload_n 2 dL_law_216 rfl ?_
  refine j_V0 dL_law_217 kL_23 (by first | assumption | rfl) (k_fault hX sc ho ?_)
  refine j_aload_n 1 dL_law_220 rfl ?_
  refine j_V0 dL_law_221 kL_26 (by first | assumption | rfl) (q_fault hM sm ho (fun I2 m2 q2 => ?_))
  refine j_icmp_eq (tgt := 1205) dL_law_224 rfl (fun gq => ?_) (fun gq => ?_)
  · exact k _ _ ⟨t, n, c, w, ρ, A, K, E, sd, sc.eqC q2 rfl, m2, ho⟩
  · exact absurd rfl gq
theorem w_station {g : GT} {nm : String} {Qf : QF} {Z : ZT} {I : IT} {L : LT} {i : Nat} (hX : isX Z) (hM : isM Z) (hi : i + 5 ≤ g.2.1) (hg : g.2.1 < 2 ^ 31) (hs : RSt I L) (k : ∀ I' L', RSt I' L' → JW g (mLw nm) room_1 Qf 1205 [(3, .int (nI i)), (2, .ref 198), (1, .ref 0), (0, .ref 1001)] [] 213 2924 Z I' L') : JW g (mLw nm) room_1 Qf 229 [(3, .int (nI i)), (2, .ref 198), (1, .ref 0), (0, .ref 1001)] [] 213 2924 Z I L := by
  obtain ⟨t, n, c, w, ρ, A, K, E, sd, sc, sm, ho⟩ := hs
  have x0 := hX.1
  have m0 := hM.1
  by_cases hf : fauF t n = -9
  · skip
    refine j_aload_n 2 dL_law_229 rfl ?_
    refine j_V0 dL_law_230 kL_27 (by first | assumption | rfl) (k_station hX sc ho hf (fun I1 c1 q1 => ?_))
    refine j_aload_n 1 dL_law_233 rfl ?_
    refine j_V0 dL_law_234 kL_30 (by first | assumption | rfl) (q_station hM (sm.eqM q1 rfl) ho hf (fun I2 m2 q2 => ?_))
    refine j_icmp_eq (tgt := 1205) dL_law_237 rfl (fun gq => ?_) (fun gq => ?_)
    · exact k _ _ ⟨t, n, stC t, t 11 - 48, fr0, (A.1, 0, A.2.2), (K.1, fun _ => false), E, sd, c1.eqC q2 rfl, m2, ho.sta hf⟩
    · exact absurd rfl gq
  · skip
    refine j_aload_n 2 dL_law_229 rfl ?_
    refine j_V0 dL_law_230 kL_27 (by first | assumption | rfl) (k_station_l hX sc ho hf ?_)
    refine j_aload_n 1 dL_law_233 rfl ?_
    refine j_V0 dL_law_234 kL_30 (by first | assumption | rfl) (q_station_l hM sm ho hf (fun I2 m2 q2 => ?_))
    refine j_icmp_eq (tgt := 1205) dL_law_237 rfl (fun gq => ?_) (fun gq => ?_)
    · exact k _ _ ⟨t, n, c, w, ρ, A, K, E, sd, sc.eqC q2 rfl, m2, ho⟩
    · exact absurd rfl gq
theorem w_about {g : GT} {nm : String} {Qf : QF} {Z : ZT} {I : IT} {L : LT} {i : Nat} (hX : isX Z) (hM : isM Z) (hi : i + 5 ≤ g.2.1) (hg : g.2.1 < 2 ^ 31) (hs : RSt I L) (k : ∀ I' L', RSt I' L' → JW g (mLw nm) room_1 Qf 1205 [(3, .int (nI i)), (2, .ref 198), (1, .ref 0), (0, .ref 1001)] [] 213 2924 Z I' L') : JW g (mLw nm) room_1 Qf 242 [(3, .int (nI i)), (2, .ref 198), (1, .ref 0), (0, .ref 1001)] [] 213 2924 Z I L := by
  obtain ⟨t, n, c, w, ρ, A, K, E, sd, sc, sm, ho⟩ := hs
  have x0 := hX.1
  have m0 := hM.1
  by_cases h : 0 ≤ (g.2.2 (i + 1)).toInt ∧ (g.2.2 (i + 1)).toInt ≤ 17
  · obtain ⟨j, -, hj, e1⟩ := bt_t (x := g.2.2 (i + 1)) (a := 0) (b := 17) (by decide) (by omega) (by omega)
    refine j_aload_n 2 dL_law_242 rfl (j_aload_n 3 dL_law_243 rfl (j_iload_n 0 dL_law_244 rfl (j_iconst (v := 1) dL_law_245 rfl (j_iadd dL_law_246 (j_saload (i + 1) dL_law_247 (nI_add i 1) (by omega) (by omega) ?_)))))
    rw [e1]
    refine j_V1 dL_law_248 kL_31 (by first | assumption | rfl) (k_about hX sc ho hj ?_)
    refine j_aload_n 1 dL_law_251 rfl (j_aload_n 3 dL_law_252 rfl (j_iload_n 0 dL_law_253 rfl (j_iconst (v := 1) dL_law_254 rfl (j_iadd dL_law_255 (j_saload (i + 1) dL_law_256 (nI_add i 1) (by omega) (by omega) ?_)))))
    rw [e1]
    refine j_V1 dL_law_257 kL_34 (by first | assumption | rfl) (q_about hM sm ho hj ?_)
    refine j_icmp_eq (tgt := 1205) dL_law_260 rfl (fun gq => ?_) (fun gq => ?_)
    · exact k _ _ ⟨t, n, c, w, ρ, A, K, E, sd, sc, sm, ho⟩
    · exact absurd rfl gq
  · have hx : (g.2.2 (i + 1)).toInt < 0 ∨ 17 < (g.2.2 (i + 1)).toInt := by omega
    refine j_aload_n 2 dL_law_242 rfl (j_aload_n 3 dL_law_243 rfl (j_iload_n 0 dL_law_244 rfl (j_iconst (v := 1) dL_law_245 rfl (j_iadd dL_law_246 (j_saload (i + 1) dL_law_247 (nI_add i 1) (by omega) (by omega) ?_)))))
    refine j_V1 dL_law_248 kL_31 (by first | assumption | rfl) (k_about_b hX sc ho hx ?_)
    refine j_aload_n 1 dL_law_251 rfl (j_aload_n 3 dL_law_252 rfl (j_iload_n 0 dL_law_253 rfl (j_iconst (v := 1) dL_law_254 rfl (j_iadd dL_law_255 (j_saload (i + 1) dL_law_256 (nI_add i 1) (by omega) (by omega) ?_)))))
    refine j_V1 dL_law_257 kL_34 (by first | assumption | rfl) (q_about_b hM sm ho hx ?_)
    refine j_icmp_eq (tgt := 1205) dL_law_260 rfl (fun gq => ?_) (fun gq => ?_)
    · exact k _ _ ⟨t, n, c, w, ρ, A, K, E, sd, sc, sm, ho⟩
    · exact absurd rfl gq
theorem w_told {g : GT} {nm : String} {Qf : QF} {Z : ZT} {I : IT} {L : LT} {i : Nat} (hX : isX Z) (hM : isM Z) (hi : i + 5 ≤ g.2.1) (hg : g.2.1 < 2 ^ 31) (hs : RSt I L) (k : ∀ I' L', RSt I' L' → JW g (mLw nm) room_1 Qf 1205 [(3, .int (nI i)), (2, .ref 198), (1, .ref 0), (0, .ref 1001)] [] 213 2924 Z I' L') : JW g (mLw nm) room_1 Qf 288 [(3, .int (nI i)), (2, .ref 198), (1, .ref 0), (0, .ref 1001)] [] 213 2924 Z I L := by
  obtain ⟨t, n, c, w, ρ, A, K, E, sd, sc, sm, ho⟩ := hs
  have x0 := hX.1
  have m0 := hM.1
  by_cases h : 0 ≤ (g.2.2 (i + 1)).toInt ∧ (g.2.2 (i + 1)).toInt ≤ 6
  · obtain ⟨j, -, hj, e1⟩ := bt_t (x := g.2.2 (i + 1)) (a := 0) (b := 6) (by decide) (by omega) (by omega)
    refine j_aload_n 2 dL_law_288 rfl (j_aload_n 3 dL_law_289 rfl (j_iload_n 0 dL_law_290 rfl (j_iconst (v := 1) dL_law_291 rfl (j_iadd dL_law_292 (j_saload (i + 1) dL_law_293 (nI_add i 1) (by omega) (by omega) ?_)))))
    rw [e1]
    refine j_V1 dL_law_294 kL_39 (by first | assumption | rfl) (k_told hX sc ho hj ?_)
    refine j_aload_n 1 dL_law_297 rfl (j_aload_n 3 dL_law_298 rfl (j_iload_n 0 dL_law_299 rfl (j_iconst (v := 1) dL_law_300 rfl (j_iadd dL_law_301 (j_saload (i + 1) dL_law_302 (nI_add i 1) (by omega) (by omega) ?_)))))
    rw [e1]
    refine j_V1 dL_law_303 kL_42 (by first | assumption | rfl) (q_told hM sm ho hj ?_)
    refine j_icmp_eq (tgt := 1205) dL_law_306 rfl (fun gq => ?_) (fun gq => ?_)
    · exact k _ _ ⟨t, n, c, w, ρ, A, K, E, sd, sc, sm, ho⟩
    · exact absurd rfl gq
  · have hx : (g.2.2 (i + 1)).toInt < 0 ∨ 6 < (g.2.2 (i + 1)).toInt := by omega
    refine j_aload_n 2 dL_law_288 rfl (j_aload_n 3 dL_law_289 rfl (j_iload_n 0 dL_law_290 rfl (j_iconst (v := 1) dL_law_291 rfl (j_iadd dL_law_292 (j_saload (i + 1) dL_law_293 (nI_add i 1) (by omega) (by omega) ?_)))))
    refine j_V1 dL_law_294 kL_39 (by first | assumption | rfl) (k_told_b hX sc ho hx ?_)
    refine j_aload_n 1 dL_law_297 rfl (j_aload_n 3 dL_law_298 rfl (j_iload_n 0 dL_law_299 rfl (j_iconst (v := 1) dL_law_300 rfl (j_iadd dL_law_301 (j_saload (i + 1) dL_law_302 (nI_add i 1) (by omega) (by omega) ?_)))))
    refine j_V1 dL_law_303 kL_42 (by first | assumption | rfl) (q_told_b hM sm ho hx ?_)
    refine j_icmp_eq (tgt := 1205) dL_law_306 rfl (fun gq => ?_) (fun gq => ?_)
    · exact k _ _ ⟨t, n, c, w, ρ, A, K, E, sd, sc, sm, ho⟩
    · exact absurd rfl gq
theorem w_offset {g : GT} {nm : String} {Qf : QF} {Z : ZT} {I : IT} {L : LT} {i : Nat} (hX : isX Z) (hM : isM Z) (hi : i + 5 ≤ g.2.1) (hg : g.2.1 < 2 ^ 31) (hs : RSt I L) (k : ∀ I' L', RSt I' L' → JW g (mLw nm) room_1 Qf 1205 [(3, .int (nI i)), (2, .ref 198), (1, .ref 0), (0, .ref 1001)] [] 213 2924 Z I' L') : JW g (mLw nm) room_1 Qf 265 [(3, .int (nI i)), (2, .ref 198), (1, .ref 0), (0, .ref 1001)] [] 213 2924 Z I L := by
  obtain ⟨t, n, c, w, ρ, A, K, E, sd, sc, sm, ho⟩ := hs
  have x0 := hX.1
  have m0 := hM.1
  by_cases h : ∃ j, j < 4 ∧ g.2.2 (i + 1) = nI j
  · obtain ⟨j, hj, e1⟩ := h
    refine j_aload_n 2 dL_law_265 rfl (j_aload_n 3 dL_law_266 rfl (j_iload_n 0 dL_law_267 rfl (j_iconst (v := 1) dL_law_268 rfl (j_iadd dL_law_269 (j_saload (i + 1) dL_law_270 (nI_add i 1) (by omega) (by omega) ?_)))))
    rw [e1]
    refine j_V1 dL_law_271 kL_35 (by first | assumption | rfl) (k_offset hX sc ho hj ?_)
    refine j_aload_n 1 dL_law_274 rfl (j_aload_n 3 dL_law_275 rfl (j_iload_n 0 dL_law_276 rfl (j_iconst (v := 1) dL_law_277 rfl (j_iadd dL_law_278 (j_saload (i + 1) dL_law_279 (nI_add i 1) (by omega) (by omega) ?_)))))
    rw [e1]
    refine j_V1 dL_law_280 kL_38 (by first | assumption | rfl) (q_offset hM sm ho hj ?_)
    refine j_icmp_eq (tgt := 1205) dL_law_283 rfl (fun gq => ?_) (fun gq => ?_)
    · exact k _ _ ⟨t, n, c, w, ρ, A, K, E, sd, sc, sm, ho⟩
    · exact absurd rfl gq
  · have hx : ∀ j, j < 4 → g.2.2 (i + 1) ≠ nI j := fun j hj e => h ⟨j, hj, e⟩
    refine j_aload_n 2 dL_law_265 rfl (j_aload_n 3 dL_law_266 rfl (j_iload_n 0 dL_law_267 rfl (j_iconst (v := 1) dL_law_268 rfl (j_iadd dL_law_269 (j_saload (i + 1) dL_law_270 (nI_add i 1) (by omega) (by omega) ?_)))))
    refine j_V1 dL_law_271 kL_35 (by first | assumption | rfl) (k_offset_u hX sc ho hx ?_)
    refine j_aload_n 1 dL_law_274 rfl (j_aload_n 3 dL_law_275 rfl (j_iload_n 0 dL_law_276 rfl (j_iconst (v := 1) dL_law_277 rfl (j_iadd dL_law_278 (j_saload (i + 1) dL_law_279 (nI_add i 1) (by omega) (by omega) ?_)))))
    refine j_V1 dL_law_280 kL_38 (by first | assumption | rfl) (q_offset_u hM sm ho hx ?_)
    refine j_icmp_eq (tgt := 1205) dL_law_283 rfl (fun gq => ?_) (fun gq => ?_)
    · exact k _ _ ⟨t, n, c, w, ρ, A, K, E, sd, sc, sm, ho⟩
    · exact absurd rfl gq
theorem w_part {g : GT} {nm : String} {Qf : QF} {Z : ZT} {I : IT} {L : LT} {i : Nat} (hX : isX Z) (hM : isM Z) (hi : i + 5 ≤ g.2.1) (hg : g.2.1 < 2 ^ 31) (hs : RSt I L) (k : ∀ I' L', RSt I' L' → JW g (mLw nm) room_1 Qf 1205 [(3, .int (nI i)), (2, .ref 198), (1, .ref 0), (0, .ref 1001)] [] 213 2924 Z I' L') : JW g (mLw nm) room_1 Qf 311 [(3, .int (nI i)), (2, .ref 198), (1, .ref 0), (0, .ref 1001)] [] 213 2924 Z I L := by
  obtain ⟨t, n, c, w, ρ, A, K, E, sd, sc, sm, ho⟩ := hs
  have x0 := hX.1
  have m0 := hM.1
  by_cases h : ∃ j, j < 4 ∧ g.2.2 (i + 1) = nI j
  · obtain ⟨j, hj, e1⟩ := h
    refine j_aload_n 2 dL_law_311 rfl (j_aload_n 3 dL_law_312 rfl (j_iload_n 0 dL_law_313 rfl (j_iconst (v := 1) dL_law_314 rfl (j_iadd dL_law_315 (j_saload (i + 1) dL_law_316 (nI_add i 1) (by omega) (by omega) ?_)))))
    rw [e1]
    refine j_V1 dL_law_317 kL_43 (by first | assumption | rfl) (k_part hX sc ho hj ?_)
    refine j_aload_n 1 dL_law_320 rfl (j_aload_n 3 dL_law_321 rfl (j_iload_n 0 dL_law_322 rfl (j_iconst (v := 1) dL_law_323 rfl (j_iadd dL_law_324 (j_saload (i + 1) dL_law_325 (nI_add i 1) (by omega) (by omega) ?_)))))
    rw [e1]
    refine j_V1 dL_law_326 kL_46 (by first | assumption | rfl) (q_part hM sm ho hj ?_)
    refine j_icmp_eq (tgt := 1205) dL_law_329 rfl (fun gq => ?_) (fun gq => ?_)
    · exact k _ _ ⟨t, n, c, w, ρ, A, K, E, sd, sc, sm, ho⟩
    · exact absurd rfl gq
  · have hx : ∀ j, j < 4 → g.2.2 (i + 1) ≠ nI j := fun j hj e => h ⟨j, hj, e⟩
    refine j_aload_n 2 dL_law_311 rfl (j_aload_n 3 dL_law_312 rfl (j_iload_n 0 dL_law_313 rfl (j_iconst (v := 1) dL_law_314 rfl (j_iadd dL_law_315 (j_saload (i + 1) dL_law_316 (nI_add i 1) (by omega) (by omega) ?_)))))
    refine j_V1 dL_law_317 kL_43 (by first | assumption | rfl) (k_part_u hX sc ho hx ?_)
    refine j_aload_n 1 dL_law_320 rfl (j_aload_n 3 dL_law_321 rfl (j_iload_n 0 dL_law_322 rfl (j_iconst (v := 1) dL_law_323 rfl (j_iadd dL_law_324 (j_saload (i + 1) dL_law_325 (nI_add i 1) (by omega) (by omega) ?_)))))
    refine j_V1 dL_law_326 kL_46 (by first | assumption | rfl) (q_part_u hM sm ho hx ?_)
    refine j_icmp_eq (tgt := 1205) dL_law_329 rfl (fun gq => ?_) (fun gq => ?_)
    · exact k _ _ ⟨t, n, c, w, ρ, A, K, E, sd, sc, sm, ho⟩
    · exact absurd rfl gq
theorem w_name {g : GT} {nm : String} {Qf : QF} {Z : ZT} {I : IT} {L : LT} {i : Nat} (hX : isX Z) (hM : isM Z) (hi : i + 5 ≤ g.2.1) (hg : g.2.1 < 2 ^ 31) (hs : RSt I L) (k : ∀ I' L', RSt I' L' → JW g (mLw nm) room_1 Qf 1205 [(3, .int (nI i)), (2, .ref 198), (1, .ref 0), (0, .ref 1001)] [] 213 2924 Z I' L') : JW g (mLw nm) room_1 Qf 334 [(3, .int (nI i)), (2, .ref 198), (1, .ref 0), (0, .ref 1001)] [] 213 2924 Z I L := by
  obtain ⟨t, n, c, w, ρ, A, K, E, sd, sc, sm, ho⟩ := hs
  have x0 := hX.1
  have m0 := hM.1
  by_cases hb : g.2.2 (i + 2) = 0
  · by_cases h : ∃ j, j < 4 ∧ g.2.2 (i + 1) = nI j
    · obtain ⟨j, hj, e1⟩ := h
      refine j_aload_n 2 dL_law_334 rfl (j_aload_n 3 dL_law_335 rfl (j_iload_n 0 dL_law_336 rfl (j_iconst (v := 1) dL_law_337 rfl (j_iadd dL_law_338 (j_saload (i + 1) dL_law_339 (nI_add i 1) (by omega) (by omega) (j_aload_n 3 dL_law_340 rfl (j_iload_n 0 dL_law_341 rfl (j_iconst (v := 2) dL_law_342 rfl (j_iadd dL_law_343 (j_saload (i + 2) dL_law_344 (nI_add i 2) (by omega) (by omega) (j_if_eq (tgt := 352) dL_law_345 rfl (fun gb => ?_) (fun gb => ?_))))))))))))
      rotate_left
      · exact absurd hb gb
      refine j_iconst (v := 0) dL_law_352 rfl ?_
      rw [e1]
      refine j_V2 dL_law_353 kL_47 (by first | assumption | rfl) (k_name hX sc ho hj ?_)
      refine j_aload_n 1 dL_law_356 rfl (j_aload_n 3 dL_law_357 rfl (j_iload_n 0 dL_law_358 rfl (j_iconst (v := 1) dL_law_359 rfl (j_iadd dL_law_360 (j_saload (i + 1) dL_law_361 (nI_add i 1) (by omega) (by omega) (j_aload_n 3 dL_law_362 rfl (j_iload_n 0 dL_law_363 rfl (j_iconst (v := 2) dL_law_364 rfl (j_iadd dL_law_365 (j_saload (i + 2) dL_law_366 (nI_add i 2) (by omega) (by omega) (j_if_eq (tgt := 374) dL_law_367 rfl (fun gb => ?_) (fun gb => ?_))))))))))))
      rotate_left
      · exact absurd hb gb
      refine j_iconst (v := 0) dL_law_374 rfl ?_
      rw [e1]
      refine j_V2 dL_law_375 kL_51 (by first | assumption | rfl) (q_name hM sm ho hj ?_)
      refine j_icmp_eq (tgt := 1205) dL_law_378 rfl (fun gq => ?_) (fun gq => ?_)
      · exact k _ _ ⟨t, n, c, w, ρ, A, K, E, sd, sc, sm, ho⟩
      · exact absurd rfl gq
    · have hx : ∀ j, j < 4 → g.2.2 (i + 1) ≠ nI j := fun j hj e => h ⟨j, hj, e⟩
      refine j_aload_n 2 dL_law_334 rfl (j_aload_n 3 dL_law_335 rfl (j_iload_n 0 dL_law_336 rfl (j_iconst (v := 1) dL_law_337 rfl (j_iadd dL_law_338 (j_saload (i + 1) dL_law_339 (nI_add i 1) (by omega) (by omega) (j_aload_n 3 dL_law_340 rfl (j_iload_n 0 dL_law_341 rfl (j_iconst (v := 2) dL_law_342 rfl (j_iadd dL_law_343 (j_saload (i + 2) dL_law_344 (nI_add i 2) (by omega) (by omega) (j_if_eq (tgt := 352) dL_law_345 rfl (fun gb => ?_) (fun gb => ?_))))))))))))
      rotate_left
      · exact absurd hb gb
      refine j_iconst (v := 0) dL_law_352 rfl ?_
      refine j_V2 dL_law_353 kL_47 (by first | assumption | rfl) (k_name_u hX sc ho hx ?_)
      refine j_aload_n 1 dL_law_356 rfl (j_aload_n 3 dL_law_357 rfl (j_iload_n 0 dL_law_358 rfl (j_iconst (v := 1) dL_law_359 rfl (j_iadd dL_law_360 (j_saload (i + 1) dL_law_361 (nI_add i 1) (by omega) (by omega) (j_aload_n 3 dL_law_362 rfl (j_iload_n 0 dL_law_363 rfl (j_iconst (v := 2) dL_law_364 rfl (j_iadd dL_law_365 (j_saload (i + 2) dL_law_366 (nI_add i 2) (by omega) (by omega) (j_if_eq (tgt := 374) dL_law_367 rfl (fun gb => ?_) (fun gb => ?_))))))))))))
      rotate_left
      · exact absurd hb gb
      refine j_iconst (v := 0) dL_law_374 rfl ?_
      refine j_V2 dL_law_375 kL_51 (by first | assumption | rfl) (q_name_u hM sm ho hx ?_)
      refine j_icmp_eq (tgt := 1205) dL_law_378 rfl (fun gq => ?_) (fun gq => ?_)
      · exact k _ _ ⟨t, n, c, w, ρ, A, K, E, sd, sc, sm, ho⟩
      · exact absurd rfl gq
  · by_cases h : ∃ j, j < 4 ∧ g.2.2 (i + 1) = nI j
    · obtain ⟨j, hj, e1⟩ := h
      refine j_aload_n 2 dL_law_334 rfl (j_aload_n 3 dL_law_335 rfl (j_iload_n 0 dL_law_336 rfl (j_iconst (v := 1) dL_law_337 rfl (j_iadd dL_law_338 (j_saload (i + 1) dL_law_339 (nI_add i 1) (by omega) (by omega) (j_aload_n 3 dL_law_340 rfl (j_iload_n 0 dL_law_341 rfl (j_iconst (v := 2) dL_law_342 rfl (j_iadd dL_law_343 (j_saload (i + 2) dL_law_344 (nI_add i 2) (by omega) (by omega) (j_if_eq (tgt := 352) dL_law_345 rfl (fun gb => ?_) (fun gb => ?_))))))))))))
      · exact absurd gb hb
      refine j_iconst (v := 1) dL_law_348 rfl (j_goto (tgt := 353) dL_law_349 rfl ?_)
      rw [e1]
      refine j_V2 dL_law_353 kL_47 (by first | assumption | rfl) (k_name hX sc ho hj ?_)
      refine j_aload_n 1 dL_law_356 rfl (j_aload_n 3 dL_law_357 rfl (j_iload_n 0 dL_law_358 rfl (j_iconst (v := 1) dL_law_359 rfl (j_iadd dL_law_360 (j_saload (i + 1) dL_law_361 (nI_add i 1) (by omega) (by omega) (j_aload_n 3 dL_law_362 rfl (j_iload_n 0 dL_law_363 rfl (j_iconst (v := 2) dL_law_364 rfl (j_iadd dL_law_365 (j_saload (i + 2) dL_law_366 (nI_add i 2) (by omega) (by omega) (j_if_eq (tgt := 374) dL_law_367 rfl (fun gb => ?_) (fun gb => ?_))))))))))))
      · exact absurd gb hb
      refine j_iconst (v := 1) dL_law_370 rfl (j_goto (tgt := 375) dL_law_371 rfl ?_)
      rw [e1]
      refine j_V2 dL_law_375 kL_51 (by first | assumption | rfl) (q_name hM sm ho hj ?_)
      refine j_icmp_eq (tgt := 1205) dL_law_378 rfl (fun gq => ?_) (fun gq => ?_)
      · exact k _ _ ⟨t, n, c, w, ρ, A, K, E, sd, sc, sm, ho⟩
      · exact absurd rfl gq
    · have hx : ∀ j, j < 4 → g.2.2 (i + 1) ≠ nI j := fun j hj e => h ⟨j, hj, e⟩
      refine j_aload_n 2 dL_law_334 rfl (j_aload_n 3 dL_law_335 rfl (j_iload_n 0 dL_law_336 rfl (j_iconst (v := 1) dL_law_337 rfl (j_iadd dL_law_338 (j_saload (i + 1) dL_law_339 (nI_add i 1) (by omega) (by omega) (j_aload_n 3 dL_law_340 rfl (j_iload_n 0 dL_law_341 rfl (j_iconst (v := 2) dL_law_342 rfl (j_iadd dL_law_343 (j_saload (i + 2) dL_law_344 (nI_add i 2) (by omega) (by omega) (j_if_eq (tgt := 352) dL_law_345 rfl (fun gb => ?_) (fun gb => ?_))))))))))))
      · exact absurd gb hb
      refine j_iconst (v := 1) dL_law_348 rfl (j_goto (tgt := 353) dL_law_349 rfl ?_)
      refine j_V2 dL_law_353 kL_47 (by first | assumption | rfl) (k_name_u hX sc ho hx ?_)
      refine j_aload_n 1 dL_law_356 rfl (j_aload_n 3 dL_law_357 rfl (j_iload_n 0 dL_law_358 rfl (j_iconst (v := 1) dL_law_359 rfl (j_iadd dL_law_360 (j_saload (i + 1) dL_law_361 (nI_add i 1) (by omega) (by omega) (j_aload_n 3 dL_law_362 rfl (j_iload_n 0 dL_law_363 rfl (j_iconst (v := 2) dL_law_364 rfl (j_iadd dL_law_365 (j_saload (i + 2) dL_law_366 (nI_add i 2) (by omega) (by omega) (j_if_eq (tgt := 374) dL_law_367 rfl (fun gb => ?_) (fun gb => ?_))))))))))))
      · exact absurd gb hb
      refine j_iconst (v := 1) dL_law_370 rfl (j_goto (tgt := 375) dL_law_371 rfl ?_)
      refine j_V2 dL_law_375 kL_51 (by first | assumption | rfl) (q_name_u hM sm ho hx ?_)
      refine j_icmp_eq (tgt := 1205) dL_law_378 rfl (fun gq => ?_) (fun gq => ?_)
      · exact k _ _ ⟨t, n, c, w, ρ, A, K, E, sd, sc, sm, ho⟩
      · exact absurd rfl gq
theorem w_list {g : GT} {nm : String} {Qf : QF} {Z : ZT} {I : IT} {L : LT} {i : Nat} (hX : isX Z) (hM : isM Z) (hi : i + 5 ≤ g.2.1) (hg : g.2.1 < 2 ^ 31) (hs : RSt I L) (k : ∀ I' L', RSt I' L' → JW g (mLw nm) room_1 Qf 1205 [(3, .int (nI i)), (2, .ref 198), (1, .ref 0), (0, .ref 1001)] [] 213 2924 Z I' L') : JW g (mLw nm) room_1 Qf 383 [(3, .int (nI i)), (2, .ref 198), (1, .ref 0), (0, .ref 1001)] [] 213 2924 Z I L := by
  obtain ⟨t, n, c, w, ρ, A, K, E, sd, sc, sm, ho⟩ := hs
  have x0 := hX.1
  have m0 := hM.1
  obtain ⟨m, h8, e30, ht, hd⟩ := ho.2.2.1.1.2.2.2.2.2.2.2.2
  by_cases hb : g.2.2 (i + 2) = 0
  · skip
    refine j_aload_n 2 dL_law_383 rfl (j_aload_n 3 dL_law_384 rfl (j_iload_n 0 dL_law_385 rfl (j_iconst (v := 1) dL_law_386 rfl (j_iadd dL_law_387 (j_saload (i + 1) dL_law_388 (nI_add i 1) (by omega) (by omega) (j_aload_n 3 dL_law_389 rfl (j_iload_n 0 dL_law_390 rfl (j_iconst (v := 2) dL_law_391 rfl (j_iadd dL_law_392 (j_saload (i + 2) dL_law_393 (nI_add i 2) (by omega) (by omega) (j_if_eq (tgt := 401) dL_law_394 rfl (fun gb => ?_) (fun gb => ?_))))))))))))
    rotate_left
    · exact absurd hb gb
    refine j_iconst (v := 0) dL_law_401 rfl ?_
    refine j_V2 dL_law_402 kL_52 (by first | assumption | rfl) (k_list hX sc ho e30 h8 (fun q hq hxq => ?_) (fun hno => ?_))
    · skip
      refine j_aload_n 1 dL_law_405 rfl (j_aload_n 3 dL_law_406 rfl (j_iload_n 0 dL_law_407 rfl (j_iconst (v := 1) dL_law_408 rfl (j_iadd dL_law_409 (j_saload (i + 1) dL_law_410 (nI_add i 1) (by omega) (by omega) (j_aload_n 3 dL_law_411 rfl (j_iload_n 0 dL_law_412 rfl (j_iconst (v := 2) dL_law_413 rfl (j_iadd dL_law_414 (j_saload (i + 2) dL_law_415 (nI_add i 2) (by omega) (by omega) (j_if_eq (tgt := 423) dL_law_416 rfl (fun gb => ?_) (fun gb => ?_))))))))))))
      rotate_left
      · exact absurd hb gb
      refine j_iconst (v := 0) dL_law_423 rfl ?_
      refine j_V2 dL_law_424 kL_55 (by first | assumption | rfl) (q_list hM sm ho e30 h8 ?_)
      rw [li_of h8 hd hq hxq m hq (Nat.le_refl m)]
      refine j_icmp_eq (tgt := 1205) dL_law_427 rfl (fun gq => ?_) (fun gq => ?_)
      · exact k _ _ ⟨t, n, c, w, ρ, A, K, E, sd, sc, sm, ho⟩
      · exact absurd rfl gq
    · skip
      refine j_aload_n 1 dL_law_405 rfl (j_aload_n 3 dL_law_406 rfl (j_iload_n 0 dL_law_407 rfl (j_iconst (v := 1) dL_law_408 rfl (j_iadd dL_law_409 (j_saload (i + 1) dL_law_410 (nI_add i 1) (by omega) (by omega) (j_aload_n 3 dL_law_411 rfl (j_iload_n 0 dL_law_412 rfl (j_iconst (v := 2) dL_law_413 rfl (j_iadd dL_law_414 (j_saload (i + 2) dL_law_415 (nI_add i 2) (by omega) (by omega) (j_if_eq (tgt := 423) dL_law_416 rfl (fun gb => ?_) (fun gb => ?_))))))))))))
      rotate_left
      · exact absurd hb gb
      refine j_iconst (v := 0) dL_law_423 rfl ?_
      refine j_V2 dL_law_424 kL_55 (by first | assumption | rfl) (q_list hM sm ho e30 h8 ?_)
      rw [li_no m hno]
      refine j_icmp_eq (tgt := 1205) dL_law_427 rfl (fun gq => ?_) (fun gq => ?_)
      · exact k _ _ ⟨t, n, c, w, ρ, A, K, E, sd, sc, sm, ho⟩
      · exact absurd rfl gq
  · skip
    refine j_aload_n 2 dL_law_383 rfl (j_aload_n 3 dL_law_384 rfl (j_iload_n 0 dL_law_385 rfl (j_iconst (v := 1) dL_law_386 rfl (j_iadd dL_law_387 (j_saload (i + 1) dL_law_388 (nI_add i 1) (by omega) (by omega) (j_aload_n 3 dL_law_389 rfl (j_iload_n 0 dL_law_390 rfl (j_iconst (v := 2) dL_law_391 rfl (j_iadd dL_law_392 (j_saload (i + 2) dL_law_393 (nI_add i 2) (by omega) (by omega) (j_if_eq (tgt := 401) dL_law_394 rfl (fun gb => ?_) (fun gb => ?_))))))))))))
    · exact absurd gb hb
    refine j_iconst (v := 1) dL_law_397 rfl (j_goto (tgt := 402) dL_law_398 rfl ?_)
    refine j_V2 dL_law_402 kL_52 (by first | assumption | rfl) (k_list hX sc ho e30 h8 (fun q hq hxq => ?_) (fun hno => ?_))
    · skip
      refine j_aload_n 1 dL_law_405 rfl (j_aload_n 3 dL_law_406 rfl (j_iload_n 0 dL_law_407 rfl (j_iconst (v := 1) dL_law_408 rfl (j_iadd dL_law_409 (j_saload (i + 1) dL_law_410 (nI_add i 1) (by omega) (by omega) (j_aload_n 3 dL_law_411 rfl (j_iload_n 0 dL_law_412 rfl (j_iconst (v := 2) dL_law_413 rfl (j_iadd dL_law_414 (j_saload (i + 2) dL_law_415 (nI_add i 2) (by omega) (by omega) (j_if_eq (tgt := 423) dL_law_416 rfl (fun gb => ?_) (fun gb => ?_))))))))))))
      · exact absurd gb hb
      refine j_iconst (v := 1) dL_law_419 rfl (j_goto (tgt := 424) dL_law_420 rfl ?_)
      refine j_V2 dL_law_424 kL_55 (by first | assumption | rfl) (q_list hM sm ho e30 h8 ?_)
      rw [li_of h8 hd hq hxq m hq (Nat.le_refl m)]
      refine j_icmp_eq (tgt := 1205) dL_law_427 rfl (fun gq => ?_) (fun gq => ?_)
      · exact k _ _ ⟨t, n, c, w, ρ, A, K, E, sd, sc, sm, ho⟩
      · exact absurd rfl gq
    · skip
      refine j_aload_n 1 dL_law_405 rfl (j_aload_n 3 dL_law_406 rfl (j_iload_n 0 dL_law_407 rfl (j_iconst (v := 1) dL_law_408 rfl (j_iadd dL_law_409 (j_saload (i + 1) dL_law_410 (nI_add i 1) (by omega) (by omega) (j_aload_n 3 dL_law_411 rfl (j_iload_n 0 dL_law_412 rfl (j_iconst (v := 2) dL_law_413 rfl (j_iadd dL_law_414 (j_saload (i + 2) dL_law_415 (nI_add i 2) (by omega) (by omega) (j_if_eq (tgt := 423) dL_law_416 rfl (fun gb => ?_) (fun gb => ?_))))))))))))
      · exact absurd gb hb
      refine j_iconst (v := 1) dL_law_419 rfl (j_goto (tgt := 424) dL_law_420 rfl ?_)
      refine j_V2 dL_law_424 kL_55 (by first | assumption | rfl) (q_list hM sm ho e30 h8 ?_)
      rw [li_no m hno]
      refine j_icmp_eq (tgt := 1205) dL_law_427 rfl (fun gq => ?_) (fun gq => ?_)
      · exact k _ _ ⟨t, n, c, w, ρ, A, K, E, sd, sc, sm, ho⟩
      · exact absurd rfl gq
theorem w_word {g : GT} {nm : String} {Qf : QF} {Z : ZT} {I : IT} {L : LT} {i : Nat} (hX : isX Z) (hM : isM Z) (hi : i + 5 ≤ g.2.1) (hg : g.2.1 < 2 ^ 31) (hs : RSt I L) (k : ∀ I' L', RSt I' L' → JW g (mLw nm) room_1 Qf 1205 [(3, .int (nI i)), (2, .ref 198), (1, .ref 0), (0, .ref 1001)] [] 213 2924 Z I' L') : JW g (mLw nm) room_1 Qf 432 [(3, .int (nI i)), (2, .ref 198), (1, .ref 0), (0, .ref 1001)] [] 213 2924 Z I L := by
  obtain ⟨t, n, c, w, ρ, A, K, E, sd, sc, sm, ho⟩ := hs
  have x0 := hX.1
  have m0 := hM.1
  by_cases h : ∃ j, j < 4 ∧ g.2.2 (i + 1) = nI j
  · obtain ⟨j, hj, e1⟩ := h
    by_cases h2 : ∃ d, d < 256 ∧ g.2.2 (i + 2) = nI d
    · obtain ⟨d, hd, e2⟩ := h2
      refine j_aload_n 2 dL_law_432 rfl (j_aload_n 3 dL_law_433 rfl (j_iload_n 0 dL_law_434 rfl (j_iconst (v := 1) dL_law_435 rfl (j_iadd dL_law_436 (j_saload (i + 1) dL_law_437 (nI_add i 1) (by omega) (by omega) (j_aload_n 3 dL_law_438 rfl (j_iload_n 0 dL_law_439 rfl (j_iconst (v := 2) dL_law_440 rfl (j_iadd dL_law_441 (j_saload (i + 2) dL_law_442 (nI_add i 2) (by omega) (by omega) ?_))))))))))
      rw [e1, e2]
      refine j_V2 dL_law_443 kL_56 (by first | assumption | rfl) (k_word hX sc ho hj hd ?_)
      refine j_aload_n 1 dL_law_446 rfl (j_aload_n 3 dL_law_447 rfl (j_iload_n 0 dL_law_448 rfl (j_iconst (v := 1) dL_law_449 rfl (j_iadd dL_law_450 (j_saload (i + 1) dL_law_451 (nI_add i 1) (by omega) (by omega) (j_aload_n 3 dL_law_452 rfl (j_iload_n 0 dL_law_453 rfl (j_iconst (v := 2) dL_law_454 rfl (j_iadd dL_law_455 (j_saload (i + 2) dL_law_456 (nI_add i 2) (by omega) (by omega) ?_))))))))))
      rw [e1, e2]
      refine j_V2 dL_law_457 kL_60 (by first | assumption | rfl) (q_word hM sm ho hj hd ?_)
      refine j_icmp_eq (tgt := 1205) dL_law_460 rfl (fun gq => ?_) (fun gq => ?_)
      · exact k _ _ ⟨t, n, c, w, ρ, A, K, E, sd, sc, sm, ho⟩
      · exact absurd rfl gq
    · have hy : ∀ j, j < 256 → g.2.2 (i + 2) ≠ nI j := fun j hj e => h2 ⟨j, hj, e⟩
      refine j_aload_n 2 dL_law_432 rfl (j_aload_n 3 dL_law_433 rfl (j_iload_n 0 dL_law_434 rfl (j_iconst (v := 1) dL_law_435 rfl (j_iadd dL_law_436 (j_saload (i + 1) dL_law_437 (nI_add i 1) (by omega) (by omega) (j_aload_n 3 dL_law_438 rfl (j_iload_n 0 dL_law_439 rfl (j_iconst (v := 2) dL_law_440 rfl (j_iadd dL_law_441 (j_saload (i + 2) dL_law_442 (nI_add i 2) (by omega) (by omega) ?_))))))))))
      rw [e1]
      refine j_V2 dL_law_443 kL_56 (by first | assumption | rfl) (k_word_b hX sc ho hj hy ?_)
      refine j_aload_n 1 dL_law_446 rfl (j_aload_n 3 dL_law_447 rfl (j_iload_n 0 dL_law_448 rfl (j_iconst (v := 1) dL_law_449 rfl (j_iadd dL_law_450 (j_saload (i + 1) dL_law_451 (nI_add i 1) (by omega) (by omega) (j_aload_n 3 dL_law_452 rfl (j_iload_n 0 dL_law_453 rfl (j_iconst (v := 2) dL_law_454 rfl (j_iadd dL_law_455 (j_saload (i + 2) dL_law_456 (nI_add i 2) (by omega) (by omega) ?_))))))))))
      rw [e1]
      refine j_V2 dL_law_457 kL_60 (by first | assumption | rfl) (q_word_b hM sm ho hj hy ?_)
      refine j_icmp_eq (tgt := 1205) dL_law_460 rfl (fun gq => ?_) (fun gq => ?_)
      · exact k _ _ ⟨t, n, c, w, ρ, A, K, E, sd, sc, sm, ho⟩
      · exact absurd rfl gq
  · have hx : ∀ j, j < 4 → g.2.2 (i + 1) ≠ nI j := fun j hj e => h ⟨j, hj, e⟩
    refine j_aload_n 2 dL_law_432 rfl (j_aload_n 3 dL_law_433 rfl (j_iload_n 0 dL_law_434 rfl (j_iconst (v := 1) dL_law_435 rfl (j_iadd dL_law_436 (j_saload (i + 1) dL_law_437 (nI_add i 1) (by omega) (by omega) (j_aload_n 3 dL_law_438 rfl (j_iload_n 0 dL_law_439 rfl (j_iconst (v := 2) dL_law_440 rfl (j_iadd dL_law_441 (j_saload (i + 2) dL_law_442 (nI_add i 2) (by omega) (by omega) ?_))))))))))
    refine j_V2 dL_law_443 kL_56 (by first | assumption | rfl) (k_word_u hX sc ho hx ?_)
    refine j_aload_n 1 dL_law_446 rfl (j_aload_n 3 dL_law_447 rfl (j_iload_n 0 dL_law_448 rfl (j_iconst (v := 1) dL_law_449 rfl (j_iadd dL_law_450 (j_saload (i + 1) dL_law_451 (nI_add i 1) (by omega) (by omega) (j_aload_n 3 dL_law_452 rfl (j_iload_n 0 dL_law_453 rfl (j_iconst (v := 2) dL_law_454 rfl (j_iadd dL_law_455 (j_saload (i + 2) dL_law_456 (nI_add i 2) (by omega) (by omega) ?_))))))))))
    refine j_V2 dL_law_457 kL_60 (by first | assumption | rfl) (q_word_u hM sm ho hx ?_)
    refine j_icmp_eq (tgt := 1205) dL_law_460 rfl (fun gq => ?_) (fun gq => ?_)
    · exact k _ _ ⟨t, n, c, w, ρ, A, K, E, sd, sc, sm, ho⟩
    · exact absurd rfl gq
theorem w_rest {g : GT} {nm : String} {Qf : QF} {Z : ZT} {I : IT} {L : LT} {i : Nat} (hX : isX Z) (hM : isM Z) (hi : i + 5 ≤ g.2.1) (hg : g.2.1 < 2 ^ 31) (hs : RSt I L) (k : ∀ I' L', RSt I' L' → JW g (mLw nm) room_1 Qf 1205 [(3, .int (nI i)), (2, .ref 198), (1, .ref 0), (0, .ref 1001)] [] 213 2924 Z I' L') : JW g (mLw nm) room_1 Qf 465 [(3, .int (nI i)), (2, .ref 198), (1, .ref 0), (0, .ref 1001)] [] 213 2924 Z I L := by
  obtain ⟨t, n, c, w, ρ, A, K, E, sd, sc, sm, ho⟩ := hs
  have x0 := hX.1
  have m0 := hM.1
  by_cases h : ∃ j, j < 4 ∧ g.2.2 (i + 1) = nI j
  · obtain ⟨j, hj, e1⟩ := h
    by_cases h2 : ∃ d, d < 16384 ∧ g.2.2 (i + 2) = nI d
    · obtain ⟨d, hd, e2⟩ := h2
      refine j_aload_n 2 dL_law_465 rfl (j_aload_n 3 dL_law_466 rfl (j_iload_n 0 dL_law_467 rfl (j_iconst (v := 1) dL_law_468 rfl (j_iadd dL_law_469 (j_saload (i + 1) dL_law_470 (nI_add i 1) (by omega) (by omega) (j_aload_n 3 dL_law_471 rfl (j_iload_n 0 dL_law_472 rfl (j_iconst (v := 2) dL_law_473 rfl (j_iadd dL_law_474 (j_saload (i + 2) dL_law_475 (nI_add i 2) (by omega) (by omega) ?_))))))))))
      rw [e1, e2]
      refine j_V2 dL_law_476 kL_61 (by first | assumption | rfl) (k_rest hX sc ho hj hd ?_)
      refine j_aload_n 1 dL_law_479 rfl (j_aload_n 3 dL_law_480 rfl (j_iload_n 0 dL_law_481 rfl (j_iconst (v := 1) dL_law_482 rfl (j_iadd dL_law_483 (j_saload (i + 1) dL_law_484 (nI_add i 1) (by omega) (by omega) (j_aload_n 3 dL_law_485 rfl (j_iload_n 0 dL_law_486 rfl (j_iconst (v := 2) dL_law_487 rfl (j_iadd dL_law_488 (j_saload (i + 2) dL_law_489 (nI_add i 2) (by omega) (by omega) ?_))))))))))
      rw [e1, e2]
      refine j_V2 dL_law_490 kL_64 (by first | assumption | rfl) (q_rest hM sm ho hj hd ?_)
      refine j_icmp_eq (tgt := 1205) dL_law_493 rfl (fun gq => ?_) (fun gq => ?_)
      · exact k _ _ ⟨t, n, c, w, ρ, A, K, E, sd, sc, sm, ho⟩
      · exact absurd rfl gq
    · have hy : ∀ j, j < 16384 → g.2.2 (i + 2) ≠ nI j := fun j hj e => h2 ⟨j, hj, e⟩
      refine j_aload_n 2 dL_law_465 rfl (j_aload_n 3 dL_law_466 rfl (j_iload_n 0 dL_law_467 rfl (j_iconst (v := 1) dL_law_468 rfl (j_iadd dL_law_469 (j_saload (i + 1) dL_law_470 (nI_add i 1) (by omega) (by omega) (j_aload_n 3 dL_law_471 rfl (j_iload_n 0 dL_law_472 rfl (j_iconst (v := 2) dL_law_473 rfl (j_iadd dL_law_474 (j_saload (i + 2) dL_law_475 (nI_add i 2) (by omega) (by omega) ?_))))))))))
      rw [e1]
      refine j_V2 dL_law_476 kL_61 (by first | assumption | rfl) (k_rest_b hX sc ho hj hy ?_)
      refine j_aload_n 1 dL_law_479 rfl (j_aload_n 3 dL_law_480 rfl (j_iload_n 0 dL_law_481 rfl (j_iconst (v := 1) dL_law_482 rfl (j_iadd dL_law_483 (j_saload (i + 1) dL_law_484 (nI_add i 1) (by omega) (by omega) (j_aload_n 3 dL_law_485 rfl (j_iload_n 0 dL_law_486 rfl (j_iconst (v := 2) dL_law_487 rfl (j_iadd dL_law_488 (j_saload (i + 2) dL_law_489 (nI_add i 2) (by omega) (by omega) ?_))))))))))
      rw [e1]
      refine j_V2 dL_law_490 kL_64 (by first | assumption | rfl) (q_rest_b hM sm ho hj hy ?_)
      refine j_icmp_eq (tgt := 1205) dL_law_493 rfl (fun gq => ?_) (fun gq => ?_)
      · exact k _ _ ⟨t, n, c, w, ρ, A, K, E, sd, sc, sm, ho⟩
      · exact absurd rfl gq
  · have hx : ∀ j, j < 4 → g.2.2 (i + 1) ≠ nI j := fun j hj e => h ⟨j, hj, e⟩
    refine j_aload_n 2 dL_law_465 rfl (j_aload_n 3 dL_law_466 rfl (j_iload_n 0 dL_law_467 rfl (j_iconst (v := 1) dL_law_468 rfl (j_iadd dL_law_469 (j_saload (i + 1) dL_law_470 (nI_add i 1) (by omega) (by omega) (j_aload_n 3 dL_law_471 rfl (j_iload_n 0 dL_law_472 rfl (j_iconst (v := 2) dL_law_473 rfl (j_iadd dL_law_474 (j_saload (i + 2) dL_law_475 (nI_add i 2) (by omega) (by omega) ?_))))))))))
    refine j_V2 dL_law_476 kL_61 (by first | assumption | rfl) (k_rest_u hX sc ho hx ?_)
    refine j_aload_n 1 dL_law_479 rfl (j_aload_n 3 dL_law_480 rfl (j_iload_n 0 dL_law_481 rfl (j_iconst (v := 1) dL_law_482 rfl (j_iadd dL_law_483 (j_saload (i + 1) dL_law_484 (nI_add i 1) (by omega) (by omega) (j_aload_n 3 dL_law_485 rfl (j_iload_n 0 dL_law_486 rfl (j_iconst (v := 2) dL_law_487 rfl (j_iadd dL_law_488 (j_saload (i + 2) dL_law_489 (nI_add i 2) (by omega) (by omega) ?_))))))))))
    refine j_V2 dL_law_490 kL_64 (by first | assumption | rfl) (q_rest_u hM sm ho hx ?_)
    refine j_icmp_eq (tgt := 1205) dL_law_493 rfl (fun gq => ?_) (fun gq => ?_)
    · exact k _ _ ⟨t, n, c, w, ρ, A, K, E, sd, sc, sm, ho⟩
    · exact absurd rfl gq
theorem w_mended {g : GT} {nm : String} {Qf : QF} {Z : ZT} {I : IT} {L : LT} {i : Nat} (hX : isX Z) (hM : isM Z) (hi : i + 5 ≤ g.2.1) (hg : g.2.1 < 2 ^ 31) (hs : RSt I L) (k : ∀ I' L', RSt I' L' → JW g (mLw nm) room_1 Qf 1205 [(3, .int (nI i)), (2, .ref 198), (1, .ref 0), (0, .ref 1001)] [] 213 2924 Z I' L') : JW g (mLw nm) room_1 Qf 498 [(3, .int (nI i)), (2, .ref 198), (1, .ref 0), (0, .ref 1001)] [] 213 2924 Z I L := by
  obtain ⟨t, n, c, w, ρ, A, K, E, sd, sc, sm, ho⟩ := hs
  have x0 := hX.1
  have m0 := hM.1
  by_cases h : ∃ j, j < 4 ∧ g.2.2 (i + 1) = nI j
  · obtain ⟨j, hj, e1⟩ := h
    by_cases h2 : ∃ d, d < 16384 ∧ g.2.2 (i + 2) = nI d
    · obtain ⟨d, hd, e2⟩ := h2
      refine j_aload_n 2 dL_law_498 rfl (j_aload_n 3 dL_law_499 rfl (j_iload_n 0 dL_law_500 rfl (j_iconst (v := 1) dL_law_501 rfl (j_iadd dL_law_502 (j_saload (i + 1) dL_law_503 (nI_add i 1) (by omega) (by omega) (j_aload_n 3 dL_law_504 rfl (j_iload_n 0 dL_law_505 rfl (j_iconst (v := 2) dL_law_506 rfl (j_iadd dL_law_507 (j_saload (i + 2) dL_law_508 (nI_add i 2) (by omega) (by omega) ?_))))))))))
      rw [e1, e2]
      refine j_V2 dL_law_509 kL_65 (by first | assumption | rfl) (k_mended hX sc ho hj hd ?_)
      refine j_aload_n 1 dL_law_512 rfl (j_aload_n 3 dL_law_513 rfl (j_iload_n 0 dL_law_514 rfl (j_iconst (v := 1) dL_law_515 rfl (j_iadd dL_law_516 (j_saload (i + 1) dL_law_517 (nI_add i 1) (by omega) (by omega) (j_aload_n 3 dL_law_518 rfl (j_iload_n 0 dL_law_519 rfl (j_iconst (v := 2) dL_law_520 rfl (j_iadd dL_law_521 (j_saload (i + 2) dL_law_522 (nI_add i 2) (by omega) (by omega) ?_))))))))))
      rw [e1, e2]
      refine j_V2 dL_law_523 kL_68 (by first | assumption | rfl) (q_mended hM sm ho hj hd ?_)
      refine j_icmp_eq (tgt := 1205) dL_law_526 rfl (fun gq => ?_) (fun gq => ?_)
      · exact k _ _ ⟨t, n, c, w, ρ, A, K, E, sd, sc, sm, ho⟩
      · exact absurd rfl gq
    · have hy : ∀ j, j < 16384 → g.2.2 (i + 2) ≠ nI j := fun j hj e => h2 ⟨j, hj, e⟩
      refine j_aload_n 2 dL_law_498 rfl (j_aload_n 3 dL_law_499 rfl (j_iload_n 0 dL_law_500 rfl (j_iconst (v := 1) dL_law_501 rfl (j_iadd dL_law_502 (j_saload (i + 1) dL_law_503 (nI_add i 1) (by omega) (by omega) (j_aload_n 3 dL_law_504 rfl (j_iload_n 0 dL_law_505 rfl (j_iconst (v := 2) dL_law_506 rfl (j_iadd dL_law_507 (j_saload (i + 2) dL_law_508 (nI_add i 2) (by omega) (by omega) ?_))))))))))
      rw [e1]
      refine j_V2 dL_law_509 kL_65 (by first | assumption | rfl) (k_mended_b hX sc ho hj hy ?_)
      refine j_aload_n 1 dL_law_512 rfl (j_aload_n 3 dL_law_513 rfl (j_iload_n 0 dL_law_514 rfl (j_iconst (v := 1) dL_law_515 rfl (j_iadd dL_law_516 (j_saload (i + 1) dL_law_517 (nI_add i 1) (by omega) (by omega) (j_aload_n 3 dL_law_518 rfl (j_iload_n 0 dL_law_519 rfl (j_iconst (v := 2) dL_law_520 rfl (j_iadd dL_law_521 (j_saload (i + 2) dL_law_522 (nI_add i 2) (by omega) (by omega) ?_))))))))))
      rw [e1]
      refine j_V2 dL_law_523 kL_68 (by first | assumption | rfl) (q_mended_b hM sm ho hj hy ?_)
      refine j_icmp_eq (tgt := 1205) dL_law_526 rfl (fun gq => ?_) (fun gq => ?_)
      · exact k _ _ ⟨t, n, c, w, ρ, A, K, E, sd, sc, sm, ho⟩
      · exact absurd rfl gq
  · have hx : ∀ j, j < 4 → g.2.2 (i + 1) ≠ nI j := fun j hj e => h ⟨j, hj, e⟩
    refine j_aload_n 2 dL_law_498 rfl (j_aload_n 3 dL_law_499 rfl (j_iload_n 0 dL_law_500 rfl (j_iconst (v := 1) dL_law_501 rfl (j_iadd dL_law_502 (j_saload (i + 1) dL_law_503 (nI_add i 1) (by omega) (by omega) (j_aload_n 3 dL_law_504 rfl (j_iload_n 0 dL_law_505 rfl (j_iconst (v := 2) dL_law_506 rfl (j_iadd dL_law_507 (j_saload (i + 2) dL_law_508 (nI_add i 2) (by omega) (by omega) ?_))))))))))
    refine j_V2 dL_law_509 kL_65 (by first | assumption | rfl) (k_mended_u hX sc ho hx ?_)
    refine j_aload_n 1 dL_law_512 rfl (j_aload_n 3 dL_law_513 rfl (j_iload_n 0 dL_law_514 rfl (j_iconst (v := 1) dL_law_515 rfl (j_iadd dL_law_516 (j_saload (i + 1) dL_law_517 (nI_add i 1) (by omega) (by omega) (j_aload_n 3 dL_law_518 rfl (j_iload_n 0 dL_law_519 rfl (j_iconst (v := 2) dL_law_520 rfl (j_iadd dL_law_521 (j_saload (i + 2) dL_law_522 (nI_add i 2) (by omega) (by omega) ?_))))))))))
    refine j_V2 dL_law_523 kL_68 (by first | assumption | rfl) (q_mended_u hM sm ho hx ?_)
    refine j_icmp_eq (tgt := 1205) dL_law_526 rfl (fun gq => ?_) (fun gq => ?_)
    · exact k _ _ ⟨t, n, c, w, ρ, A, K, E, sd, sc, sm, ho⟩
    · exact absurd rfl gq
theorem w_distance {g : GT} {nm : String} {Qf : QF} {Z : ZT} {I : IT} {L : LT} {i : Nat} (hX : isX Z) (hM : isM Z) (hi : i + 5 ≤ g.2.1) (hg : g.2.1 < 2 ^ 31) (hs : RSt I L) (k : ∀ I' L', RSt I' L' → JW g (mLw nm) room_1 Qf 1205 [(3, .int (nI i)), (2, .ref 198), (1, .ref 0), (0, .ref 1001)] [] 213 2924 Z I' L') : JW g (mLw nm) room_1 Qf 531 [(3, .int (nI i)), (2, .ref 198), (1, .ref 0), (0, .ref 1001)] [] 213 2924 Z I L := by
  obtain ⟨t, n, c, w, ρ, A, K, E, sd, sc, sm, ho⟩ := hs
  have x0 := hX.1
  have m0 := hM.1
  refine j_aload_n 2 dL_law_531 rfl ?_
  refine j_V0 dL_law_532 kL_69 (by first | assumption | rfl) (k_distance hX sc ho ?_)
  refine j_aload_n 1 dL_law_535 rfl ?_
  refine j_V0 dL_law_536 kL_72 (by first | assumption | rfl) (q_distance hM sm ho ?_)
  refine j_icmp_eq (tgt := 1205) dL_law_539 rfl (fun gq => ?_) (fun gq => ?_)
  · exact k _ _ ⟨t, n, c, w, ρ, A, K, E, sd, sc, sm, ho⟩
  · exact absurd rfl gq
theorem w_flips {g : GT} {nm : String} {Qf : QF} {Z : ZT} {I : IT} {L : LT} {i : Nat} (hX : isX Z) (hM : isM Z) (hi : i + 5 ≤ g.2.1) (hg : g.2.1 < 2 ^ 31) (hs : RSt I L) (k : ∀ I' L', RSt I' L' → JW g (mLw nm) room_1 Qf 1205 [(3, .int (nI i)), (2, .ref 198), (1, .ref 0), (0, .ref 1001)] [] 213 2924 Z I' L') : JW g (mLw nm) room_1 Qf 544 [(3, .int (nI i)), (2, .ref 198), (1, .ref 0), (0, .ref 1001)] [] 213 2924 Z I L := by
  obtain ⟨t, n, c, w, ρ, A, K, E, sd, sc, sm, ho⟩ := hs
  have x0 := hX.1
  have m0 := hM.1
  by_cases h : ∃ j v, j ≤ 4 ∧ v ≤ 3 ∧ g.2.2 (i + 1) = nI j ∧ g.2.2 (i + 2) = nI v
  · obtain ⟨j, v, hj, hv, e1, e2⟩ := h
    refine j_aload_n 2 dL_law_544 rfl (j_aload_n 3 dL_law_545 rfl (j_iload_n 0 dL_law_546 rfl (j_iconst (v := 1) dL_law_547 rfl (j_iadd dL_law_548 (j_saload (i + 1) dL_law_549 (nI_add i 1) (by omega) (by omega) (j_aload_n 3 dL_law_550 rfl (j_iload_n 0 dL_law_551 rfl (j_iconst (v := 2) dL_law_552 rfl (j_iadd dL_law_553 (j_saload (i + 2) dL_law_554 (nI_add i 2) (by omega) (by omega) ?_))))))))))
    rw [e1, e2]
    refine j_V2 dL_law_555 kL_73 (by first | assumption | rfl) (k_flips hX sc ho hj hv ?_)
    refine j_aload_n 1 dL_law_558 rfl (j_aload_n 3 dL_law_559 rfl (j_iload_n 0 dL_law_560 rfl (j_iconst (v := 1) dL_law_561 rfl (j_iadd dL_law_562 (j_saload (i + 1) dL_law_563 (nI_add i 1) (by omega) (by omega) (j_aload_n 3 dL_law_564 rfl (j_iload_n 0 dL_law_565 rfl (j_iconst (v := 2) dL_law_566 rfl (j_iadd dL_law_567 (j_saload (i + 2) dL_law_568 (nI_add i 2) (by omega) (by omega) ?_))))))))))
    rw [e1, e2]
    refine j_V2 dL_law_569 kL_76 (by first | assumption | rfl) (q_flips hM sm ho hj hv ?_)
    refine j_icmp_eq (tgt := 1205) dL_law_572 rfl (fun gq => ?_) (fun gq => ?_)
    · exact k _ _ ⟨t, n, c, w, ρ, A, K, E, sd, sc, sm, ho⟩
    · exact absurd rfl gq
  · have hx : ∀ j v, j ≤ 4 → v ≤ 3 → g.2.2 (i + 1) = nI j → g.2.2 (i + 2) = nI v → False := fun j v h1 h2 h3 h4 => h ⟨j, v, h1, h2, h3, h4⟩
    refine j_aload_n 2 dL_law_544 rfl (j_aload_n 3 dL_law_545 rfl (j_iload_n 0 dL_law_546 rfl (j_iconst (v := 1) dL_law_547 rfl (j_iadd dL_law_548 (j_saload (i + 1) dL_law_549 (nI_add i 1) (by omega) (by omega) (j_aload_n 3 dL_law_550 rfl (j_iload_n 0 dL_law_551 rfl (j_iconst (v := 2) dL_law_552 rfl (j_iadd dL_law_553 (j_saload (i + 2) dL_law_554 (nI_add i 2) (by omega) (by omega) ?_))))))))))
    refine j_V2 dL_law_555 kL_73 (by first | assumption | rfl) (k_flips_b hX sc ho hx ?_)
    refine j_aload_n 1 dL_law_558 rfl (j_aload_n 3 dL_law_559 rfl (j_iload_n 0 dL_law_560 rfl (j_iconst (v := 1) dL_law_561 rfl (j_iadd dL_law_562 (j_saload (i + 1) dL_law_563 (nI_add i 1) (by omega) (by omega) (j_aload_n 3 dL_law_564 rfl (j_iload_n 0 dL_law_565 rfl (j_iconst (v := 2) dL_law_566 rfl (j_iadd dL_law_567 (j_saload (i + 2) dL_law_568 (nI_add i 2) (by omega) (by omega) ?_))))))))))
    refine j_V2 dL_law_569 kL_76 (by first | assumption | rfl) (q_flips_b hM sm ho hx ?_)
    refine j_icmp_eq (tgt := 1205) dL_law_572 rfl (fun gq => ?_) (fun gq => ?_)
    · exact k _ _ ⟨t, n, c, w, ρ, A, K, E, sd, sc, sm, ho⟩
    · exact absurd rfl gq
theorem w_slips {g : GT} {nm : String} {Qf : QF} {Z : ZT} {I : IT} {L : LT} {i : Nat} (hX : isX Z) (hM : isM Z) (hi : i + 5 ≤ g.2.1) (hg : g.2.1 < 2 ^ 31) (hs : RSt I L) (k : ∀ I' L', RSt I' L' → JW g (mLw nm) room_1 Qf 1205 [(3, .int (nI i)), (2, .ref 198), (1, .ref 0), (0, .ref 1001)] [] 213 2924 Z I' L') : JW g (mLw nm) room_1 Qf 577 [(3, .int (nI i)), (2, .ref 198), (1, .ref 0), (0, .ref 1001)] [] 213 2924 Z I L := by
  obtain ⟨t, n, c, w, ρ, A, K, E, sd, sc, sm, ho⟩ := hs
  have x0 := hX.1
  have m0 := hM.1
  by_cases h : ∃ j, j < 4 ∧ g.2.2 (i + 1) = nI j
  · obtain ⟨j, hj, e1⟩ := h
    by_cases h2 : ∃ d, d < 256 ∧ g.2.2 (i + 2) = nI d
    · obtain ⟨d, hd, e2⟩ := h2
      by_cases h3 : ∃ e, e < 256 ∧ g.2.2 (i + 3) = nI e
      · obtain ⟨e, he, e3⟩ := h3
        refine j_aload_n 2 dL_law_577 rfl (j_aload_n 3 dL_law_578 rfl (j_iload_n 0 dL_law_579 rfl (j_iconst (v := 1) dL_law_580 rfl (j_iadd dL_law_581 (j_saload (i + 1) dL_law_582 (nI_add i 1) (by omega) (by omega) (j_aload_n 3 dL_law_583 rfl (j_iload_n 0 dL_law_584 rfl (j_iconst (v := 2) dL_law_585 rfl (j_iadd dL_law_586 (j_saload (i + 2) dL_law_587 (nI_add i 2) (by omega) (by omega) (j_aload_n 3 dL_law_588 rfl (j_iload_n 0 dL_law_589 rfl (j_iconst (v := 3) dL_law_590 rfl (j_iadd dL_law_591 (j_saload (i + 3) dL_law_592 (nI_add i 3) (by omega) (by omega) ?_)))))))))))))))
        rw [e1, e2, e3]
        refine j_V3 dL_law_593 kL_77 (by first | assumption | rfl) (k_slips hX sc ho hj hd he ?_)
        refine j_aload_n 1 dL_law_596 rfl (j_aload_n 3 dL_law_597 rfl (j_iload_n 0 dL_law_598 rfl (j_iconst (v := 1) dL_law_599 rfl (j_iadd dL_law_600 (j_saload (i + 1) dL_law_601 (nI_add i 1) (by omega) (by omega) (j_aload_n 3 dL_law_602 rfl (j_iload_n 0 dL_law_603 rfl (j_iconst (v := 2) dL_law_604 rfl (j_iadd dL_law_605 (j_saload (i + 2) dL_law_606 (nI_add i 2) (by omega) (by omega) (j_aload_n 3 dL_law_607 rfl (j_iload_n 0 dL_law_608 rfl (j_iconst (v := 3) dL_law_609 rfl (j_iadd dL_law_610 (j_saload (i + 3) dL_law_611 (nI_add i 3) (by omega) (by omega) ?_)))))))))))))))
        rw [e1, e2, e3]
        refine j_V3 dL_law_612 kL_81 (by first | assumption | rfl) (q_slips hM sm ho hj hd he ?_)
        refine j_icmp_eq (tgt := 1205) dL_law_615 rfl (fun gq => ?_) (fun gq => ?_)
        · exact k _ _ ⟨t, n, c, w, ρ, A, K, E, sd, sc, sm, ho⟩
        · exact absurd rfl gq
      · have hz : ∀ j, j < 256 → g.2.2 (i + 3) ≠ nI j := fun j hj e => h3 ⟨j, hj, e⟩
        refine j_aload_n 2 dL_law_577 rfl (j_aload_n 3 dL_law_578 rfl (j_iload_n 0 dL_law_579 rfl (j_iconst (v := 1) dL_law_580 rfl (j_iadd dL_law_581 (j_saload (i + 1) dL_law_582 (nI_add i 1) (by omega) (by omega) (j_aload_n 3 dL_law_583 rfl (j_iload_n 0 dL_law_584 rfl (j_iconst (v := 2) dL_law_585 rfl (j_iadd dL_law_586 (j_saload (i + 2) dL_law_587 (nI_add i 2) (by omega) (by omega) (j_aload_n 3 dL_law_588 rfl (j_iload_n 0 dL_law_589 rfl (j_iconst (v := 3) dL_law_590 rfl (j_iadd dL_law_591 (j_saload (i + 3) dL_law_592 (nI_add i 3) (by omega) (by omega) ?_)))))))))))))))
        rw [e1, e2]
        refine j_V3 dL_law_593 kL_77 (by first | assumption | rfl) (k_slips_c hX sc ho hj hd hz ?_)
        refine j_aload_n 1 dL_law_596 rfl (j_aload_n 3 dL_law_597 rfl (j_iload_n 0 dL_law_598 rfl (j_iconst (v := 1) dL_law_599 rfl (j_iadd dL_law_600 (j_saload (i + 1) dL_law_601 (nI_add i 1) (by omega) (by omega) (j_aload_n 3 dL_law_602 rfl (j_iload_n 0 dL_law_603 rfl (j_iconst (v := 2) dL_law_604 rfl (j_iadd dL_law_605 (j_saload (i + 2) dL_law_606 (nI_add i 2) (by omega) (by omega) (j_aload_n 3 dL_law_607 rfl (j_iload_n 0 dL_law_608 rfl (j_iconst (v := 3) dL_law_609 rfl (j_iadd dL_law_610 (j_saload (i + 3) dL_law_611 (nI_add i 3) (by omega) (by omega) ?_)))))))))))))))
        rw [e1, e2]
        refine j_V3 dL_law_612 kL_81 (by first | assumption | rfl) (q_slips_c hM sm ho hj hd hz ?_)
        refine j_icmp_eq (tgt := 1205) dL_law_615 rfl (fun gq => ?_) (fun gq => ?_)
        · exact k _ _ ⟨t, n, c, w, ρ, A, K, E, sd, sc, sm, ho⟩
        · exact absurd rfl gq
    · have hy : ∀ j, j < 256 → g.2.2 (i + 2) ≠ nI j := fun j hj e => h2 ⟨j, hj, e⟩
      refine j_aload_n 2 dL_law_577 rfl (j_aload_n 3 dL_law_578 rfl (j_iload_n 0 dL_law_579 rfl (j_iconst (v := 1) dL_law_580 rfl (j_iadd dL_law_581 (j_saload (i + 1) dL_law_582 (nI_add i 1) (by omega) (by omega) (j_aload_n 3 dL_law_583 rfl (j_iload_n 0 dL_law_584 rfl (j_iconst (v := 2) dL_law_585 rfl (j_iadd dL_law_586 (j_saload (i + 2) dL_law_587 (nI_add i 2) (by omega) (by omega) (j_aload_n 3 dL_law_588 rfl (j_iload_n 0 dL_law_589 rfl (j_iconst (v := 3) dL_law_590 rfl (j_iadd dL_law_591 (j_saload (i + 3) dL_law_592 (nI_add i 3) (by omega) (by omega) ?_)))))))))))))))
      rw [e1]
      refine j_V3 dL_law_593 kL_77 (by first | assumption | rfl) (k_slips_b hX sc ho hj hy ?_)
      refine j_aload_n 1 dL_law_596 rfl (j_aload_n 3 dL_law_597 rfl (j_iload_n 0 dL_law_598 rfl (j_iconst (v := 1) dL_law_599 rfl (j_iadd dL_law_600 (j_saload (i + 1) dL_law_601 (nI_add i 1) (by omega) (by omega) (j_aload_n 3 dL_law_602 rfl (j_iload_n 0 dL_law_603 rfl (j_iconst (v := 2) dL_law_604 rfl (j_iadd dL_law_605 (j_saload (i + 2) dL_law_606 (nI_add i 2) (by omega) (by omega) (j_aload_n 3 dL_law_607 rfl (j_iload_n 0 dL_law_608 rfl (j_iconst (v := 3) dL_law_609 rfl (j_iadd dL_law_610 (j_saload (i + 3) dL_law_611 (nI_add i 3) (by omega) (by omega) ?_)))))))))))))))
      rw [e1]
      refine j_V3 dL_law_612 kL_81 (by first | assumption | rfl) (q_slips_b hM sm ho hj hy ?_)
      refine j_icmp_eq (tgt := 1205) dL_law_615 rfl (fun gq => ?_) (fun gq => ?_)
      · exact k _ _ ⟨t, n, c, w, ρ, A, K, E, sd, sc, sm, ho⟩
      · exact absurd rfl gq
  · have hx : ∀ j, j < 4 → g.2.2 (i + 1) ≠ nI j := fun j hj e => h ⟨j, hj, e⟩
    refine j_aload_n 2 dL_law_577 rfl (j_aload_n 3 dL_law_578 rfl (j_iload_n 0 dL_law_579 rfl (j_iconst (v := 1) dL_law_580 rfl (j_iadd dL_law_581 (j_saload (i + 1) dL_law_582 (nI_add i 1) (by omega) (by omega) (j_aload_n 3 dL_law_583 rfl (j_iload_n 0 dL_law_584 rfl (j_iconst (v := 2) dL_law_585 rfl (j_iadd dL_law_586 (j_saload (i + 2) dL_law_587 (nI_add i 2) (by omega) (by omega) (j_aload_n 3 dL_law_588 rfl (j_iload_n 0 dL_law_589 rfl (j_iconst (v := 3) dL_law_590 rfl (j_iadd dL_law_591 (j_saload (i + 3) dL_law_592 (nI_add i 3) (by omega) (by omega) ?_)))))))))))))))
    refine j_V3 dL_law_593 kL_77 (by first | assumption | rfl) (k_slips_u hX sc ho hx ?_)
    refine j_aload_n 1 dL_law_596 rfl (j_aload_n 3 dL_law_597 rfl (j_iload_n 0 dL_law_598 rfl (j_iconst (v := 1) dL_law_599 rfl (j_iadd dL_law_600 (j_saload (i + 1) dL_law_601 (nI_add i 1) (by omega) (by omega) (j_aload_n 3 dL_law_602 rfl (j_iload_n 0 dL_law_603 rfl (j_iconst (v := 2) dL_law_604 rfl (j_iadd dL_law_605 (j_saload (i + 2) dL_law_606 (nI_add i 2) (by omega) (by omega) (j_aload_n 3 dL_law_607 rfl (j_iload_n 0 dL_law_608 rfl (j_iconst (v := 3) dL_law_609 rfl (j_iadd dL_law_610 (j_saload (i + 3) dL_law_611 (nI_add i 3) (by omega) (by omega) ?_)))))))))))))))
    refine j_V3 dL_law_612 kL_81 (by first | assumption | rfl) (q_slips_u hM sm ho hx ?_)
    refine j_icmp_eq (tgt := 1205) dL_law_615 rfl (fun gq => ?_) (fun gq => ?_)
    · exact k _ _ ⟨t, n, c, w, ρ, A, K, E, sd, sc, sm, ho⟩
    · exact absurd rfl gq
theorem w_hear {g : GT} {nm : String} {Qf : QF} {Z : ZT} {I : IT} {L : LT} {i : Nat} (hX : isX Z) (hM : isM Z) (hi : i + 5 ≤ g.2.1) (hg : g.2.1 < 2 ^ 31) (hs : RSt I L) (k : ∀ I' L', RSt I' L' → JW g (mLw nm) room_1 Qf 1205 [(3, .int (nI i)), (2, .ref 198), (1, .ref 0), (0, .ref 1001)] [] 213 2924 Z I' L') : JW g (mLw nm) room_1 Qf 653 [(3, .int (nI i)), (2, .ref 198), (1, .ref 0), (0, .ref 1001)] [] 213 2924 Z I L := by
  obtain ⟨t, n, c, w, ρ, A, K, E, sd, sc, sm, ho⟩ := hs
  have x0 := hX.1
  have m0 := hM.1
  by_cases h : ∃ j, j < 4 ∧ g.2.2 (i + 1) = nI j
  · obtain ⟨j, hj, e1⟩ := h
    by_cases h2 : ∃ d, d < 256 ∧ g.2.2 (i + 2) = nI d
    · obtain ⟨d, hd, e2⟩ := h2
      by_cases h3 : ∃ e, e < 16384 ∧ g.2.2 (i + 3) = nI e
      · obtain ⟨e, he, e3⟩ := h3
        refine j_aload_n 2 dL_law_653 rfl (j_aload_n 3 dL_law_654 rfl (j_iload_n 0 dL_law_655 rfl (j_iconst (v := 1) dL_law_656 rfl (j_iadd dL_law_657 (j_saload (i + 1) dL_law_658 (nI_add i 1) (by omega) (by omega) (j_aload_n 3 dL_law_659 rfl (j_iload_n 0 dL_law_660 rfl (j_iconst (v := 2) dL_law_661 rfl (j_iadd dL_law_662 (j_saload (i + 2) dL_law_663 (nI_add i 2) (by omega) (by omega) (j_aload_n 3 dL_law_664 rfl (j_iload_n 0 dL_law_665 rfl (j_iconst (v := 3) dL_law_666 rfl (j_iadd dL_law_667 (j_saload (i + 3) dL_law_668 (nI_add i 3) (by omega) (by omega) ?_)))))))))))))))
        rw [e1, e2, e3]
        refine j_V3 dL_law_669 kL_86 (by first | assumption | rfl) (k_hear hX sc ho hj hd he (fun I1 c1 q1 => ?_))
        refine j_aload_n 1 dL_law_672 rfl (j_aload_n 3 dL_law_673 rfl (j_iload_n 0 dL_law_674 rfl (j_iconst (v := 1) dL_law_675 rfl (j_iadd dL_law_676 (j_saload (i + 1) dL_law_677 (nI_add i 1) (by omega) (by omega) (j_aload_n 3 dL_law_678 rfl (j_iload_n 0 dL_law_679 rfl (j_iconst (v := 2) dL_law_680 rfl (j_iadd dL_law_681 (j_saload (i + 2) dL_law_682 (nI_add i 2) (by omega) (by omega) (j_aload_n 3 dL_law_683 rfl (j_iload_n 0 dL_law_684 rfl (j_iconst (v := 3) dL_law_685 rfl (j_iadd dL_law_686 (j_saload (i + 3) dL_law_687 (nI_add i 3) (by omega) (by omega) ?_)))))))))))))))
        rw [e1, e2, e3]
        refine j_V3 dL_law_688 kL_89 (by first | assumption | rfl) (q_hear hM (sm.eqM q1 rfl) ho hj hd he (fun I2 m2 q2 => ?_))
        refine j_icmp_eq (tgt := 1205) dL_law_691 rfl (fun gq => ?_) (fun gq => ?_)
        · exact k _ _ ⟨t, n, c, w, hsF c 14 ρ (wdN c j d ^^^ e), acA A ρ, K, E, sd, c1.eqC q2 rfl, m2, ho.act sc.2.2.2.1.1 (OKz.hs ho.1 _ 14 ho.2.2.1)⟩
        · exact absurd rfl gq
      · have hz : ∀ j, j < 16384 → g.2.2 (i + 3) ≠ nI j := fun j hj e => h3 ⟨j, hj, e⟩
        refine j_aload_n 2 dL_law_653 rfl (j_aload_n 3 dL_law_654 rfl (j_iload_n 0 dL_law_655 rfl (j_iconst (v := 1) dL_law_656 rfl (j_iadd dL_law_657 (j_saload (i + 1) dL_law_658 (nI_add i 1) (by omega) (by omega) (j_aload_n 3 dL_law_659 rfl (j_iload_n 0 dL_law_660 rfl (j_iconst (v := 2) dL_law_661 rfl (j_iadd dL_law_662 (j_saload (i + 2) dL_law_663 (nI_add i 2) (by omega) (by omega) (j_aload_n 3 dL_law_664 rfl (j_iload_n 0 dL_law_665 rfl (j_iconst (v := 3) dL_law_666 rfl (j_iadd dL_law_667 (j_saload (i + 3) dL_law_668 (nI_add i 3) (by omega) (by omega) ?_)))))))))))))))
        rw [e1, e2]
        refine j_V3 dL_law_669 kL_86 (by first | assumption | rfl) (k_hear_c hX sc ho hj hd hz ?_)
        refine j_aload_n 1 dL_law_672 rfl (j_aload_n 3 dL_law_673 rfl (j_iload_n 0 dL_law_674 rfl (j_iconst (v := 1) dL_law_675 rfl (j_iadd dL_law_676 (j_saload (i + 1) dL_law_677 (nI_add i 1) (by omega) (by omega) (j_aload_n 3 dL_law_678 rfl (j_iload_n 0 dL_law_679 rfl (j_iconst (v := 2) dL_law_680 rfl (j_iadd dL_law_681 (j_saload (i + 2) dL_law_682 (nI_add i 2) (by omega) (by omega) (j_aload_n 3 dL_law_683 rfl (j_iload_n 0 dL_law_684 rfl (j_iconst (v := 3) dL_law_685 rfl (j_iadd dL_law_686 (j_saload (i + 3) dL_law_687 (nI_add i 3) (by omega) (by omega) ?_)))))))))))))))
        rw [e1, e2]
        refine j_V3 dL_law_688 kL_89 (by first | assumption | rfl) (q_hear_c hM sm ho hj hd hz ?_)
        refine j_icmp_eq (tgt := 1205) dL_law_691 rfl (fun gq => ?_) (fun gq => ?_)
        · exact k _ _ ⟨t, n, c, w, ρ, A, K, E, sd, sc, sm, ho⟩
        · exact absurd rfl gq
    · have hy : ∀ j, j < 256 → g.2.2 (i + 2) ≠ nI j := fun j hj e => h2 ⟨j, hj, e⟩
      refine j_aload_n 2 dL_law_653 rfl (j_aload_n 3 dL_law_654 rfl (j_iload_n 0 dL_law_655 rfl (j_iconst (v := 1) dL_law_656 rfl (j_iadd dL_law_657 (j_saload (i + 1) dL_law_658 (nI_add i 1) (by omega) (by omega) (j_aload_n 3 dL_law_659 rfl (j_iload_n 0 dL_law_660 rfl (j_iconst (v := 2) dL_law_661 rfl (j_iadd dL_law_662 (j_saload (i + 2) dL_law_663 (nI_add i 2) (by omega) (by omega) (j_aload_n 3 dL_law_664 rfl (j_iload_n 0 dL_law_665 rfl (j_iconst (v := 3) dL_law_666 rfl (j_iadd dL_law_667 (j_saload (i + 3) dL_law_668 (nI_add i 3) (by omega) (by omega) ?_)))))))))))))))
      rw [e1]
      refine j_V3 dL_law_669 kL_86 (by first | assumption | rfl) (k_hear_b hX sc ho hj hy ?_)
      refine j_aload_n 1 dL_law_672 rfl (j_aload_n 3 dL_law_673 rfl (j_iload_n 0 dL_law_674 rfl (j_iconst (v := 1) dL_law_675 rfl (j_iadd dL_law_676 (j_saload (i + 1) dL_law_677 (nI_add i 1) (by omega) (by omega) (j_aload_n 3 dL_law_678 rfl (j_iload_n 0 dL_law_679 rfl (j_iconst (v := 2) dL_law_680 rfl (j_iadd dL_law_681 (j_saload (i + 2) dL_law_682 (nI_add i 2) (by omega) (by omega) (j_aload_n 3 dL_law_683 rfl (j_iload_n 0 dL_law_684 rfl (j_iconst (v := 3) dL_law_685 rfl (j_iadd dL_law_686 (j_saload (i + 3) dL_law_687 (nI_add i 3) (by omega) (by omega) ?_)))))))))))))))
      rw [e1]
      refine j_V3 dL_law_688 kL_89 (by first | assumption | rfl) (q_hear_b hM sm ho hj hy ?_)
      refine j_icmp_eq (tgt := 1205) dL_law_691 rfl (fun gq => ?_) (fun gq => ?_)
      · exact k _ _ ⟨t, n, c, w, ρ, A, K, E, sd, sc, sm, ho⟩
      · exact absurd rfl gq
  · have hx : ∀ j, j < 4 → g.2.2 (i + 1) ≠ nI j := fun j hj e => h ⟨j, hj, e⟩
    refine j_aload_n 2 dL_law_653 rfl (j_aload_n 3 dL_law_654 rfl (j_iload_n 0 dL_law_655 rfl (j_iconst (v := 1) dL_law_656 rfl (j_iadd dL_law_657 (j_saload (i + 1) dL_law_658 (nI_add i 1) (by omega) (by omega) (j_aload_n 3 dL_law_659 rfl (j_iload_n 0 dL_law_660 rfl (j_iconst (v := 2) dL_law_661 rfl (j_iadd dL_law_662 (j_saload (i + 2) dL_law_663 (nI_add i 2) (by omega) (by omega) (j_aload_n 3 dL_law_664 rfl (j_iload_n 0 dL_law_665 rfl (j_iconst (v := 3) dL_law_666 rfl (j_iadd dL_law_667 (j_saload (i + 3) dL_law_668 (nI_add i 3) (by omega) (by omega) ?_)))))))))))))))
    refine j_V3 dL_law_669 kL_86 (by first | assumption | rfl) (k_hear_u hX sc ho hx ?_)
    refine j_aload_n 1 dL_law_672 rfl (j_aload_n 3 dL_law_673 rfl (j_iload_n 0 dL_law_674 rfl (j_iconst (v := 1) dL_law_675 rfl (j_iadd dL_law_676 (j_saload (i + 1) dL_law_677 (nI_add i 1) (by omega) (by omega) (j_aload_n 3 dL_law_678 rfl (j_iload_n 0 dL_law_679 rfl (j_iconst (v := 2) dL_law_680 rfl (j_iadd dL_law_681 (j_saload (i + 2) dL_law_682 (nI_add i 2) (by omega) (by omega) (j_aload_n 3 dL_law_683 rfl (j_iload_n 0 dL_law_684 rfl (j_iconst (v := 3) dL_law_685 rfl (j_iadd dL_law_686 (j_saload (i + 3) dL_law_687 (nI_add i 3) (by omega) (by omega) ?_)))))))))))))))
    refine j_V3 dL_law_688 kL_89 (by first | assumption | rfl) (q_hear_u hM sm ho hx ?_)
    refine j_icmp_eq (tgt := 1205) dL_law_691 rfl (fun gq => ?_) (fun gq => ?_)
    · exact k _ _ ⟨t, n, c, w, ρ, A, K, E, sd, sc, sm, ho⟩
    · exact absurd rfl gq
theorem w_bits {g : GT} {nm : String} {Qf : QF} {Z : ZT} {I : IT} {L : LT} {i : Nat} (hX : isX Z) (hM : isM Z) (hi : i + 5 ≤ g.2.1) (hg : g.2.1 < 2 ^ 31) (hs : RSt I L) (k : ∀ I' L', RSt I' L' → JW g (mLw nm) room_1 Qf 1205 [(3, .int (nI i)), (2, .ref 198), (1, .ref 0), (0, .ref 1001)] [] 213 2924 Z I' L') : JW g (mLw nm) room_1 Qf 620 [(3, .int (nI i)), (2, .ref 198), (1, .ref 0), (0, .ref 1001)] [] 213 2924 Z I L := by
  obtain ⟨t, n, c, w, ρ, A, K, E, sd, sc, sm, ho⟩ := hs
  have x0 := hX.1
  have m0 := hM.1
  by_cases h : ∃ j v, 1 ≤ j ∧ j ≤ 14 ∧ v < 2 ^ j ∧ g.2.2 (i + 1) = nI j ∧ g.2.2 (i + 2) = nI v
  · obtain ⟨j, v, h1, h14, hv, e1, e2⟩ := h
    refine j_aload_n 2 dL_law_620 rfl (j_aload_n 3 dL_law_621 rfl (j_iload_n 0 dL_law_622 rfl (j_iconst (v := 1) dL_law_623 rfl (j_iadd dL_law_624 (j_saload (i + 1) dL_law_625 (nI_add i 1) (by omega) (by omega) (j_aload_n 3 dL_law_626 rfl (j_iload_n 0 dL_law_627 rfl (j_iconst (v := 2) dL_law_628 rfl (j_iadd dL_law_629 (j_saload (i + 2) dL_law_630 (nI_add i 2) (by omega) (by omega) ?_))))))))))
    rw [e1, e2]
    refine j_V2 dL_law_631 kL_82 (by first | assumption | rfl) (k_bits hX sc ho h1 h14 hv (fun I1 c1 q1 => ?_))
    refine j_aload_n 1 dL_law_634 rfl (j_aload_n 3 dL_law_635 rfl (j_iload_n 0 dL_law_636 rfl (j_iconst (v := 1) dL_law_637 rfl (j_iadd dL_law_638 (j_saload (i + 1) dL_law_639 (nI_add i 1) (by omega) (by omega) (j_aload_n 3 dL_law_640 rfl (j_iload_n 0 dL_law_641 rfl (j_iconst (v := 2) dL_law_642 rfl (j_iadd dL_law_643 (j_saload (i + 2) dL_law_644 (nI_add i 2) (by omega) (by omega) ?_))))))))))
    rw [e1, e2]
    refine j_V2 dL_law_645 kL_85 (by first | assumption | rfl) (q_bits hM (sm.eqM q1 rfl) ho h1 h14 hv (fun I2 m2 q2 => ?_))
    refine j_icmp_eq (tgt := 1205) dL_law_648 rfl (fun gq => ?_) (fun gq => ?_)
    · exact k _ _ ⟨t, n, c, w, hsF c j ρ v, acA A ρ, K, E, sd, c1.eqC q2 rfl, m2, ho.act sc.2.2.2.1.1 (OKz.hs ho.1 _ j ho.2.2.1)⟩
    · exact absurd rfl gq
  · have hx : ∀ j v, 1 ≤ j → j ≤ 14 → v < 2 ^ j → g.2.2 (i + 1) = nI j → g.2.2 (i + 2) = nI v → False := fun j v h1 h2 h3 h4 h5 => h ⟨j, v, h1, h2, h3, h4, h5⟩
    refine j_aload_n 2 dL_law_620 rfl (j_aload_n 3 dL_law_621 rfl (j_iload_n 0 dL_law_622 rfl (j_iconst (v := 1) dL_law_623 rfl (j_iadd dL_law_624 (j_saload (i + 1) dL_law_625 (nI_add i 1) (by omega) (by omega) (j_aload_n 3 dL_law_626 rfl (j_iload_n 0 dL_law_627 rfl (j_iconst (v := 2) dL_law_628 rfl (j_iadd dL_law_629 (j_saload (i + 2) dL_law_630 (nI_add i 2) (by omega) (by omega) ?_))))))))))
    refine j_V2 dL_law_631 kL_82 (by first | assumption | rfl) (k_bits_b hX sc ho hx ?_)
    refine j_aload_n 1 dL_law_634 rfl (j_aload_n 3 dL_law_635 rfl (j_iload_n 0 dL_law_636 rfl (j_iconst (v := 1) dL_law_637 rfl (j_iadd dL_law_638 (j_saload (i + 1) dL_law_639 (nI_add i 1) (by omega) (by omega) (j_aload_n 3 dL_law_640 rfl (j_iload_n 0 dL_law_641 rfl (j_iconst (v := 2) dL_law_642 rfl (j_iadd dL_law_643 (j_saload (i + 2) dL_law_644 (nI_add i 2) (by omega) (by omega) ?_))))))))))
    refine j_V2 dL_law_645 kL_85 (by first | assumption | rfl) (q_bits_b hM sm ho hx ?_)
    refine j_icmp_eq (tgt := 1205) dL_law_648 rfl (fun gq => ?_) (fun gq => ?_)
    · exact k _ _ ⟨t, n, c, w, ρ, A, K, E, sd, sc, sm, ho⟩
    · exact absurd rfl gq
