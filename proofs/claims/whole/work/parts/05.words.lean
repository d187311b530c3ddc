theorem inX0 : ∀ w ∈ u_ws RX0 TX0 3, w ∈ lw_tbl := by
  show ∀ w ∈ [u_lay RX0 TX0 0, u_lay RX0 TX0 1, u_lay RX0 TX0 2], w ∈ lw_tbl
  exact List.forall_mem_cons.mpr ⟨List.mem_of_getElem? (i := 273) (by decide +kernel), List.forall_mem_cons.mpr ⟨List.mem_of_getElem? (i := 275) (by decide +kernel), List.forall_mem_cons.mpr ⟨List.mem_of_getElem? (i := 277) (by decide +kernel), fun _ h => absurd h List.not_mem_nil⟩⟩⟩
theorem inX1 : ∀ w ∈ u_ws RX1 TX1 9, w ∈ lw_tbl := by
  show ∀ w ∈ [u_lay RX1 TX1 0, u_lay RX1 TX1 1, u_lay RX1 TX1 2, u_lay RX1 TX1 3, u_lay RX1 TX1 4, u_lay RX1 TX1 5, u_lay RX1 TX1 6, u_lay RX1 TX1 7, u_lay RX1 TX1 8], w ∈ lw_tbl
  exact List.forall_mem_cons.mpr ⟨List.mem_of_getElem? (i := 126) (by decide +kernel), List.forall_mem_cons.mpr ⟨List.mem_of_getElem? (i := 128) (by decide +kernel), List.forall_mem_cons.mpr ⟨List.mem_of_getElem? (i := 130) (by decide +kernel), List.forall_mem_cons.mpr ⟨List.mem_of_getElem? (i := 132) (by decide +kernel), List.forall_mem_cons.mpr ⟨List.mem_of_getElem? (i := 134) (by decide +kernel), List.forall_mem_cons.mpr ⟨List.mem_of_getElem? (i := 136) (by decide +kernel), List.forall_mem_cons.mpr ⟨List.mem_of_getElem? (i := 138) (by decide +kernel), List.forall_mem_cons.mpr ⟨List.mem_of_getElem? (i := 140) (by decide +kernel), List.forall_mem_cons.mpr ⟨List.mem_of_getElem? (i := 142) (by decide +kernel), fun _ h => absurd h List.not_mem_nil⟩⟩⟩⟩⟩⟩⟩⟩⟩
theorem inX2 : ∀ w ∈ u_ws RX2 TX2 15, w ∈ lw_tbl := by
  show ∀ w ∈ [u_lay RX2 TX2 0, u_lay RX2 TX2 1, u_lay RX2 TX2 2, u_lay RX2 TX2 3, u_lay RX2 TX2 4, u_lay RX2 TX2 5, u_lay RX2 TX2 6, u_lay RX2 TX2 7, u_lay RX2 TX2 8, u_lay RX2 TX2 9, u_lay RX2 TX2 10, u_lay RX2 TX2 11, u_lay RX2 TX2 12, u_lay RX2 TX2 13, u_lay RX2 TX2 14], w ∈ lw_tbl
  exact List.forall_mem_cons.mpr ⟨List.mem_of_getElem? (i := 229) (by decide +kernel), List.forall_mem_cons.mpr ⟨List.mem_of_getElem? (i := 231) (by decide +kernel), List.forall_mem_cons.mpr ⟨List.mem_of_getElem? (i := 233) (by decide +kernel), List.forall_mem_cons.mpr ⟨List.mem_of_getElem? (i := 235) (by decide +kernel), List.forall_mem_cons.mpr ⟨List.mem_of_getElem? (i := 237) (by decide +kernel), List.forall_mem_cons.mpr ⟨List.mem_of_getElem? (i := 239) (by decide +kernel), List.forall_mem_cons.mpr ⟨List.mem_of_getElem? (i := 241) (by decide +kernel), List.forall_mem_cons.mpr ⟨List.mem_of_getElem? (i := 243) (by decide +kernel), List.forall_mem_cons.mpr ⟨List.mem_of_getElem? (i := 245) (by decide +kernel), List.forall_mem_cons.mpr ⟨List.mem_of_getElem? (i := 247) (by decide +kernel), List.forall_mem_cons.mpr ⟨List.mem_of_getElem? (i := 249) (by decide +kernel), List.forall_mem_cons.mpr ⟨List.mem_of_getElem? (i := 251) (by decide +kernel), List.forall_mem_cons.mpr ⟨List.mem_of_getElem? (i := 253) (by decide +kernel), List.forall_mem_cons.mpr ⟨List.mem_of_getElem? (i := 255) (by decide +kernel), List.forall_mem_cons.mpr ⟨List.mem_of_getElem? (i := 257) (by decide +kernel), fun _ h => absurd h List.not_mem_nil⟩⟩⟩⟩⟩⟩⟩⟩⟩⟩⟩⟩⟩⟩⟩
theorem inX3 : ∀ w ∈ u_ws RX3 TX3 9, w ∈ lw_tbl := by
  show ∀ w ∈ [u_lay RX3 TX3 0, u_lay RX3 TX3 1, u_lay RX3 TX3 2, u_lay RX3 TX3 3, u_lay RX3 TX3 4, u_lay RX3 TX3 5, u_lay RX3 TX3 6, u_lay RX3 TX3 7, u_lay RX3 TX3 8], w ∈ lw_tbl
  exact List.forall_mem_cons.mpr ⟨List.mem_of_getElem? (i := 175) (by decide +kernel), List.forall_mem_cons.mpr ⟨List.mem_of_getElem? (i := 177) (by decide +kernel), List.forall_mem_cons.mpr ⟨List.mem_of_getElem? (i := 179) (by decide +kernel), List.forall_mem_cons.mpr ⟨List.mem_of_getElem? (i := 181) (by decide +kernel), List.forall_mem_cons.mpr ⟨List.mem_of_getElem? (i := 183) (by decide +kernel), List.forall_mem_cons.mpr ⟨List.mem_of_getElem? (i := 185) (by decide +kernel), List.forall_mem_cons.mpr ⟨List.mem_of_getElem? (i := 187) (by decide +kernel), List.forall_mem_cons.mpr ⟨List.mem_of_getElem? (i := 189) (by decide +kernel), List.forall_mem_cons.mpr ⟨List.mem_of_getElem? (i := 191) (by decide +kernel), fun _ h => absurd h List.not_mem_nil⟩⟩⟩⟩⟩⟩⟩⟩⟩
theorem inX4 : ∀ w ∈ u_ws RX4 TX4 2, w ∈ lw_tbl := by
  show ∀ w ∈ [u_lay RX4 TX4 0, u_lay RX4 TX4 1], w ∈ lw_tbl
  exact List.forall_mem_cons.mpr ⟨List.mem_of_getElem? (i := 76) (by decide +kernel), List.forall_mem_cons.mpr ⟨List.mem_of_getElem? (i := 78) (by decide +kernel), fun _ h => absurd h List.not_mem_nil⟩⟩
theorem inX5 : ∀ w ∈ u_ws RX5 TX5 12, w ∈ lw_tbl := by
  show ∀ w ∈ [u_lay RX5 TX5 0, u_lay RX5 TX5 1, u_lay RX5 TX5 2, u_lay RX5 TX5 3, u_lay RX5 TX5 4, u_lay RX5 TX5 5, u_lay RX5 TX5 6, u_lay RX5 TX5 7, u_lay RX5 TX5 8, u_lay RX5 TX5 9, u_lay RX5 TX5 10, u_lay RX5 TX5 11], w ∈ lw_tbl
  exact List.forall_mem_cons.mpr ⟨List.mem_of_getElem? (i := 292) (by decide +kernel), List.forall_mem_cons.mpr ⟨List.mem_of_getElem? (i := 294) (by decide +kernel), List.forall_mem_cons.mpr ⟨List.mem_of_getElem? (i := 296) (by decide +kernel), List.forall_mem_cons.mpr ⟨List.mem_of_getElem? (i := 298) (by decide +kernel), List.forall_mem_cons.mpr ⟨List.mem_of_getElem? (i := 300) (by decide +kernel), List.forall_mem_cons.mpr ⟨List.mem_of_getElem? (i := 302) (by decide +kernel), List.forall_mem_cons.mpr ⟨List.mem_of_getElem? (i := 304) (by decide +kernel), List.forall_mem_cons.mpr ⟨List.mem_of_getElem? (i := 306) (by decide +kernel), List.forall_mem_cons.mpr ⟨List.mem_of_getElem? (i := 308) (by decide +kernel), List.forall_mem_cons.mpr ⟨List.mem_of_getElem? (i := 310) (by decide +kernel), List.forall_mem_cons.mpr ⟨List.mem_of_getElem? (i := 312) (by decide +kernel), List.forall_mem_cons.mpr ⟨List.mem_of_getElem? (i := 314) (by decide +kernel), fun _ h => absurd h List.not_mem_nil⟩⟩⟩⟩⟩⟩⟩⟩⟩⟩⟩⟩
theorem inX6 : ∀ w ∈ u_ws RX6 TX6 27, w ∈ lw_tbl := by
  show ∀ w ∈ [u_lay RX6 TX6 0, u_lay RX6 TX6 1, u_lay RX6 TX6 2, u_lay RX6 TX6 3, u_lay RX6 TX6 4, u_lay RX6 TX6 5, u_lay RX6 TX6 6, u_lay RX6 TX6 7, u_lay RX6 TX6 8, u_lay RX6 TX6 9, u_lay RX6 TX6 10, u_lay RX6 TX6 11, u_lay RX6 TX6 12, u_lay RX6 TX6 13, u_lay RX6 TX6 14, u_lay RX6 TX6 15, u_lay RX6 TX6 16, u_lay RX6 TX6 17, u_lay RX6 TX6 18, u_lay RX6 TX6 19, u_lay RX6 TX6 20, u_lay RX6 TX6 21, u_lay RX6 TX6 22, u_lay RX6 TX6 23, u_lay RX6 TX6 24, u_lay RX6 TX6 25, u_lay RX6 TX6 26], w ∈ lw_tbl
  exact List.forall_mem_cons.mpr ⟨List.mem_of_getElem? (i := 761) (by decide +kernel), List.forall_mem_cons.mpr ⟨List.mem_of_getElem? (i := 763) (by decide +kernel), List.forall_mem_cons.mpr ⟨List.mem_of_getElem? (i := 765) (by decide +kernel), List.forall_mem_cons.mpr ⟨List.mem_of_getElem? (i := 767) (by decide +kernel), List.forall_mem_cons.mpr ⟨List.mem_of_getElem? (i := 769) (by decide +kernel), List.forall_mem_cons.mpr ⟨List.mem_of_getElem? (i := 771) (by decide +kernel), List.forall_mem_cons.mpr ⟨List.mem_of_getElem? (i := 773) (by decide +kernel), List.forall_mem_cons.mpr ⟨List.mem_of_getElem? (i := 775) (by decide +kernel), List.forall_mem_cons.mpr ⟨List.mem_of_getElem? (i := 777) (by decide +kernel), List.forall_mem_cons.mpr ⟨List.mem_of_getElem? (i := 779) (by decide +kernel), List.forall_mem_cons.mpr ⟨List.mem_of_getElem? (i := 781) (by decide +kernel), List.forall_mem_cons.mpr ⟨List.mem_of_getElem? (i := 783) (by decide +kernel), List.forall_mem_cons.mpr ⟨List.mem_of_getElem? (i := 785) (by decide +kernel), List.forall_mem_cons.mpr ⟨List.mem_of_getElem? (i := 787) (by decide +kernel), List.forall_mem_cons.mpr ⟨List.mem_of_getElem? (i := 789) (by decide +kernel), List.forall_mem_cons.mpr ⟨List.mem_of_getElem? (i := 791) (by decide +kernel), List.forall_mem_cons.mpr ⟨List.mem_of_getElem? (i := 793) (by decide +kernel), List.forall_mem_cons.mpr ⟨List.mem_of_getElem? (i := 795) (by decide +kernel), List.forall_mem_cons.mpr ⟨List.mem_of_getElem? (i := 797) (by decide +kernel), List.forall_mem_cons.mpr ⟨List.mem_of_getElem? (i := 799) (by decide +kernel), List.forall_mem_cons.mpr ⟨List.mem_of_getElem? (i := 801) (by decide +kernel), List.forall_mem_cons.mpr ⟨List.mem_of_getElem? (i := 803) (by decide +kernel), List.forall_mem_cons.mpr ⟨List.mem_of_getElem? (i := 805) (by decide +kernel), List.forall_mem_cons.mpr ⟨List.mem_of_getElem? (i := 807) (by decide +kernel), List.forall_mem_cons.mpr ⟨List.mem_of_getElem? (i := 809) (by decide +kernel), List.forall_mem_cons.mpr ⟨List.mem_of_getElem? (i := 811) (by decide +kernel), List.forall_mem_cons.mpr ⟨List.mem_of_getElem? (i := 813) (by decide +kernel), fun _ h => absurd h List.not_mem_nil⟩⟩⟩⟩⟩⟩⟩⟩⟩⟩⟩⟩⟩⟩⟩⟩⟩⟩⟩⟩⟩⟩⟩⟩⟩⟩⟩
/-- a field's link: class of the code, entry, the field's class (a number) and slot -/
def FA (own : String) (idx ci k : Nat) : Prop := ∃ (C : String) (T : u_T) (N : Nat) (ty : Nat → FieldType), vwCl[ci]? = some (C, T, N) ∧ nf ci = N ∧ k < N ∧ (∀ w ∈ u_ws C T N, w ∈ lw_tbl) ∧ (∀ k, k < N → parseFieldDescriptor (T k).2.2.1 = some (ty k)) ∧ (∀ a, a < N → ∀ b, b < N → a ≠ b → (T a).2.1 ≠ (T b).2.1) ∧ Cond.fieldLink own idx (T k).1 (T k).2.1 (T k).2.2.1 ∈ lw_tbl ∧ (fk ci k = 0 → ty k = .int ∧ (T k).2.2.2 = false) ∧ (fk ci k = 1 → ty k = .boolean ∧ (T k).2.2.2 = false) ∧ (fk ci k = 2 → ty k = .long ∧ (T k).2.2.2 = false) ∧ (fk ci k = 3 → refKind (ty k) = true ∧ (T k).2.2.2 = true ∧ (T k).1 = C) ∧ ci < 7
theorem fa0 {own : String} {idx k : Nat} (hk : k < 3) (hw : Cond.fieldLink own idx (TX0 k).1 (TX0 k).2.1 (TX0 k).2.2.1 ∈ lw_tbl) : FA own idx 0 k := ⟨RX0, TX0, 3, tyX0, rfl, rfl, hk, inX0, tyX0_ok, nmX0, hw, (show ∀ k, k < 3 → fk 0 k = 0 → tyX0 k = .int ∧ (TX0 k).2.2.2 = false by decide +kernel) k hk, (show ∀ k, k < 3 → fk 0 k = 1 → tyX0 k = .boolean ∧ (TX0 k).2.2.2 = false by decide +kernel) k hk, (show ∀ k, k < 3 → fk 0 k = 2 → tyX0 k = .long ∧ (TX0 k).2.2.2 = false by decide +kernel) k hk, (show ∀ k, k < 3 → fk 0 k = 3 → refKind (tyX0 k) = true ∧ (TX0 k).2.2.2 = true ∧ (TX0 k).1 = RX0 by decide +kernel) k hk, by decide⟩
theorem fa1 {own : String} {idx k : Nat} (hk : k < 9) (hw : Cond.fieldLink own idx (TX1 k).1 (TX1 k).2.1 (TX1 k).2.2.1 ∈ lw_tbl) : FA own idx 1 k := ⟨RX1, TX1, 9, tyX1, rfl, rfl, hk, inX1, tyX1_ok, nmX1, hw, (show ∀ k, k < 9 → fk 1 k = 0 → tyX1 k = .int ∧ (TX1 k).2.2.2 = false by decide +kernel) k hk, (show ∀ k, k < 9 → fk 1 k = 1 → tyX1 k = .boolean ∧ (TX1 k).2.2.2 = false by decide +kernel) k hk, (show ∀ k, k < 9 → fk 1 k = 2 → tyX1 k = .long ∧ (TX1 k).2.2.2 = false by decide +kernel) k hk, (show ∀ k, k < 9 → fk 1 k = 3 → refKind (tyX1 k) = true ∧ (TX1 k).2.2.2 = true ∧ (TX1 k).1 = RX1 by decide +kernel) k hk, by decide⟩
theorem fa2 {own : String} {idx k : Nat} (hk : k < 15) (hw : Cond.fieldLink own idx (TX2 k).1 (TX2 k).2.1 (TX2 k).2.2.1 ∈ lw_tbl) : FA own idx 2 k := ⟨RX2, TX2, 15, tyX2, rfl, rfl, hk, inX2, tyX2_ok, nmX2, hw, (show ∀ k, k < 15 → fk 2 k = 0 → tyX2 k = .int ∧ (TX2 k).2.2.2 = false by decide +kernel) k hk, (show ∀ k, k < 15 → fk 2 k = 1 → tyX2 k = .boolean ∧ (TX2 k).2.2.2 = false by decide +kernel) k hk, (show ∀ k, k < 15 → fk 2 k = 2 → tyX2 k = .long ∧ (TX2 k).2.2.2 = false by decide +kernel) k hk, (show ∀ k, k < 15 → fk 2 k = 3 → refKind (tyX2 k) = true ∧ (TX2 k).2.2.2 = true ∧ (TX2 k).1 = RX2 by decide +kernel) k hk, by decide⟩
theorem fa3 {own : String} {idx k : Nat} (hk : k < 9) (hw : Cond.fieldLink own idx (TX3 k).1 (TX3 k).2.1 (TX3 k).2.2.1 ∈ lw_tbl) : FA own idx 3 k := ⟨RX3, TX3, 9, tyX3, rfl, rfl, hk, inX3, tyX3_ok, nmX3, hw, (show ∀ k, k < 9 → fk 3 k = 0 → tyX3 k = .int ∧ (TX3 k).2.2.2 = false by decide +kernel) k hk, (show ∀ k, k < 9 → fk 3 k = 1 → tyX3 k = .boolean ∧ (TX3 k).2.2.2 = false by decide +kernel) k hk, (show ∀ k, k < 9 → fk 3 k = 2 → tyX3 k = .long ∧ (TX3 k).2.2.2 = false by decide +kernel) k hk, (show ∀ k, k < 9 → fk 3 k = 3 → refKind (tyX3 k) = true ∧ (TX3 k).2.2.2 = true ∧ (TX3 k).1 = RX3 by decide +kernel) k hk, by decide⟩
theorem fa4 {own : String} {idx k : Nat} (hk : k < 2) (hw : Cond.fieldLink own idx (TX4 k).1 (TX4 k).2.1 (TX4 k).2.2.1 ∈ lw_tbl) : FA own idx 4 k := ⟨RX4, TX4, 2, tyX4, rfl, rfl, hk, inX4, tyX4_ok, nmX4, hw, (show ∀ k, k < 2 → fk 4 k = 0 → tyX4 k = .int ∧ (TX4 k).2.2.2 = false by decide +kernel) k hk, (show ∀ k, k < 2 → fk 4 k = 1 → tyX4 k = .boolean ∧ (TX4 k).2.2.2 = false by decide +kernel) k hk, (show ∀ k, k < 2 → fk 4 k = 2 → tyX4 k = .long ∧ (TX4 k).2.2.2 = false by decide +kernel) k hk, (show ∀ k, k < 2 → fk 4 k = 3 → refKind (tyX4 k) = true ∧ (TX4 k).2.2.2 = true ∧ (TX4 k).1 = RX4 by decide +kernel) k hk, by decide⟩
theorem fa5 {own : String} {idx k : Nat} (hk : k < 12) (hw : Cond.fieldLink own idx (TX5 k).1 (TX5 k).2.1 (TX5 k).2.2.1 ∈ lw_tbl) : FA own idx 5 k := ⟨RX5, TX5, 12, tyX5, rfl, rfl, hk, inX5, tyX5_ok, nmX5, hw, (show ∀ k, k < 12 → fk 5 k = 0 → tyX5 k = .int ∧ (TX5 k).2.2.2 = false by decide +kernel) k hk, (show ∀ k, k < 12 → fk 5 k = 1 → tyX5 k = .boolean ∧ (TX5 k).2.2.2 = false by decide +kernel) k hk, (show ∀ k, k < 12 → fk 5 k = 2 → tyX5 k = .long ∧ (TX5 k).2.2.2 = false by decide +kernel) k hk, (show ∀ k, k < 12 → fk 5 k = 3 → refKind (tyX5 k) = true ∧ (TX5 k).2.2.2 = true ∧ (TX5 k).1 = RX5 by decide +kernel) k hk, by decide⟩
theorem fa6 {own : String} {idx k : Nat} (hk : k < 27) (hw : Cond.fieldLink own idx (TX6 k).1 (TX6 k).2.1 (TX6 k).2.2.1 ∈ lw_tbl) : FA own idx 6 k := ⟨RX6, TX6, 27, tyX6, rfl, rfl, hk, inX6, tyX6_ok, nmX6, hw, (show ∀ k, k < 27 → fk 6 k = 0 → tyX6 k = .int ∧ (TX6 k).2.2.2 = false by decide +kernel) k hk, (show ∀ k, k < 27 → fk 6 k = 1 → tyX6 k = .boolean ∧ (TX6 k).2.2.2 = false by decide +kernel) k hk, (show ∀ k, k < 27 → fk 6 k = 2 → tyX6 k = .long ∧ (TX6 k).2.2.2 = false by decide +kernel) k hk, (show ∀ k, k < 27 → fk 6 k = 3 → refKind (tyX6 k) = true ∧ (TX6 k).2.2.2 = true ∧ (TX6 k).1 = RX6 by decide +kernel) k hk, by decide⟩
theorem fX4_11 : FA RX4 11 4 0 := fa4 (by decide) (List.mem_of_getElem? (i := 73) (by decide +kernel))
theorem fX4_15 : FA RX4 15 4 1 := fa4 (by decide) (List.mem_of_getElem? (i := 74) (by decide +kernel))
theorem fX5_70 : FA RX5 70 4 1 := fa4 (by decide) (List.mem_of_getElem? (i := 75) (by decide +kernel))
theorem fX1_9 : FA RX1 9 1 0 := fa1 (by decide) (List.mem_of_getElem? (i := 110) (by decide +kernel))
theorem fX5_112 : FA RX5 112 1 0 := fa1 (by decide) (List.mem_of_getElem? (i := 111) (by decide +kernel))
theorem fX1_15 : FA RX1 15 1 1 := fa1 (by decide) (List.mem_of_getElem? (i := 112) (by decide +kernel))
theorem fX1_18 : FA RX1 18 1 2 := fa1 (by decide) (List.mem_of_getElem? (i := 113) (by decide +kernel))
theorem fX1_21 : FA RX1 21 1 3 := fa1 (by decide) (List.mem_of_getElem? (i := 114) (by decide +kernel))
theorem fX1_24 : FA RX1 24 1 4 := fa1 (by decide) (List.mem_of_getElem? (i := 115) (by decide +kernel))
theorem fX5_87 : FA RX5 87 1 4 := fa1 (by decide) (List.mem_of_getElem? (i := 116) (by decide +kernel))
theorem fX1_28 : FA RX1 28 1 5 := fa1 (by decide) (List.mem_of_getElem? (i := 117) (by decide +kernel))
theorem fX5_90 : FA RX5 90 1 5 := fa1 (by decide) (List.mem_of_getElem? (i := 118) (by decide +kernel))
theorem fX1_31 : FA RX1 31 1 6 := fa1 (by decide) (List.mem_of_getElem? (i := 119) (by decide +kernel))
theorem fX5_93 : FA RX5 93 1 6 := fa1 (by decide) (List.mem_of_getElem? (i := 120) (by decide +kernel))
theorem fX2_119 : FA RX2 119 1 6 := fa1 (by decide) (List.mem_of_getElem? (i := 121) (by decide +kernel))
theorem fX1_34 : FA RX1 34 1 7 := fa1 (by decide) (List.mem_of_getElem? (i := 122) (by decide +kernel))
theorem fX5_99 : FA RX5 99 1 7 := fa1 (by decide) (List.mem_of_getElem? (i := 123) (by decide +kernel))
theorem fX1_37 : FA RX1 37 1 8 := fa1 (by decide) (List.mem_of_getElem? (i := 124) (by decide +kernel))
theorem fX5_102 : FA RX5 102 1 8 := fa1 (by decide) (List.mem_of_getElem? (i := 125) (by decide +kernel))
theorem fX3_11 : FA RX3 11 3 0 := fa3 (by decide) (List.mem_of_getElem? (i := 157) (by decide +kernel))
theorem fX5_136 : FA RX5 136 3 0 := fa3 (by decide) (List.mem_of_getElem? (i := 158) (by decide +kernel))
theorem fX3_15 : FA RX3 15 3 1 := fa3 (by decide) (List.mem_of_getElem? (i := 159) (by decide +kernel))
theorem fX5_149 : FA RX5 149 3 1 := fa3 (by decide) (List.mem_of_getElem? (i := 160) (by decide +kernel))
theorem fX3_18 : FA RX3 18 3 2 := fa3 (by decide) (List.mem_of_getElem? (i := 161) (by decide +kernel))
theorem fX5_158 : FA RX5 158 3 2 := fa3 (by decide) (List.mem_of_getElem? (i := 162) (by decide +kernel))
theorem fX3_21 : FA RX3 21 3 3 := fa3 (by decide) (List.mem_of_getElem? (i := 163) (by decide +kernel))
theorem fX5_155 : FA RX5 155 3 3 := fa3 (by decide) (List.mem_of_getElem? (i := 164) (by decide +kernel))
theorem fX3_30 : FA RX3 30 3 4 := fa3 (by decide) (List.mem_of_getElem? (i := 165) (by decide +kernel))
theorem fX5_133 : FA RX5 133 3 4 := fa3 (by decide) (List.mem_of_getElem? (i := 166) (by decide +kernel))
theorem fX3_34 : FA RX3 34 3 5 := fa3 (by decide) (List.mem_of_getElem? (i := 167) (by decide +kernel))
theorem fX5_119 : FA RX5 119 3 5 := fa3 (by decide) (List.mem_of_getElem? (i := 168) (by decide +kernel))
theorem fX3_37 : FA RX3 37 3 6 := fa3 (by decide) (List.mem_of_getElem? (i := 169) (by decide +kernel))
theorem fX5_124 : FA RX5 124 3 6 := fa3 (by decide) (List.mem_of_getElem? (i := 170) (by decide +kernel))
theorem fX3_40 : FA RX3 40 3 7 := fa3 (by decide) (List.mem_of_getElem? (i := 171) (by decide +kernel))
theorem fX5_127 : FA RX5 127 3 7 := fa3 (by decide) (List.mem_of_getElem? (i := 172) (by decide +kernel))
theorem fX3_43 : FA RX3 43 3 8 := fa3 (by decide) (List.mem_of_getElem? (i := 173) (by decide +kernel))
theorem fX5_130 : FA RX5 130 3 8 := fa3 (by decide) (List.mem_of_getElem? (i := 174) (by decide +kernel))
theorem fX2_12 : FA RX2 12 2 0 := fa2 (by decide) (List.mem_of_getElem? (i := 208) (by decide +kernel))
theorem fX5_115 : FA RX5 115 2 0 := fa2 (by decide) (List.mem_of_getElem? (i := 209) (by decide +kernel))
theorem fX2_18 : FA RX2 18 2 1 := fa2 (by decide) (List.mem_of_getElem? (i := 210) (by decide +kernel))
theorem fX5_143 : FA RX5 143 2 1 := fa2 (by decide) (List.mem_of_getElem? (i := 211) (by decide +kernel))
theorem fX2_25 : FA RX2 25 2 2 := fa2 (by decide) (List.mem_of_getElem? (i := 212) (by decide +kernel))
theorem fX2_29 : FA RX2 29 2 3 := fa2 (by decide) (List.mem_of_getElem? (i := 213) (by decide +kernel))
theorem fX5_283 : FA RX5 283 2 3 := fa2 (by decide) (List.mem_of_getElem? (i := 214) (by decide +kernel))
theorem fX2_32 : FA RX2 32 2 4 := fa2 (by decide) (List.mem_of_getElem? (i := 215) (by decide +kernel))
theorem fX2_35 : FA RX2 35 2 5 := fa2 (by decide) (List.mem_of_getElem? (i := 216) (by decide +kernel))
theorem fX5_236 : FA RX5 236 2 5 := fa2 (by decide) (List.mem_of_getElem? (i := 217) (by decide +kernel))
theorem fX2_39 : FA RX2 39 2 6 := fa2 (by decide) (List.mem_of_getElem? (i := 218) (by decide +kernel))
theorem fX2_42 : FA RX2 42 2 7 := fa2 (by decide) (List.mem_of_getElem? (i := 219) (by decide +kernel))
theorem fX2_45 : FA RX2 45 2 8 := fa2 (by decide) (List.mem_of_getElem? (i := 220) (by decide +kernel))
theorem fX2_48 : FA RX2 48 2 9 := fa2 (by decide) (List.mem_of_getElem? (i := 221) (by decide +kernel))
theorem fX5_211 : FA RX5 211 2 9 := fa2 (by decide) (List.mem_of_getElem? (i := 222) (by decide +kernel))
theorem fX2_51 : FA RX2 51 2 10 := fa2 (by decide) (List.mem_of_getElem? (i := 223) (by decide +kernel))
theorem fX5_214 : FA RX5 214 2 10 := fa2 (by decide) (List.mem_of_getElem? (i := 224) (by decide +kernel))
theorem fX2_54 : FA RX2 54 2 11 := fa2 (by decide) (List.mem_of_getElem? (i := 225) (by decide +kernel))
theorem fX2_57 : FA RX2 57 2 12 := fa2 (by decide) (List.mem_of_getElem? (i := 226) (by decide +kernel))
theorem fX2_60 : FA RX2 60 2 13 := fa2 (by decide) (List.mem_of_getElem? (i := 227) (by decide +kernel))
theorem fX2_63 : FA RX2 63 2 14 := fa2 (by decide) (List.mem_of_getElem? (i := 228) (by decide +kernel))
theorem fX0_11 : FA RX0 11 0 0 := fa0 (by decide) (List.mem_of_getElem? (i := 269) (by decide +kernel))
theorem fX0_17 : FA RX0 17 0 1 := fa0 (by decide) (List.mem_of_getElem? (i := 270) (by decide +kernel))
theorem fX0_21 : FA RX0 21 0 2 := fa0 (by decide) (List.mem_of_getElem? (i := 271) (by decide +kernel))
theorem fX5_96 : FA RX5 96 0 2 := fa0 (by decide) (List.mem_of_getElem? (i := 272) (by decide +kernel))
theorem fX5_10 : FA RX5 10 5 0 := fa5 (by decide) (List.mem_of_getElem? (i := 280) (by decide +kernel))
theorem fX5_19 : FA RX5 19 5 1 := fa5 (by decide) (List.mem_of_getElem? (i := 281) (by decide +kernel))
theorem fX5_26 : FA RX5 26 5 2 := fa5 (by decide) (List.mem_of_getElem? (i := 282) (by decide +kernel))
theorem fX5_33 : FA RX5 33 5 3 := fa5 (by decide) (List.mem_of_getElem? (i := 283) (by decide +kernel))
theorem fX5_37 : FA RX5 37 5 4 := fa5 (by decide) (List.mem_of_getElem? (i := 284) (by decide +kernel))
theorem fX5_41 : FA RX5 41 5 5 := fa5 (by decide) (List.mem_of_getElem? (i := 285) (by decide +kernel))
theorem fX5_45 : FA RX5 45 5 6 := fa5 (by decide) (List.mem_of_getElem? (i := 286) (by decide +kernel))
theorem fX5_48 : FA RX5 48 5 7 := fa5 (by decide) (List.mem_of_getElem? (i := 287) (by decide +kernel))
theorem fX5_52 : FA RX5 52 5 8 := fa5 (by decide) (List.mem_of_getElem? (i := 288) (by decide +kernel))
theorem fX5_55 : FA RX5 55 5 9 := fa5 (by decide) (List.mem_of_getElem? (i := 289) (by decide +kernel))
theorem fX5_58 : FA RX5 58 5 10 := fa5 (by decide) (List.mem_of_getElem? (i := 290) (by decide +kernel))
theorem fX5_62 : FA RX5 62 5 11 := fa5 (by decide) (List.mem_of_getElem? (i := 291) (by decide +kernel))
theorem fX6_7 : FA RX6 7 6 0 := fa6 (by decide) (List.mem_of_getElem? (i := 734) (by decide +kernel))
theorem fX6_94 : FA RX6 94 6 1 := fa6 (by decide) (List.mem_of_getElem? (i := 735) (by decide +kernel))
theorem fX6_53 : FA RX6 53 6 2 := fa6 (by decide) (List.mem_of_getElem? (i := 736) (by decide +kernel))
theorem fX6_13 : FA RX6 13 6 3 := fa6 (by decide) (List.mem_of_getElem? (i := 737) (by decide +kernel))
theorem fX6_82 : FA RX6 82 6 4 := fa6 (by decide) (List.mem_of_getElem? (i := 738) (by decide +kernel))
theorem fX6_57 : FA RX6 57 6 5 := fa6 (by decide) (List.mem_of_getElem? (i := 739) (by decide +kernel))
theorem fX6_16 : FA RX6 16 6 6 := fa6 (by decide) (List.mem_of_getElem? (i := 740) (by decide +kernel))
theorem fX6_19 : FA RX6 19 6 7 := fa6 (by decide) (List.mem_of_getElem? (i := 741) (by decide +kernel))
theorem fX6_76 : FA RX6 76 6 8 := fa6 (by decide) (List.mem_of_getElem? (i := 742) (by decide +kernel))
theorem fX6_79 : FA RX6 79 6 9 := fa6 (by decide) (List.mem_of_getElem? (i := 743) (by decide +kernel))
theorem fX6_22 : FA RX6 22 6 10 := fa6 (by decide) (List.mem_of_getElem? (i := 744) (by decide +kernel))
theorem fX6_25 : FA RX6 25 6 11 := fa6 (by decide) (List.mem_of_getElem? (i := 745) (by decide +kernel))
theorem fX6_28 : FA RX6 28 6 12 := fa6 (by decide) (List.mem_of_getElem? (i := 746) (by decide +kernel))
theorem fX6_118 : FA RX6 118 6 13 := fa6 (by decide) (List.mem_of_getElem? (i := 747) (by decide +kernel))
theorem fX6_198 : FA RX6 198 6 14 := fa6 (by decide) (List.mem_of_getElem? (i := 748) (by decide +kernel))
theorem fX6_31 : FA RX6 31 6 15 := fa6 (by decide) (List.mem_of_getElem? (i := 749) (by decide +kernel))
theorem fX6_34 : FA RX6 34 6 16 := fa6 (by decide) (List.mem_of_getElem? (i := 750) (by decide +kernel))
theorem fX6_38 : FA RX6 38 6 17 := fa6 (by decide) (List.mem_of_getElem? (i := 751) (by decide +kernel))
theorem fX6_41 : FA RX6 41 6 18 := fa6 (by decide) (List.mem_of_getElem? (i := 752) (by decide +kernel))
theorem fX6_44 : FA RX6 44 6 19 := fa6 (by decide) (List.mem_of_getElem? (i := 753) (by decide +kernel))
theorem fX6_174 : FA RX6 174 6 20 := fa6 (by decide) (List.mem_of_getElem? (i := 754) (by decide +kernel))
theorem fX6_243 : FA RX6 243 6 21 := fa6 (by decide) (List.mem_of_getElem? (i := 755) (by decide +kernel))
theorem fX6_47 : FA RX6 47 6 22 := fa6 (by decide) (List.mem_of_getElem? (i := 756) (by decide +kernel))
theorem fX6_99 : FA RX6 99 6 23 := fa6 (by decide) (List.mem_of_getElem? (i := 757) (by decide +kernel))
theorem fX6_50 : FA RX6 50 6 24 := fa6 (by decide) (List.mem_of_getElem? (i := 758) (by decide +kernel))
theorem fX6_105 : FA RX6 105 6 25 := fa6 (by decide) (List.mem_of_getElem? (i := 759) (by decide +kernel))
theorem fX6_108 : FA RX6 108 6 26 := fa6 (by decide) (List.mem_of_getElem? (i := 760) (by decide +kernel))
/-- a method's words -/
def MW (μ : MT) (n : Nat) : Prop := Cond.code μ.1 μ.2.1 μ.2.2.1 μ.2.2.2 ∈ lw_tbl ∧ Cond.initialized μ.1.cls ∈ lw_tbl ∧ (μ.1.cls ≠ "java/lang/invoke/MethodHandle" ∧ μ.1.cls ≠ "java/lang/invoke/VarHandle") ∧ (parseMethodDescriptor μ.1.desc).map (fun d => d.parameters.length) = some n ∧ μ.2.2.1 ≤ 40
def lkV (own : String) (idx : Nat) (μ : MT) (n ci : Nat) : Prop := MW μ n ∧ Cond.methodLink own idx μ.1 ∈ lw_tbl ∧ Cond.instanceMethod μ.1 ∈ lw_tbl ∧ Cond.selects μ.1.cls μ.1 μ.1 ∈ lw_tbl ∧ (∃ (T : u_T) (N : Nat), vwCl[ci]? = some (μ.1.cls, T, N)) ∧ ci < 7
def lkS (own : String) (idx : Nat) (μ : MT) (n : Nat) : Prop := MW μ n ∧ Cond.methodLink own idx μ.1 ∈ lw_tbl ∧ Cond.static μ.1 ∈ lw_tbl
def lkN (own : String) (idx : Nat) (μ : MT) (n : Nat) : Prop := MW μ n ∧ Cond.methodLinkNest own idx μ.1 RX5 ∈ lw_tbl ∧ Cond.static μ.1 ∈ lw_tbl
def lkI (own : String) (idx : Nat) (μ : MT) (n : Nat) : Prop := MW μ n ∧ Cond.methodLink own idx μ.1 ∈ lw_tbl ∧ Cond.instanceMethod μ.1 ∈ lw_tbl ∧ μ.1.name = "<init>" ∧ μ.2.2.2 = none
def lkX (own : String) (idx : Nat) (μ : MT) (n : Nat) : Prop := MW μ n ∧ Cond.methodLinkNest own idx μ.1 RX5 ∈ lw_tbl ∧ Cond.instanceMethod μ.1 ∈ lw_tbl ∧ μ.1.name = "<init>" ∧ μ.2.2.2 = none
abbrev mX5_init : MT := (yX5_init, cX5_init, 2, none)
theorem wX5_init : MW mX5_init 0 := ⟨List.mem_of_getElem? (i := 63) (by decide +kernel), List.mem_of_getElem? (i := 48) (by decide +kernel), by decide +kernel, by decide +kernel, by decide⟩
abbrev mX4_init : MT := (yX4_init, cX4_init, 1, none)
theorem wX4_init : MW mX4_init 0 := ⟨List.mem_of_getElem? (i := 71) (by decide +kernel), List.mem_of_getElem? (i := 49) (by decide +kernel), by decide +kernel, by decide +kernel, by decide⟩
abbrev mX1_init : MT := (yX1_init, cX1_init, 2, none)
theorem wX1_init : MW mX1_init 0 := ⟨List.mem_of_getElem? (i := 86) (by decide +kernel), List.mem_of_getElem? (i := 50) (by decide +kernel), by decide +kernel, by decide +kernel, by decide⟩
abbrev mX1_fillRows : MT := (yX1_fillRows, cX1_fillRows, 4, none)
theorem wX1_fillRows : MW mX1_fillRows 0 := ⟨List.mem_of_getElem? (i := 91) (by decide +kernel), List.mem_of_getElem? (i := 50) (by decide +kernel), by decide +kernel, by decide +kernel, by decide⟩
abbrev mJ7_fill_53178 : MT := (yJ7_fill_53178, cJ7_fill_53178, 4, none)
theorem wJ7_fill_53178 : MW mJ7_fill_53178 2 := ⟨List.mem_of_getElem? (i := 94) (by decide +kernel), List.mem_of_getElem? (i := 51) (by decide +kernel), by decide +kernel, by decide +kernel, by decide⟩
abbrev mX1_findBursts : MT := (yX1_findBursts, cX1_findBursts, 3, none)
theorem wX1_findBursts : MW mX1_findBursts 0 := ⟨List.mem_of_getElem? (i := 98) (by decide +kernel), List.mem_of_getElem? (i := 50) (by decide +kernel), by decide +kernel, by decide +kernel, by decide⟩
abbrev mX1_noteBurst : MT := (yX1_noteBurst, cX1_noteBurst, 3, none)
theorem wX1_noteBurst : MW mX1_noteBurst 1 := ⟨List.mem_of_getElem? (i := 102) (by decide +kernel), List.mem_of_getElem? (i := 50) (by decide +kernel), by decide +kernel, by decide +kernel, by decide⟩
abbrev mX1_restOf : MT := (yX1_restOf, cX1_restOf, 2, (some .int))
theorem wX1_restOf : MW mX1_restOf 1 := ⟨List.mem_of_getElem? (i := 106) (by decide +kernel), List.mem_of_getElem? (i := 50) (by decide +kernel), by decide +kernel, by decide +kernel, by decide⟩
abbrev mJ9_max_7cf53 : MT := (yJ9_max_7cf53, cJ9_max_7cf53, 2, (some .int))
theorem wJ9_max_7cf53 : MW mJ9_max_7cf53 2 := ⟨List.mem_of_getElem? (i := 109) (by decide +kernel), List.mem_of_getElem? (i := 52) (by decide +kernel), by decide +kernel, by decide +kernel, by decide⟩
abbrev mX2_init : MT := (yX2_init, cX2_init, 1, none)
theorem wX2_init : MW mX2_init 0 := ⟨List.mem_of_getElem? (i := 149) (by decide +kernel), List.mem_of_getElem? (i := 53) (by decide +kernel), by decide +kernel, by decide +kernel, by decide⟩
abbrev mX3_init : MT := (yX3_init, cX3_init, 1, none)
theorem wX3_init : MW mX3_init 0 := ⟨List.mem_of_getElem? (i := 155) (by decide +kernel), List.mem_of_getElem? (i := 54) (by decide +kernel), by decide +kernel, by decide +kernel, by decide⟩
abbrev mX2_clear : MT := (yX2_clear, cX2_clear, 1, none)
theorem wX2_clear : MW mX2_clear 0 := ⟨List.mem_of_getElem? (i := 197) (by decide +kernel), List.mem_of_getElem? (i := 53) (by decide +kernel), by decide +kernel, by decide +kernel, by decide⟩
abbrev mX3_clear : MT := (yX3_clear, cX3_clear, 1, none)
theorem wX3_clear : MW mX3_clear 0 := ⟨List.mem_of_getElem? (i := 202) (by decide +kernel), List.mem_of_getElem? (i := 54) (by decide +kernel), by decide +kernel, by decide +kernel, by decide⟩
abbrev mX3_clearNames : MT := (yX3_clearNames, cX3_clearNames, 1, none)
theorem wX3_clearNames : MW mX3_clearNames 0 := ⟨List.mem_of_getElem? (i := 207) (by decide +kernel), List.mem_of_getElem? (i := 54) (by decide +kernel), by decide +kernel, by decide +kernel, by decide⟩
abbrev mX0_init : MT := (yX0_init, cX0_init, 2, none)
theorem wX0_init : MW mX0_init 0 := ⟨List.mem_of_getElem? (i := 264) (by decide +kernel), List.mem_of_getElem? (i := 55) (by decide +kernel), by decide +kernel, by decide +kernel, by decide⟩
abbrev mX5_write : MT := (yX5_write, cX5_write, 2, (some .int))
theorem wX5_write : MW mX5_write 1 := ⟨List.mem_of_getElem? (i := 321) (by decide +kernel), List.mem_of_getElem? (i := 48) (by decide +kernel), by decide +kernel, by decide +kernel, by decide⟩
abbrev mX4_add : MT := (yX4_add, cX4_add, 2, (some .boolean))
theorem wX4_add : MW mX4_add 1 := ⟨List.mem_of_getElem? (i := 325) (by decide +kernel), List.mem_of_getElem? (i := 49) (by decide +kernel), by decide +kernel, by decide +kernel, by decide⟩
abbrev mX5_wipe : MT := (yX5_wipe, cX5_wipe, 2, (some .int))
theorem wX5_wipe : MW mX5_wipe 0 := ⟨List.mem_of_getElem? (i := 329) (by decide +kernel), List.mem_of_getElem? (i := 48) (by decide +kernel), by decide +kernel, by decide +kernel, by decide⟩
abbrev mX5_fault : MT := (yX5_fault, cX5_fault, 1, (some .int))
theorem wX5_fault : MW mX5_fault 0 := ⟨List.mem_of_getElem? (i := 333) (by decide +kernel), List.mem_of_getElem? (i := 48) (by decide +kernel), by decide +kernel, by decide +kernel, by decide⟩
abbrev mX4_firstFault : MT := (yX4_firstFault, cX4_firstFault, 3, (some .int))
theorem wX4_firstFault : MW mX4_firstFault 0 := ⟨List.mem_of_getElem? (i := 337) (by decide +kernel), List.mem_of_getElem? (i := 49) (by decide +kernel), by decide +kernel, by decide +kernel, by decide⟩
abbrev mJ9_min_7cf53 : MT := (yJ9_min_7cf53, cJ9_min_7cf53, 2, (some .int))
theorem wJ9_min_7cf53 : MW mJ9_min_7cf53 2 := ⟨List.mem_of_getElem? (i := 340) (by decide +kernel), List.mem_of_getElem? (i := 52) (by decide +kernel), by decide +kernel, by decide +kernel, by decide⟩
abbrev mX4_fits : MT := (yX4_fits, cX4_fits, 3, (some .boolean))
theorem wX4_fits : MW mX4_fits 1 := ⟨List.mem_of_getElem? (i := 344) (by decide +kernel), List.mem_of_getElem? (i := 49) (by decide +kernel), by decide +kernel, by decide +kernel, by decide⟩
abbrev mX4_figureAt : MT := (yX4_figureAt, cX4_figureAt, 2, (some .int))
theorem wX4_figureAt : MW mX4_figureAt 1 := ⟨List.mem_of_getElem? (i := 348) (by decide +kernel), List.mem_of_getElem? (i := 49) (by decide +kernel), by decide +kernel, by decide +kernel, by decide⟩
abbrev mX4_endsNumber : MT := (yX4_endsNumber, cX4_endsNumber, 4, (some .boolean))
theorem wX4_endsNumber : MW mX4_endsNumber 1 := ⟨List.mem_of_getElem? (i := 352) (by decide +kernel), List.mem_of_getElem? (i := 49) (by decide +kernel), by decide +kernel, by decide +kernel, by decide⟩
abbrev mX4_numberAt : MT := (yX4_numberAt, cX4_numberAt, 2, (some .int))
theorem wX4_numberAt : MW mX4_numberAt 1 := ⟨List.mem_of_getElem? (i := 356) (by decide +kernel), List.mem_of_getElem? (i := 49) (by decide +kernel), by decide +kernel, by decide +kernel, by decide⟩
abbrev mX5_station : MT := (yX5_station, cX5_station, 2, (some .int))
theorem wX5_station : MW mX5_station 0 := ⟨List.mem_of_getElem? (i := 360) (by decide +kernel), List.mem_of_getElem? (i := 48) (by decide +kernel), by decide +kernel, by decide +kernel, by decide⟩
abbrev mX1_takeFrom : MT := (yX1_takeFrom, cX1_takeFrom, 3, none)
theorem wX1_takeFrom : MW mX1_takeFrom 1 := ⟨List.mem_of_getElem? (i := 364) (by decide +kernel), List.mem_of_getElem? (i := 50) (by decide +kernel), by decide +kernel, by decide +kernel, by decide⟩
abbrev mX0_forget : MT := (yX0_forget, cX0_forget, 1, none)
theorem wX0_forget : MW mX0_forget 0 := ⟨List.mem_of_getElem? (i := 371) (by decide +kernel), List.mem_of_getElem? (i := 55) (by decide +kernel), by decide +kernel, by decide +kernel, by decide⟩
abbrev mX5_about : MT := (yX5_about, cX5_about, 2, (some .int))
theorem wX5_about : MW mX5_about 1 := ⟨List.mem_of_getElem? (i := 375) (by decide +kernel), List.mem_of_getElem? (i := 48) (by decide +kernel), by decide +kernel, by decide +kernel, by decide⟩
abbrev mX2_tell : MT := (yX2_tell, cX2_tell, 2, (some .int))
theorem wX2_tell : MW mX2_tell 1 := ⟨List.mem_of_getElem? (i := 379) (by decide +kernel), List.mem_of_getElem? (i := 53) (by decide +kernel), by decide +kernel, by decide +kernel, by decide⟩
abbrev mX2_syncBit : MT := (yX2_syncBit, cX2_syncBit, 1, (some .int))
theorem wX2_syncBit : MW mX2_syncBit 0 := ⟨List.mem_of_getElem? (i := 383) (by decide +kernel), List.mem_of_getElem? (i := 53) (by decide +kernel), by decide +kernel, by decide +kernel, by decide⟩
abbrev mX5_offset : MT := (yX5_offset, cX5_offset, 2, (some .int))
theorem wX5_offset : MW mX5_offset 1 := ⟨List.mem_of_getElem? (i := 387) (by decide +kernel), List.mem_of_getElem? (i := 48) (by decide +kernel), by decide +kernel, by decide +kernel, by decide⟩
abbrev mX5_isOffset : MT := (yX5_isOffset, cX5_isOffset, 1, (some .boolean))
theorem wX5_isOffset : MW mX5_isOffset 1 := ⟨List.mem_of_getElem? (i := 390) (by decide +kernel), List.mem_of_getElem? (i := 48) (by decide +kernel), by decide +kernel, by decide +kernel, by decide⟩
abbrev mX5_told : MT := (yX5_told, cX5_told, 2, (some .int))
theorem wX5_told : MW mX5_told 1 := ⟨List.mem_of_getElem? (i := 394) (by decide +kernel), List.mem_of_getElem? (i := 48) (by decide +kernel), by decide +kernel, by decide +kernel, by decide⟩
abbrev mX5_presentBits : MT := (yX5_presentBits, cX5_presentBits, 3, (some .int))
theorem wX5_presentBits : MW mX5_presentBits 1 := ⟨List.mem_of_getElem? (i := 397) (by decide +kernel), List.mem_of_getElem? (i := 48) (by decide +kernel), by decide +kernel, by decide +kernel, by decide⟩
abbrev mX5_part : MT := (yX5_part, cX5_part, 2, (some .int))
theorem wX5_part : MW mX5_part 1 := ⟨List.mem_of_getElem? (i := 401) (by decide +kernel), List.mem_of_getElem? (i := 48) (by decide +kernel), by decide +kernel, by decide +kernel, by decide⟩
abbrev mX5_name : MT := (yX5_name, cX5_name, 3, (some .int))
theorem wX5_name : MW mX5_name 2 := ⟨List.mem_of_getElem? (i := 405) (by decide +kernel), List.mem_of_getElem? (i := 48) (by decide +kernel), by decide +kernel, by decide +kernel, by decide⟩
abbrev mX5_isPlace : MT := (yX5_isPlace, cX5_isPlace, 1, (some .boolean))
theorem wX5_isPlace : MW mX5_isPlace 1 := ⟨List.mem_of_getElem? (i := 408) (by decide +kernel), List.mem_of_getElem? (i := 48) (by decide +kernel), by decide +kernel, by decide +kernel, by decide⟩
abbrev mX5_list : MT := (yX5_list, cX5_list, 4, (some .int))
theorem wX5_list : MW mX5_list 2 := ⟨List.mem_of_getElem? (i := 412) (by decide +kernel), List.mem_of_getElem? (i := 48) (by decide +kernel), by decide +kernel, by decide +kernel, by decide⟩
abbrev mX3_indexInOrder : MT := (yX3_indexInOrder, cX3_indexInOrder, 5, (some .int))
theorem wX3_indexInOrder : MW mX3_indexInOrder 1 := ⟨List.mem_of_getElem? (i := 416) (by decide +kernel), List.mem_of_getElem? (i := 54) (by decide +kernel), by decide +kernel, by decide +kernel, by decide⟩
abbrev mX3_comesBefore : MT := (yX3_comesBefore, cX3_comesBefore, 3, (some .boolean))
theorem wX3_comesBefore : MW mX3_comesBefore 2 := ⟨List.mem_of_getElem? (i := 420) (by decide +kernel), List.mem_of_getElem? (i := 54) (by decide +kernel), by decide +kernel, by decide +kernel, by decide⟩
abbrev mX5_word : MT := (yX5_word, cX5_word, 3, (some .int))
theorem wX5_word : MW mX5_word 2 := ⟨List.mem_of_getElem? (i := 424) (by decide +kernel), List.mem_of_getElem? (i := 48) (by decide +kernel), by decide +kernel, by decide +kernel, by decide⟩
abbrev mX5_isByte : MT := (yX5_isByte, cX5_isByte, 1, (some .boolean))
theorem wX5_isByte : MW mX5_isByte 1 := ⟨List.mem_of_getElem? (i := 427) (by decide +kernel), List.mem_of_getElem? (i := 48) (by decide +kernel), by decide +kernel, by decide +kernel, by decide⟩
abbrev mX1_wordOf : MT := (yX1_wordOf, cX1_wordOf, 3, (some .int))
theorem wX1_wordOf : MW mX1_wordOf 2 := ⟨List.mem_of_getElem? (i := 431) (by decide +kernel), List.mem_of_getElem? (i := 50) (by decide +kernel), by decide +kernel, by decide +kernel, by decide⟩
abbrev mX1_plainWord : MT := (yX1_plainWord, cX1_plainWord, 2, (some .int))
theorem wX1_plainWord : MW mX1_plainWord 1 := ⟨List.mem_of_getElem? (i := 435) (by decide +kernel), List.mem_of_getElem? (i := 50) (by decide +kernel), by decide +kernel, by decide +kernel, by decide⟩
abbrev mX5_rest : MT := (yX5_rest, cX5_rest, 3, (some .int))
theorem wX5_rest : MW mX5_rest 2 := ⟨List.mem_of_getElem? (i := 439) (by decide +kernel), List.mem_of_getElem? (i := 48) (by decide +kernel), by decide +kernel, by decide +kernel, by decide⟩
abbrev mX5_isWord : MT := (yX5_isWord, cX5_isWord, 1, (some .boolean))
theorem wX5_isWord : MW mX5_isWord 1 := ⟨List.mem_of_getElem? (i := 442) (by decide +kernel), List.mem_of_getElem? (i := 48) (by decide +kernel), by decide +kernel, by decide +kernel, by decide⟩
abbrev mX1_restFor : MT := (yX1_restFor, cX1_restFor, 3, (some .int))
theorem wX1_restFor : MW mX1_restFor 2 := ⟨List.mem_of_getElem? (i := 446) (by decide +kernel), List.mem_of_getElem? (i := 50) (by decide +kernel), by decide +kernel, by decide +kernel, by decide⟩
abbrev mX5_mended : MT := (yX5_mended, cX5_mended, 4, (some .int))
theorem wX5_mended : MW mX5_mended 2 := ⟨List.mem_of_getElem? (i := 450) (by decide +kernel), List.mem_of_getElem? (i := 48) (by decide +kernel), by decide +kernel, by decide +kernel, by decide⟩
abbrev mX1_blockOf : MT := (yX1_blockOf, cX1_blockOf, 3, (some .int))
theorem wX1_blockOf : MW mX1_blockOf 2 := ⟨List.mem_of_getElem? (i := 454) (by decide +kernel), List.mem_of_getElem? (i := 50) (by decide +kernel), by decide +kernel, by decide +kernel, by decide⟩
abbrev mX5_distance : MT := (yX5_distance, cX5_distance, 3, (some .int))
theorem wX5_distance : MW mX5_distance 0 := ⟨List.mem_of_getElem? (i := 458) (by decide +kernel), List.mem_of_getElem? (i := 48) (by decide +kernel), by decide +kernel, by decide +kernel, by decide⟩
abbrev mJ6_bitCount_0f7a4 : MT := (yJ6_bitCount_0f7a4, cJ6_bitCount_0f7a4, 1, (some .int))
theorem wJ6_bitCount_0f7a4 : MW mJ6_bitCount_0f7a4 1 := ⟨List.mem_of_getElem? (i := 462) (by decide +kernel), List.mem_of_getElem? (i := 57) (by decide +kernel), by decide +kernel, by decide +kernel, by decide⟩
abbrev mX5_flips : MT := (yX5_flips, cX5_flips, 3, (some .int))
theorem wX5_flips : MW mX5_flips 2 := ⟨List.mem_of_getElem? (i := 470) (by decide +kernel), List.mem_of_getElem? (i := 48) (by decide +kernel), by decide +kernel, by decide +kernel, by decide⟩
abbrev mX5_setsWithFate : MT := (yX5_setsWithFate, cX5_setsWithFate, 7, (some .int))
theorem wX5_setsWithFate : MW mX5_setsWithFate 5 := ⟨List.mem_of_getElem? (i := 473) (by decide +kernel), List.mem_of_getElem? (i := 48) (by decide +kernel), by decide +kernel, by decide +kernel, by decide⟩
abbrev mX1_fateOf : MT := (yX1_fateOf, cX1_fateOf, 3, (some .int))
theorem wX1_fateOf : MW mX1_fateOf 1 := ⟨List.mem_of_getElem? (i := 477) (by decide +kernel), List.mem_of_getElem? (i := 50) (by decide +kernel), by decide +kernel, by decide +kernel, by decide⟩
abbrev mX5_slips : MT := (yX5_slips, cX5_slips, 7, (some .int))
theorem wX5_slips : MW mX5_slips 3 := ⟨List.mem_of_getElem? (i := 481) (by decide +kernel), List.mem_of_getElem? (i := 48) (by decide +kernel), by decide +kernel, by decide +kernel, by decide⟩
abbrev mX5_nextOffset : MT := (yX5_nextOffset, cX5_nextOffset, 1, (some .int))
theorem wX5_nextOffset : MW mX5_nextOffset 1 := ⟨List.mem_of_getElem? (i := 484) (by decide +kernel), List.mem_of_getElem? (i := 48) (by decide +kernel), by decide +kernel, by decide +kernel, by decide⟩
abbrev mX1_hitOf : MT := (yX1_hitOf, cX1_hitOf, 2, (some .int))
theorem wX1_hitOf : MW mX1_hitOf 1 := ⟨List.mem_of_getElem? (i := 488) (by decide +kernel), List.mem_of_getElem? (i := 50) (by decide +kernel), by decide +kernel, by decide +kernel, by decide⟩
abbrev mX5_bits : MT := (yX5_bits, cX5_bits, 3, (some .int))
theorem wX5_bits : MW mX5_bits 2 := ⟨List.mem_of_getElem? (i := 492) (by decide +kernel), List.mem_of_getElem? (i := 48) (by decide +kernel), by decide +kernel, by decide +kernel, by decide⟩
abbrev mX0_remember : MT := (yX0_remember, cX0_remember, 2, none)
theorem wX0_remember : MW mX0_remember 1 := ⟨List.mem_of_getElem? (i := 496) (by decide +kernel), List.mem_of_getElem? (i := 55) (by decide +kernel), by decide +kernel, by decide +kernel, by decide⟩
abbrev mX2_copyFrom : MT := (yX2_copyFrom, cX2_copyFrom, 2, none)
theorem wX2_copyFrom : MW mX2_copyFrom 1 := ⟨List.mem_of_getElem? (i := 500) (by decide +kernel), List.mem_of_getElem? (i := 53) (by decide +kernel), by decide +kernel, by decide +kernel, by decide⟩
abbrev mX3_copyFrom : MT := (yX3_copyFrom, cX3_copyFrom, 2, none)
theorem wX3_copyFrom : MW mX3_copyFrom 1 := ⟨List.mem_of_getElem? (i := 507) (by decide +kernel), List.mem_of_getElem? (i := 54) (by decide +kernel), by decide +kernel, by decide +kernel, by decide⟩
abbrev mX2_hearBits : MT := (yX2_hearBits, cX2_hearBits, 7, none)
theorem wX2_hearBits : MW mX2_hearBits 3 := ⟨List.mem_of_getElem? (i := 513) (by decide +kernel), List.mem_of_getElem? (i := 53) (by decide +kernel), by decide +kernel, by decide +kernel, by decide⟩
abbrev mX2_goOn : MT := (yX2_goOn, cX2_goOn, 2, (some .boolean))
theorem wX2_goOn : MW mX2_goOn 1 := ⟨List.mem_of_getElem? (i := 517) (by decide +kernel), List.mem_of_getElem? (i := 53) (by decide +kernel), by decide +kernel, by decide +kernel, by decide⟩
abbrev mX2_takeBlock : MT := (yX2_takeBlock, cX2_takeBlock, 3, none)
theorem wX2_takeBlock : MW mX2_takeBlock 1 := ⟨List.mem_of_getElem? (i := 521) (by decide +kernel), List.mem_of_getElem? (i := 53) (by decide +kernel), by decide +kernel, by decide +kernel, by decide⟩
abbrev mX2_countBlock : MT := (yX2_countBlock, cX2_countBlock, 2, none)
theorem wX2_countBlock : MW mX2_countBlock 1 := ⟨List.mem_of_getElem? (i := 527) (by decide +kernel), List.mem_of_getElem? (i := 53) (by decide +kernel), by decide +kernel, by decide +kernel, by decide⟩
abbrev mX2_lose : MT := (yX2_lose, cX2_lose, 1, none)
theorem wX2_lose : MW mX2_lose 0 := ⟨List.mem_of_getElem? (i := 531) (by decide +kernel), List.mem_of_getElem? (i := 53) (by decide +kernel), by decide +kernel, by decide +kernel, by decide⟩
abbrev mX2_seekSync : MT := (yX2_seekSync, cX2_seekSync, 3, (some .boolean))
theorem wX2_seekSync : MW mX2_seekSync 1 := ⟨List.mem_of_getElem? (i := 536) (by decide +kernel), List.mem_of_getElem? (i := 53) (by decide +kernel), by decide +kernel, by decide +kernel, by decide⟩
abbrev mX2_fitsLastHit : MT := (yX2_fitsLastHit, cX2_fitsLastHit, 4, (some .boolean))
theorem wX2_fitsLastHit : MW mX2_fitsLastHit 1 := ⟨List.mem_of_getElem? (i := 541) (by decide +kernel), List.mem_of_getElem? (i := 53) (by decide +kernel), by decide +kernel, by decide +kernel, by decide⟩
abbrev mX2_findSync : MT := (yX2_findSync, cX2_findSync, 2, none)
theorem wX2_findSync : MW mX2_findSync 1 := ⟨List.mem_of_getElem? (i := 545) (by decide +kernel), List.mem_of_getElem? (i := 53) (by decide +kernel), by decide +kernel, by decide +kernel, by decide⟩
abbrev mX3_takeGroup : MT := (yX3_takeGroup, cX3_takeGroup, 3, none)
theorem wX3_takeGroup : MW mX3_takeGroup 1 := ⟨List.mem_of_getElem? (i := 549) (by decide +kernel), List.mem_of_getElem? (i := 54) (by decide +kernel), by decide +kernel, by decide +kernel, by decide⟩
abbrev mX3_takeProgram : MT := (yX3_takeProgram, cX3_takeProgram, 2, none)
theorem wX3_takeProgram : MW mX3_takeProgram 1 := ⟨List.mem_of_getElem? (i := 553) (by decide +kernel), List.mem_of_getElem? (i := 54) (by decide +kernel), by decide +kernel, by decide +kernel, by decide⟩
abbrev mX3_takePair : MT := (yX3_takePair, cX3_takePair, 5, none)
theorem wX3_takePair : MW mX3_takePair 3 := ⟨List.mem_of_getElem? (i := 557) (by decide +kernel), List.mem_of_getElem? (i := 54) (by decide +kernel), by decide +kernel, by decide +kernel, by decide⟩
abbrev mX3_takeClock : MT := (yX3_takeClock, cX3_takeClock, 3, none)
theorem wX3_takeClock : MW mX3_takeClock 2 := ⟨List.mem_of_getElem? (i := 561) (by decide +kernel), List.mem_of_getElem? (i := 54) (by decide +kernel), by decide +kernel, by decide +kernel, by decide⟩
abbrev mX3_takeStation : MT := (yX3_takeStation, cX3_takeStation, 3, none)
theorem wX3_takeStation : MW mX3_takeStation 1 := ⟨List.mem_of_getElem? (i := 565) (by decide +kernel), List.mem_of_getElem? (i := 54) (by decide +kernel), by decide +kernel, by decide +kernel, by decide⟩
abbrev mX3_takeFlag : MT := (yX3_takeFlag, cX3_takeFlag, 2, none)
theorem wX3_takeFlag : MW mX3_takeFlag 1 := ⟨List.mem_of_getElem? (i := 570) (by decide +kernel), List.mem_of_getElem? (i := 54) (by decide +kernel), by decide +kernel, by decide +kernel, by decide⟩
abbrev mX5_hear : MT := (yX5_hear, cX5_hear, 4, (some .int))
theorem wX5_hear : MW mX5_hear 3 := ⟨List.mem_of_getElem? (i := 575) (by decide +kernel), List.mem_of_getElem? (i := 48) (by decide +kernel), by decide +kernel, by decide +kernel, by decide⟩
abbrev mX5_group : MT := (yX5_group, cX5_group, 4, (some .int))
theorem wX5_group : MW mX5_group 2 := ⟨List.mem_of_getElem? (i := 579) (by decide +kernel), List.mem_of_getElem? (i := 48) (by decide +kernel), by decide +kernel, by decide +kernel, by decide⟩
abbrev mX5_hearGroups : MT := (yX5_hearGroups, cX5_hearGroups, 7, none)
theorem wX5_hearGroups : MW mX5_hearGroups 3 := ⟨List.mem_of_getElem? (i := 583) (by decide +kernel), List.mem_of_getElem? (i := 48) (by decide +kernel), by decide +kernel, by decide +kernel, by decide⟩
abbrev mX1_groupRow : MT := (yX1_groupRow, cX1_groupRow, 6, (some .long))
theorem wX1_groupRow : MW mX1_groupRow 1 := ⟨List.mem_of_getElem? (i := 587) (by decide +kernel), List.mem_of_getElem? (i := 50) (by decide +kernel), by decide +kernel, by decide +kernel, by decide⟩
abbrev mX5_reset : MT := (yX5_reset, cX5_reset, 2, (some .int))
theorem wX5_reset : MW mX5_reset 0 := ⟨List.mem_of_getElem? (i := 592) (by decide +kernel), List.mem_of_getElem? (i := 48) (by decide +kernel), by decide +kernel, by decide +kernel, by decide⟩
abbrev mX2_startOver : MT := (yX2_startOver, cX2_startOver, 1, none)
theorem wX2_startOver : MW mX2_startOver 0 := ⟨List.mem_of_getElem? (i := 596) (by decide +kernel), List.mem_of_getElem? (i := 53) (by decide +kernel), by decide +kernel, by decide +kernel, by decide⟩
abbrev mX5_undo : MT := (yX5_undo, cX5_undo, 1, (some .int))
theorem wX5_undo : MW mX5_undo 0 := ⟨List.mem_of_getElem? (i := 600) (by decide +kernel), List.mem_of_getElem? (i := 48) (by decide +kernel), by decide +kernel, by decide +kernel, by decide⟩
abbrev mX0_takeBack : MT := (yX0_takeBack, cX0_takeBack, 2, (some .boolean))
theorem wX0_takeBack : MW mX0_takeBack 1 := ⟨List.mem_of_getElem? (i := 604) (by decide +kernel), List.mem_of_getElem? (i := 55) (by decide +kernel), by decide +kernel, by decide +kernel, by decide⟩
abbrev mX5_ahead : MT := (yX5_ahead, cX5_ahead, 5, (some .int))
theorem wX5_ahead : MW mX5_ahead 3 := ⟨List.mem_of_getElem? (i := 608) (by decide +kernel), List.mem_of_getElem? (i := 48) (by decide +kernel), by decide +kernel, by decide +kernel, by decide⟩
abbrev mX5_freshTrial : MT := (yX5_freshTrial, cX5_freshTrial, 1, (some (.object "SideWords$Receiver")))
theorem wX5_freshTrial : MW mX5_freshTrial 0 := ⟨List.mem_of_getElem? (i := 612) (by decide +kernel), List.mem_of_getElem? (i := 48) (by decide +kernel), by decide +kernel, by decide +kernel, by decide⟩
abbrev mX5_needs : MT := (yX5_needs, cX5_needs, 6, (some .int))
theorem wX5_needs : MW mX5_needs 1 := ⟨List.mem_of_getElem? (i := 617) (by decide +kernel), List.mem_of_getElem? (i := 48) (by decide +kernel), by decide +kernel, by decide +kernel, by decide⟩
abbrev mX5_judge : MT := (yX5_judge, cX5_judge, 7, (some .int))
theorem wX5_judge : MW mX5_judge 2 := ⟨List.mem_of_getElem? (i := 621) (by decide +kernel), List.mem_of_getElem? (i := 48) (by decide +kernel), by decide +kernel, by decide +kernel, by decide⟩
abbrev mX5_withoutLast : MT := (yX5_withoutLast, cX5_withoutLast, 6, (some .long))
theorem wX5_withoutLast : MW mX5_withoutLast 2 := ⟨List.mem_of_getElem? (i := 624) (by decide +kernel), List.mem_of_getElem? (i := 48) (by decide +kernel), by decide +kernel, by decide +kernel, by decide⟩
abbrev mX5_isSo : MT := (yX5_isSo, cX5_isSo, 6, (some .boolean))
theorem wX5_isSo : MW mX5_isSo 2 := ⟨List.mem_of_getElem? (i := 629) (by decide +kernel), List.mem_of_getElem? (i := 48) (by decide +kernel), by decide +kernel, by decide +kernel, by decide⟩
abbrev mX5_canHear : MT := (yX5_canHear, cX5_canHear, 4, (some .boolean))
theorem wX5_canHear : MW mX5_canHear 3 := ⟨List.mem_of_getElem? (i := 633) (by decide +kernel), List.mem_of_getElem? (i := 48) (by decide +kernel), by decide +kernel, by decide +kernel, by decide⟩
abbrev mX5_canReset : MT := (yX5_canReset, cX5_canReset, 2, (some .boolean))
theorem wX5_canReset : MW mX5_canReset 2 := ⟨List.mem_of_getElem? (i := 636) (by decide +kernel), List.mem_of_getElem? (i := 48) (by decide +kernel), by decide +kernel, by decide +kernel, by decide⟩
abbrev mX5_see : MT := (yX5_see, cX5_see, 4, (some .int))
theorem wX5_see : MW mX5_see 3 := ⟨List.mem_of_getElem? (i := 640) (by decide +kernel), List.mem_of_getElem? (i := 48) (by decide +kernel), by decide +kernel, by decide +kernel, by decide⟩
abbrev mX5_unsee : MT := (yX5_unsee, cX5_unsee, 2, (some .int))
theorem wX5_unsee : MW mX5_unsee 0 := ⟨List.mem_of_getElem? (i := 644) (by decide +kernel), List.mem_of_getElem? (i := 48) (by decide +kernel), by decide +kernel, by decide +kernel, by decide⟩
abbrev mX5_which : MT := (yX5_which, cX5_which, 4, (some .long))
theorem wX5_which : MW mX5_which 0 := ⟨List.mem_of_getElem? (i := 648) (by decide +kernel), List.mem_of_getElem? (i := 48) (by decide +kernel), by decide +kernel, by decide +kernel, by decide⟩
abbrev mX5_placesFitting : MT := (yX5_placesFitting, cX5_placesFitting, 13, (some .long))
theorem wX5_placesFitting : MW mX5_placesFitting 2 := ⟨List.mem_of_getElem? (i := 653) (by decide +kernel), List.mem_of_getElem? (i := 48) (by decide +kernel), by decide +kernel, by decide +kernel, by decide⟩
abbrev mX2_countOf : MT := (yX2_countOf, cX2_countOf, 2, (some .int))
theorem wX2_countOf : MW mX2_countOf 1 := ⟨List.mem_of_getElem? (i := 657) (by decide +kernel), List.mem_of_getElem? (i := 53) (by decide +kernel), by decide +kernel, by decide +kernel, by decide⟩
abbrev mX5_share : MT := (yX5_share, cX5_share, 7, (some .int))
theorem wX5_share : MW mX5_share 3 := ⟨List.mem_of_getElem? (i := 661) (by decide +kernel), List.mem_of_getElem? (i := 48) (by decide +kernel), by decide +kernel, by decide +kernel, by decide⟩
abbrev mX5_goodBehind : MT := (yX5_goodBehind, cX5_goodBehind, 7, (some .int))
theorem wX5_goodBehind : MW mX5_goodBehind 2 := ⟨List.mem_of_getElem? (i := 665) (by decide +kernel), List.mem_of_getElem? (i := 48) (by decide +kernel), by decide +kernel, by decide +kernel, by decide⟩
abbrev mX5_fraction : MT := (yX5_fraction, cX5_fraction, 4, (some .int))
theorem wX5_fraction : MW mX5_fraction 3 := ⟨List.mem_of_getElem? (i := 671) (by decide +kernel), List.mem_of_getElem? (i := 48) (by decide +kernel), by decide +kernel, by decide +kernel, by decide⟩
abbrev mJ9_abs_0f7a4 : MT := (yJ9_abs_0f7a4, cJ9_abs_0f7a4, 1, (some .int))
theorem wJ9_abs_0f7a4 : MW mJ9_abs_0f7a4 1 := ⟨List.mem_of_getElem? (i := 674) (by decide +kernel), List.mem_of_getElem? (i := 52) (by decide +kernel), by decide +kernel, by decide +kernel, by decide⟩
abbrev mX5_greatestDivisor : MT := (yX5_greatestDivisor, cX5_greatestDivisor, 6, (some .int))
theorem wX5_greatestDivisor : MW mX5_greatestDivisor 2 := ⟨List.mem_of_getElem? (i := 677) (by decide +kernel), List.mem_of_getElem? (i := 48) (by decide +kernel), by decide +kernel, by decide +kernel, by decide⟩
abbrev mX5_chance : MT := (yX5_chance, cX5_chance, 8, (some .int))
theorem wX5_chance : MW mX5_chance 4 := ⟨List.mem_of_getElem? (i := 681) (by decide +kernel), List.mem_of_getElem? (i := 48) (by decide +kernel), by decide +kernel, by decide +kernel, by decide⟩
abbrev mX5_waysToSync : MT := (yX5_waysToSync, cX5_waysToSync, 11, (some .int))
theorem wX5_waysToSync : MW mX5_waysToSync 6 := ⟨List.mem_of_getElem? (i := 684) (by decide +kernel), List.mem_of_getElem? (i := 48) (by decide +kernel), by decide +kernel, by decide +kernel, by decide⟩
abbrev mX5_seed : MT := (yX5_seed, cX5_seed, 5, (some .long))
theorem wX5_seed : MW mX5_seed 1 := ⟨List.mem_of_getElem? (i := 688) (by decide +kernel), List.mem_of_getElem? (i := 48) (by decide +kernel), by decide +kernel, by decide +kernel, by decide⟩
abbrev mX5_drawn : MT := (yX5_drawn, cX5_drawn, 5, (some .int))
theorem wX5_drawn : MW mX5_drawn 1 := ⟨List.mem_of_getElem? (i := 692) (by decide +kernel), List.mem_of_getElem? (i := 48) (by decide +kernel), by decide +kernel, by decide +kernel, by decide⟩
abbrev mX5_drawnWord : MT := (yX5_drawnWord, cX5_drawnWord, 4, (some .int))
theorem wX5_drawnWord : MW mX5_drawnWord 2 := ⟨List.mem_of_getElem? (i := 698) (by decide +kernel), List.mem_of_getElem? (i := 48) (by decide +kernel), by decide +kernel, by decide +kernel, by decide⟩
abbrev mX5_keep : MT := (yX5_keep, cX5_keep, 2, (some .int))
theorem wX5_keep : MW mX5_keep 1 := ⟨List.mem_of_getElem? (i := 702) (by decide +kernel), List.mem_of_getElem? (i := 48) (by decide +kernel), by decide +kernel, by decide +kernel, by decide⟩
abbrev mX5_isSlot : MT := (yX5_isSlot, cX5_isSlot, 1, (some .boolean))
theorem wX5_isSlot : MW mX5_isSlot 1 := ⟨List.mem_of_getElem? (i := 705) (by decide +kernel), List.mem_of_getElem? (i := 48) (by decide +kernel), by decide +kernel, by decide +kernel, by decide⟩
abbrev mX5_again : MT := (yX5_again, cX5_again, 2, (some .int))
theorem wX5_again : MW mX5_again 1 := ⟨List.mem_of_getElem? (i := 709) (by decide +kernel), List.mem_of_getElem? (i := 48) (by decide +kernel), by decide +kernel, by decide +kernel, by decide⟩
abbrev mX6_init : MT := (yX6_init, cX6_init, 2, none)
theorem wX6_init : MW mX6_init 0 := ⟨List.mem_of_getElem? (i := 714) (by decide +kernel), List.mem_of_getElem? (i := 56) (by decide +kernel), by decide +kernel, by decide +kernel, by decide⟩
abbrev mX6_layBursts : MT := (yX6_layBursts, cX6_layBursts, 3, none)
theorem wX6_layBursts : MW mX6_layBursts 0 := ⟨List.mem_of_getElem? (i := 719) (by decide +kernel), List.mem_of_getElem? (i := 56) (by decide +kernel), by decide +kernel, by decide +kernel, by decide⟩
abbrev mX6_spanOf : MT := (yX6_spanOf, cX6_spanOf, 3, (some .int))
theorem wX6_spanOf : MW mX6_spanOf 1 := ⟨List.mem_of_getElem? (i := 722) (by decide +kernel), List.mem_of_getElem? (i := 56) (by decide +kernel), by decide +kernel, by decide +kernel, by decide⟩
abbrev mX6_has : MT := (yX6_has, cX6_has, 2, (some .boolean))
theorem wX6_has : MW mX6_has 2 := ⟨List.mem_of_getElem? (i := 725) (by decide +kernel), List.mem_of_getElem? (i := 56) (by decide +kernel), by decide +kernel, by decide +kernel, by decide⟩
abbrev mX6_left : MT := (yX6_left, cX6_left, 4, (some .int))
theorem wX6_left : MW mX6_left 1 := ⟨List.mem_of_getElem? (i := 729) (by decide +kernel), List.mem_of_getElem? (i := 56) (by decide +kernel), by decide +kernel, by decide +kernel, by decide⟩
abbrev mX6_fresh : MT := (yX6_fresh, cX6_fresh, 2, none)
theorem wX6_fresh : MW mX6_fresh 0 := ⟨List.mem_of_getElem? (i := 733) (by decide +kernel), List.mem_of_getElem? (i := 56) (by decide +kernel), by decide +kernel, by decide +kernel, by decide⟩
abbrev mX6_write : MT := (yX6_write, cX6_write, 2, (some .int))
theorem wX6_write : MW mX6_write 1 := ⟨List.mem_of_getElem? (i := 819) (by decide +kernel), List.mem_of_getElem? (i := 56) (by decide +kernel), by decide +kernel, by decide +kernel, by decide⟩
abbrev mX6_in : MT := (yX6_in, cX6_in, 6, (some .boolean))
theorem wX6_in : MW mX6_in 3 := ⟨List.mem_of_getElem? (i := 823) (by decide +kernel), List.mem_of_getElem? (i := 56) (by decide +kernel), by decide +kernel, by decide +kernel, by decide⟩
abbrev mX6_wipe : MT := (yX6_wipe, cX6_wipe, 2, (some .int))
theorem wX6_wipe : MW mX6_wipe 0 := ⟨List.mem_of_getElem? (i := 827) (by decide +kernel), List.mem_of_getElem? (i := 56) (by decide +kernel), by decide +kernel, by decide +kernel, by decide⟩
abbrev mX6_fault : MT := (yX6_fault, cX6_fault, 1, (some .int))
theorem wX6_fault : MW mX6_fault 0 := ⟨List.mem_of_getElem? (i := 831) (by decide +kernel), List.mem_of_getElem? (i := 56) (by decide +kernel), by decide +kernel, by decide +kernel, by decide⟩
abbrev mX6_readText : MT := (yX6_readText, cX6_readText, 2, (some .int))
theorem wX6_readText : MW mX6_readText 0 := ⟨List.mem_of_getElem? (i := 835) (by decide +kernel), List.mem_of_getElem? (i := 56) (by decide +kernel), by decide +kernel, by decide +kernel, by decide⟩
abbrev mX6_take : MT := (yX6_take, cX6_take, 5, (some .boolean))
theorem wX6_take : MW mX6_take 2 := ⟨List.mem_of_getElem? (i := 839) (by decide +kernel), List.mem_of_getElem? (i := 56) (by decide +kernel), by decide +kernel, by decide +kernel, by decide⟩
abbrev mX6_isNew : MT := (yX6_isNew, cX6_isNew, 5, (some .boolean))
theorem wX6_isNew : MW mX6_isNew 2 := ⟨List.mem_of_getElem? (i := 844) (by decide +kernel), List.mem_of_getElem? (i := 56) (by decide +kernel), by decide +kernel, by decide +kernel, by decide⟩
abbrev mX6_station : MT := (yX6_station, cX6_station, 2, (some .int))
theorem wX6_station : MW mX6_station 0 := ⟨List.mem_of_getElem? (i := 848) (by decide +kernel), List.mem_of_getElem? (i := 56) (by decide +kernel), by decide +kernel, by decide +kernel, by decide⟩
abbrev mX6_about : MT := (yX6_about, cX6_about, 2, (some .int))
theorem wX6_about : MW mX6_about 1 := ⟨List.mem_of_getElem? (i := 852) (by decide +kernel), List.mem_of_getElem? (i := 56) (by decide +kernel), by decide +kernel, by decide +kernel, by decide⟩
abbrev mX6_tell : MT := (yX6_tell, cX6_tell, 4, (some .int))
theorem wX6_tell : MW mX6_tell 2 := ⟨List.mem_of_getElem? (i := 858) (by decide +kernel), List.mem_of_getElem? (i := 56) (by decide +kernel), by decide +kernel, by decide +kernel, by decide⟩
abbrev mX6_offset : MT := (yX6_offset, cX6_offset, 2, (some .int))
theorem wX6_offset : MW mX6_offset 1 := ⟨List.mem_of_getElem? (i := 862) (by decide +kernel), List.mem_of_getElem? (i := 56) (by decide +kernel), by decide +kernel, by decide +kernel, by decide⟩
abbrev mX6_isOffset : MT := (yX6_isOffset, cX6_isOffset, 1, (some .boolean))
theorem wX6_isOffset : MW mX6_isOffset 1 := ⟨List.mem_of_getElem? (i := 865) (by decide +kernel), List.mem_of_getElem? (i := 56) (by decide +kernel), by decide +kernel, by decide +kernel, by decide⟩
abbrev mX6_told : MT := (yX6_told, cX6_told, 2, (some .int))
theorem wX6_told : MW mX6_told 1 := ⟨List.mem_of_getElem? (i := 869) (by decide +kernel), List.mem_of_getElem? (i := 56) (by decide +kernel), by decide +kernel, by decide +kernel, by decide⟩
abbrev mX6_thereAre : MT := (yX6_thereAre, cX6_thereAre, 4, (some .int))
theorem wX6_thereAre : MW mX6_thereAre 1 := ⟨List.mem_of_getElem? (i := 873) (by decide +kernel), List.mem_of_getElem? (i := 56) (by decide +kernel), by decide +kernel, by decide +kernel, by decide⟩
abbrev mX6_part : MT := (yX6_part, cX6_part, 2, (some .int))
theorem wX6_part : MW mX6_part 1 := ⟨List.mem_of_getElem? (i := 877) (by decide +kernel), List.mem_of_getElem? (i := 56) (by decide +kernel), by decide +kernel, by decide +kernel, by decide⟩
abbrev mX6_name : MT := (yX6_name, cX6_name, 3, (some .int))
theorem wX6_name : MW mX6_name 2 := ⟨List.mem_of_getElem? (i := 881) (by decide +kernel), List.mem_of_getElem? (i := 56) (by decide +kernel), by decide +kernel, by decide +kernel, by decide⟩
abbrev mX6_list : MT := (yX6_list, cX6_list, 5, (some .int))
theorem wX6_list : MW mX6_list 2 := ⟨List.mem_of_getElem? (i := 885) (by decide +kernel), List.mem_of_getElem? (i := 56) (by decide +kernel), by decide +kernel, by decide +kernel, by decide⟩
abbrev mX6_aheadOf : MT := (yX6_aheadOf, cX6_aheadOf, 5, (some .int))
theorem wX6_aheadOf : MW mX6_aheadOf 1 := ⟨List.mem_of_getElem? (i := 889) (by decide +kernel), List.mem_of_getElem? (i := 56) (by decide +kernel), by decide +kernel, by decide +kernel, by decide⟩
abbrev mX6_word : MT := (yX6_word, cX6_word, 3, (some .int))
theorem wX6_word : MW mX6_word 2 := ⟨List.mem_of_getElem? (i := 893) (by decide +kernel), List.mem_of_getElem? (i := 56) (by decide +kernel), by decide +kernel, by decide +kernel, by decide⟩
abbrev mX6_wordOf : MT := (yX6_wordOf, cX6_wordOf, 3, (some .int))
theorem wX6_wordOf : MW mX6_wordOf 2 := ⟨List.mem_of_getElem? (i := 897) (by decide +kernel), List.mem_of_getElem? (i := 56) (by decide +kernel), by decide +kernel, by decide +kernel, by decide⟩
abbrev mX6_rest : MT := (yX6_rest, cX6_rest, 3, (some .int))
theorem wX6_rest : MW mX6_rest 2 := ⟨List.mem_of_getElem? (i := 901) (by decide +kernel), List.mem_of_getElem? (i := 56) (by decide +kernel), by decide +kernel, by decide +kernel, by decide⟩
abbrev mX6_restOf : MT := (yX6_restOf, cX6_restOf, 3, (some .int))
theorem wX6_restOf : MW mX6_restOf 2 := ⟨List.mem_of_getElem? (i := 906) (by decide +kernel), List.mem_of_getElem? (i := 56) (by decide +kernel), by decide +kernel, by decide +kernel, by decide⟩
abbrev mX6_mended : MT := (yX6_mended, cX6_mended, 5, (some .int))
theorem wX6_mended : MW mX6_mended 2 := ⟨List.mem_of_getElem? (i := 910) (by decide +kernel), List.mem_of_getElem? (i := 56) (by decide +kernel), by decide +kernel, by decide +kernel, by decide⟩
abbrev mX6_sureOf : MT := (yX6_sureOf, cX6_sureOf, 2, (some .int))
theorem wX6_sureOf : MW mX6_sureOf 1 := ⟨List.mem_of_getElem? (i := 914) (by decide +kernel), List.mem_of_getElem? (i := 56) (by decide +kernel), by decide +kernel, by decide +kernel, by decide⟩
abbrev mX6_distance : MT := (yX6_distance, cX6_distance, 4, (some .int))
theorem wX6_distance : MW mX6_distance 0 := ⟨List.mem_of_getElem? (i := 918) (by decide +kernel), List.mem_of_getElem? (i := 56) (by decide +kernel), by decide +kernel, by decide +kernel, by decide⟩
abbrev mX6_ones : MT := (yX6_ones, cX6_ones, 3, (some .int))
theorem wX6_ones : MW mX6_ones 1 := ⟨List.mem_of_getElem? (i := 921) (by decide +kernel), List.mem_of_getElem? (i := 56) (by decide +kernel), by decide +kernel, by decide +kernel, by decide⟩
abbrev mX6_flips : MT := (yX6_flips, cX6_flips, 8, (some .int))
theorem wX6_flips : MW mX6_flips 2 := ⟨List.mem_of_getElem? (i := 925) (by decide +kernel), List.mem_of_getElem? (i := 56) (by decide +kernel), by decide +kernel, by decide +kernel, by decide⟩
abbrev mX6_slips : MT := (yX6_slips, cX6_slips, 8, (some .int))
theorem wX6_slips : MW mX6_slips 3 := ⟨List.mem_of_getElem? (i := 930) (by decide +kernel), List.mem_of_getElem? (i := 56) (by decide +kernel), by decide +kernel, by decide +kernel, by decide⟩
abbrev mX6_bits : MT := (yX6_bits, cX6_bits, 3, (some .int))
theorem wX6_bits : MW mX6_bits 2 := ⟨List.mem_of_getElem? (i := 934) (by decide +kernel), List.mem_of_getElem? (i := 56) (by decide +kernel), by decide +kernel, by decide +kernel, by decide⟩
abbrev mX6_note : MT := (yX6_note, cX6_note, 2, none)
theorem wX6_note : MW mX6_note 0 := ⟨List.mem_of_getElem? (i := 939) (by decide +kernel), List.mem_of_getElem? (i := 56) (by decide +kernel), by decide +kernel, by decide +kernel, by decide⟩
abbrev mX6_hearBits : MT := (yX6_hearBits, cX6_hearBits, 5, none)
theorem wX6_hearBits : MW mX6_hearBits 3 := ⟨List.mem_of_getElem? (i := 943) (by decide +kernel), List.mem_of_getElem? (i := 56) (by decide +kernel), by decide +kernel, by decide +kernel, by decide⟩
abbrev mX6_hearBit : MT := (yX6_hearBit, cX6_hearBit, 3, none)
theorem wX6_hearBit : MW mX6_hearBit 2 := ⟨List.mem_of_getElem? (i := 947) (by decide +kernel), List.mem_of_getElem? (i := 56) (by decide +kernel), by decide +kernel, by decide +kernel, by decide⟩
abbrev mX6_seek : MT := (yX6_seek, cX6_seek, 6, none)
theorem wX6_seek : MW mX6_seek 1 := ⟨List.mem_of_getElem? (i := 951) (by decide +kernel), List.mem_of_getElem? (i := 56) (by decide +kernel), by decide +kernel, by decide +kernel, by decide⟩
abbrev mX6_noParts : MT := (yX6_noParts, cX6_noParts, 2, none)
theorem wX6_noParts : MW mX6_noParts 1 := ⟨List.mem_of_getElem? (i := 954) (by decide +kernel), List.mem_of_getElem? (i := 56) (by decide +kernel), by decide +kernel, by decide +kernel, by decide⟩
abbrev mX6_lookAt : MT := (yX6_lookAt, cX6_lookAt, 6, none)
theorem wX6_lookAt : MW mX6_lookAt 1 := ⟨List.mem_of_getElem? (i := 957) (by decide +kernel), List.mem_of_getElem? (i := 56) (by decide +kernel), by decide +kernel, by decide +kernel, by decide⟩
abbrev mX6_takePair : MT := (yX6_takePair, cX6_takePair, 3, none)
theorem wX6_takePair : MW mX6_takePair 3 := ⟨List.mem_of_getElem? (i := 960) (by decide +kernel), List.mem_of_getElem? (i := 56) (by decide +kernel), by decide +kernel, by decide +kernel, by decide⟩
abbrev mX6_hearOf : MT := (yX6_hearOf, cX6_hearOf, 3, none)
theorem wX6_hearOf : MW mX6_hearOf 2 := ⟨List.mem_of_getElem? (i := 963) (by decide +kernel), List.mem_of_getElem? (i := 56) (by decide +kernel), by decide +kernel, by decide +kernel, by decide⟩
abbrev mX6_takeFlag : MT := (yX6_takeFlag, cX6_takeFlag, 3, none)
theorem wX6_takeFlag : MW mX6_takeFlag 2 := ⟨List.mem_of_getElem? (i := 967) (by decide +kernel), List.mem_of_getElem? (i := 56) (by decide +kernel), by decide +kernel, by decide +kernel, by decide⟩
abbrev mX6_block : MT := (yX6_block, cX6_block, 5, none)
theorem wX6_block : MW mX6_block 1 := ⟨List.mem_of_getElem? (i := 971) (by decide +kernel), List.mem_of_getElem? (i := 56) (by decide +kernel), by decide +kernel, by decide +kernel, by decide⟩
abbrev mX6_lose : MT := (yX6_lose, cX6_lose, 1, none)
theorem wX6_lose : MW mX6_lose 1 := ⟨List.mem_of_getElem? (i := 974) (by decide +kernel), List.mem_of_getElem? (i := 56) (by decide +kernel), by decide +kernel, by decide +kernel, by decide⟩
abbrev mX6_quiet : MT := (yX6_quiet, cX6_quiet, 1, none)
theorem wX6_quiet : MW mX6_quiet 1 := ⟨List.mem_of_getElem? (i := 977) (by decide +kernel), List.mem_of_getElem? (i := 56) (by decide +kernel), by decide +kernel, by decide +kernel, by decide⟩
abbrev mX6_hear : MT := (yX6_hear, cX6_hear, 4, (some .int))
theorem wX6_hear : MW mX6_hear 3 := ⟨List.mem_of_getElem? (i := 981) (by decide +kernel), List.mem_of_getElem? (i := 56) (by decide +kernel), by decide +kernel, by decide +kernel, by decide⟩
abbrev mX6_group : MT := (yX6_group, cX6_group, 5, (some .int))
theorem wX6_group : MW mX6_group 2 := ⟨List.mem_of_getElem? (i := 985) (by decide +kernel), List.mem_of_getElem? (i := 56) (by decide +kernel), by decide +kernel, by decide +kernel, by decide⟩
abbrev mX6_hearGroup : MT := (yX6_hearGroup, cX6_hearGroup, 5, none)
theorem wX6_hearGroup : MW mX6_hearGroup 3 := ⟨List.mem_of_getElem? (i := 989) (by decide +kernel), List.mem_of_getElem? (i := 56) (by decide +kernel), by decide +kernel, by decide +kernel, by decide⟩
abbrev mX6_byteOf : MT := (yX6_byteOf, cX6_byteOf, 2, (some .int))
theorem wX6_byteOf : MW mX6_byteOf 2 := ⟨List.mem_of_getElem? (i := 992) (by decide +kernel), List.mem_of_getElem? (i := 56) (by decide +kernel), by decide +kernel, by decide +kernel, by decide⟩
abbrev mX6_reset : MT := (yX6_reset, cX6_reset, 2, (some .int))
theorem wX6_reset : MW mX6_reset 0 := ⟨List.mem_of_getElem? (i := 996) (by decide +kernel), List.mem_of_getElem? (i := 56) (by decide +kernel), by decide +kernel, by decide +kernel, by decide⟩
abbrev mX6_resetOn : MT := (yX6_resetOn, cX6_resetOn, 1, none)
theorem wX6_resetOn : MW mX6_resetOn 1 := ⟨List.mem_of_getElem? (i := 999) (by decide +kernel), List.mem_of_getElem? (i := 56) (by decide +kernel), by decide +kernel, by decide +kernel, by decide⟩
abbrev mX6_undo : MT := (yX6_undo, cX6_undo, 2, (some .int))
theorem wX6_undo : MW mX6_undo 0 := ⟨List.mem_of_getElem? (i := 1003) (by decide +kernel), List.mem_of_getElem? (i := 56) (by decide +kernel), by decide +kernel, by decide +kernel, by decide⟩
abbrev mX6_ahead : MT := (yX6_ahead, cX6_ahead, 5, (some .int))
theorem wX6_ahead : MW mX6_ahead 3 := ⟨List.mem_of_getElem? (i := 1007) (by decide +kernel), List.mem_of_getElem? (i := 56) (by decide +kernel), by decide +kernel, by decide +kernel, by decide⟩
abbrev mX6_copy : MT := (yX6_copy, cX6_copy, 3, none)
theorem wX6_copy : MW mX6_copy 2 := ⟨List.mem_of_getElem? (i := 1010) (by decide +kernel), List.mem_of_getElem? (i := 56) (by decide +kernel), by decide +kernel, by decide +kernel, by decide⟩
abbrev mX6_needs : MT := (yX6_needs, cX6_needs, 3, (some .int))
theorem wX6_needs : MW mX6_needs 1 := ⟨List.mem_of_getElem? (i := 1014) (by decide +kernel), List.mem_of_getElem? (i := 56) (by decide +kernel), by decide +kernel, by decide +kernel, by decide⟩
abbrev mX6_judge : MT := (yX6_judge, cX6_judge, 6, (some .int))
theorem wX6_judge : MW mX6_judge 2 := ⟨List.mem_of_getElem? (i := 1018) (by decide +kernel), List.mem_of_getElem? (i := 56) (by decide +kernel), by decide +kernel, by decide +kernel, by decide⟩
abbrev mX6_hundredThousands : MT := (yX6_hundredThousands, cX6_hundredThousands, 4, (some .long))
theorem wX6_hundredThousands : MW mX6_hundredThousands 1 := ⟨List.mem_of_getElem? (i := 1021) (by decide +kernel), List.mem_of_getElem? (i := 56) (by decide +kernel), by decide +kernel, by decide +kernel, by decide⟩
abbrev mX6_judged : MT := (yX6_judged, cX6_judged, 4, (some .boolean))
theorem wX6_judged : MW mX6_judged 3 := ⟨List.mem_of_getElem? (i := 1026) (by decide +kernel), List.mem_of_getElem? (i := 56) (by decide +kernel), by decide +kernel, by decide +kernel, by decide⟩
abbrev mX6_see : MT := (yX6_see, cX6_see, 4, (some .int))
theorem wX6_see : MW mX6_see 3 := ⟨List.mem_of_getElem? (i := 1030) (by decide +kernel), List.mem_of_getElem? (i := 56) (by decide +kernel), by decide +kernel, by decide +kernel, by decide⟩
abbrev mX6_unsee : MT := (yX6_unsee, cX6_unsee, 2, (some .int))
theorem wX6_unsee : MW mX6_unsee 0 := ⟨List.mem_of_getElem? (i := 1035) (by decide +kernel), List.mem_of_getElem? (i := 56) (by decide +kernel), by decide +kernel, by decide +kernel, by decide⟩
abbrev mX6_which : MT := (yX6_which, cX6_which, 6, (some .long))
theorem wX6_which : MW mX6_which 0 := ⟨List.mem_of_getElem? (i := 1039) (by decide +kernel), List.mem_of_getElem? (i := 56) (by decide +kernel), by decide +kernel, by decide +kernel, by decide⟩
abbrev mX6_isSoBy : MT := (yX6_isSoBy, cX6_isSoBy, 5, (some .boolean))
theorem wX6_isSoBy : MW mX6_isSoBy 2 := ⟨List.mem_of_getElem? (i := 1043) (by decide +kernel), List.mem_of_getElem? (i := 56) (by decide +kernel), by decide +kernel, by decide +kernel, by decide⟩
abbrev mX6_share : MT := (yX6_share, cX6_share, 7, (some .int))
theorem wX6_share : MW mX6_share 3 := ⟨List.mem_of_getElem? (i := 1047) (by decide +kernel), List.mem_of_getElem? (i := 56) (by decide +kernel), by decide +kernel, by decide +kernel, by decide⟩
abbrev mX6_factorial : MT := (yX6_factorial, cX6_factorial, 3, (some .int))
theorem wX6_factorial : MW mX6_factorial 1 := ⟨List.mem_of_getElem? (i := 1050) (by decide +kernel), List.mem_of_getElem? (i := 56) (by decide +kernel), by decide +kernel, by decide +kernel, by decide⟩
abbrev mX6_fraction : MT := (yX6_fraction, cX6_fraction, 6, (some .int))
theorem wX6_fraction : MW mX6_fraction 3 := ⟨List.mem_of_getElem? (i := 1053) (by decide +kernel), List.mem_of_getElem? (i := 56) (by decide +kernel), by decide +kernel, by decide +kernel, by decide⟩
abbrev mX6_chance : MT := (yX6_chance, cX6_chance, 8, (some .int))
theorem wX6_chance : MW mX6_chance 4 := ⟨List.mem_of_getElem? (i := 1057) (by decide +kernel), List.mem_of_getElem? (i := 56) (by decide +kernel), by decide +kernel, by decide +kernel, by decide⟩
abbrev mX6_power : MT := (yX6_power, cX6_power, 4, (some .int))
theorem wX6_power : MW mX6_power 2 := ⟨List.mem_of_getElem? (i := 1061) (by decide +kernel), List.mem_of_getElem? (i := 56) (by decide +kernel), by decide +kernel, by decide +kernel, by decide⟩
abbrev mX6_seed : MT := (yX6_seed, cX6_seed, 5, (some .long))
theorem wX6_seed : MW mX6_seed 1 := ⟨List.mem_of_getElem? (i := 1065) (by decide +kernel), List.mem_of_getElem? (i := 56) (by decide +kernel), by decide +kernel, by decide +kernel, by decide⟩
abbrev mX6_drawn : MT := (yX6_drawn, cX6_drawn, 6, (some .int))
theorem wX6_drawn : MW mX6_drawn 1 := ⟨List.mem_of_getElem? (i := 1069) (by decide +kernel), List.mem_of_getElem? (i := 56) (by decide +kernel), by decide +kernel, by decide +kernel, by decide⟩
abbrev mX6_keep : MT := (yX6_keep, cX6_keep, 3, (some .int))
theorem wX6_keep : MW mX6_keep 1 := ⟨List.mem_of_getElem? (i := 1076) (by decide +kernel), List.mem_of_getElem? (i := 56) (by decide +kernel), by decide +kernel, by decide +kernel, by decide⟩
abbrev mX6_again : MT := (yX6_again, cX6_again, 3, (some .int))
theorem wX6_again : MW mX6_again 1 := ⟨List.mem_of_getElem? (i := 1080) (by decide +kernel), List.mem_of_getElem? (i := 56) (by decide +kernel), by decide +kernel, by decide +kernel, by decide⟩
theorem kL_9 : lkI RL 9 mX5_init 0 := ⟨wX5_init, List.mem_of_getElem? (i := 61) (by decide +kernel), List.mem_of_getElem? (i := 62) (by decide +kernel), rfl, rfl⟩
theorem kX5_9 : lkX RX5 9 mX4_init 0 := ⟨wX4_init, List.mem_of_getElem? (i := 69) (by decide +kernel), List.mem_of_getElem? (i := 70) (by decide +kernel), rfl, rfl⟩
theorem kX5_18 : lkI RX5 18 mX1_init 0 := ⟨wX1_init, List.mem_of_getElem? (i := 84) (by decide +kernel), List.mem_of_getElem? (i := 85) (by decide +kernel), rfl, rfl⟩
theorem kX1_40 : lkV RX1 40 mX1_fillRows 0 1 := ⟨wX1_fillRows, List.mem_of_getElem? (i := 88) (by decide +kernel), List.mem_of_getElem? (i := 90) (by decide +kernel), List.mem_of_getElem? (i := 0) (by decide +kernel), ⟨_, _, rfl⟩, by decide⟩
theorem kX1_52 : lkS RX1 52 mJ7_fill_53178 2 := ⟨wJ7_fill_53178, List.mem_of_getElem? (i := 92) (by decide +kernel), List.mem_of_getElem? (i := 93) (by decide +kernel)⟩
theorem kX1_58 : lkV RX1 58 mX1_findBursts 0 1 := ⟨wX1_findBursts, List.mem_of_getElem? (i := 95) (by decide +kernel), List.mem_of_getElem? (i := 97) (by decide +kernel), List.mem_of_getElem? (i := 1) (by decide +kernel), ⟨_, _, rfl⟩, by decide⟩
theorem kX1_61 : lkV RX1 61 mX1_noteBurst 1 1 := ⟨wX1_noteBurst, List.mem_of_getElem? (i := 99) (by decide +kernel), List.mem_of_getElem? (i := 101) (by decide +kernel), List.mem_of_getElem? (i := 2) (by decide +kernel), ⟨_, _, rfl⟩, by decide⟩
theorem kX1_71 : lkV RX1 71 mX1_restOf 1 1 := ⟨wX1_restOf, List.mem_of_getElem? (i := 103) (by decide +kernel), List.mem_of_getElem? (i := 105) (by decide +kernel), List.mem_of_getElem? (i := 3) (by decide +kernel), ⟨_, _, rfl⟩, by decide⟩
theorem kX1_65 : lkS RX1 65 mJ9_max_7cf53 2 := ⟨wJ9_max_7cf53, List.mem_of_getElem? (i := 107) (by decide +kernel), List.mem_of_getElem? (i := 108) (by decide +kernel)⟩
theorem kX5_25 : lkI RX5 25 mX2_init 0 := ⟨wX2_init, List.mem_of_getElem? (i := 147) (by decide +kernel), List.mem_of_getElem? (i := 148) (by decide +kernel), rfl, rfl⟩
theorem kX2_11 : lkX RX2 11 mX3_init 0 := ⟨wX3_init, List.mem_of_getElem? (i := 153) (by decide +kernel), List.mem_of_getElem? (i := 154) (by decide +kernel), rfl, rfl⟩
theorem kX2_22 : lkV RX2 22 mX2_clear 0 2 := ⟨wX2_clear, List.mem_of_getElem? (i := 194) (by decide +kernel), List.mem_of_getElem? (i := 195) (by decide +kernel), List.mem_of_getElem? (i := 196) (by decide +kernel), ⟨_, _, rfl⟩, by decide⟩
theorem kX2_66 : lkS RX2 66 mJ7_fill_53178 2 := ⟨wJ7_fill_53178, List.mem_of_getElem? (i := 198) (by decide +kernel), List.mem_of_getElem? (i := 93) (by decide +kernel)⟩
theorem kX2_72 : lkV RX2 72 mX3_clear 0 3 := ⟨wX3_clear, List.mem_of_getElem? (i := 199) (by decide +kernel), List.mem_of_getElem? (i := 200) (by decide +kernel), List.mem_of_getElem? (i := 201) (by decide +kernel), ⟨_, _, rfl⟩, by decide⟩
theorem kX3_24 : lkS RX3 24 mJ7_fill_53178 2 := ⟨wJ7_fill_53178, List.mem_of_getElem? (i := 203) (by decide +kernel), List.mem_of_getElem? (i := 93) (by decide +kernel)⟩
theorem kX3_46 : lkV RX3 46 mX3_clearNames 0 3 := ⟨wX3_clearNames, List.mem_of_getElem? (i := 204) (by decide +kernel), List.mem_of_getElem? (i := 206) (by decide +kernel), List.mem_of_getElem? (i := 4) (by decide +kernel), ⟨_, _, rfl⟩, by decide⟩
theorem kX5_32 : lkI RX5 32 mX0_init 0 := ⟨wX0_init, List.mem_of_getElem? (i := 262) (by decide +kernel), List.mem_of_getElem? (i := 263) (by decide +kernel), rfl, rfl⟩
theorem kX0_24 : lkI RX0 24 mX2_init 0 := ⟨wX2_init, List.mem_of_getElem? (i := 268) (by decide +kernel), List.mem_of_getElem? (i := 148) (by decide +kernel), rfl, rfl⟩
theorem kL_13 : lkV RL 13 mX5_write 1 5 := ⟨wX5_write, List.mem_of_getElem? (i := 318) (by decide +kernel), List.mem_of_getElem? (i := 319) (by decide +kernel), List.mem_of_getElem? (i := 320) (by decide +kernel), ⟨_, _, rfl⟩, by decide⟩
theorem kX5_66 : lkV RX5 66 mX4_add 1 4 := ⟨wX4_add, List.mem_of_getElem? (i := 322) (by decide +kernel), List.mem_of_getElem? (i := 323) (by decide +kernel), List.mem_of_getElem? (i := 324) (by decide +kernel), ⟨_, _, rfl⟩, by decide⟩
theorem kL_18 : lkV RL 18 mX5_wipe 0 5 := ⟨wX5_wipe, List.mem_of_getElem? (i := 326) (by decide +kernel), List.mem_of_getElem? (i := 327) (by decide +kernel), List.mem_of_getElem? (i := 328) (by decide +kernel), ⟨_, _, rfl⟩, by decide⟩
theorem kL_23 : lkV RL 23 mX5_fault 0 5 := ⟨wX5_fault, List.mem_of_getElem? (i := 330) (by decide +kernel), List.mem_of_getElem? (i := 331) (by decide +kernel), List.mem_of_getElem? (i := 332) (by decide +kernel), ⟨_, _, rfl⟩, by decide⟩
theorem kX5_73 : lkV RX5 73 mX4_firstFault 0 4 := ⟨wX4_firstFault, List.mem_of_getElem? (i := 334) (by decide +kernel), List.mem_of_getElem? (i := 335) (by decide +kernel), List.mem_of_getElem? (i := 336) (by decide +kernel), ⟨_, _, rfl⟩, by decide⟩
theorem kX4_19 : lkS RX4 19 mJ9_min_7cf53 2 := ⟨wJ9_min_7cf53, List.mem_of_getElem? (i := 338) (by decide +kernel), List.mem_of_getElem? (i := 339) (by decide +kernel)⟩
theorem kX4_25 : lkV RX4 25 mX4_fits 1 4 := ⟨wX4_fits, List.mem_of_getElem? (i := 341) (by decide +kernel), List.mem_of_getElem? (i := 343) (by decide +kernel), List.mem_of_getElem? (i := 5) (by decide +kernel), ⟨_, _, rfl⟩, by decide⟩
theorem kX4_29 : lkV RX4 29 mX4_figureAt 1 4 := ⟨wX4_figureAt, List.mem_of_getElem? (i := 345) (by decide +kernel), List.mem_of_getElem? (i := 346) (by decide +kernel), List.mem_of_getElem? (i := 347) (by decide +kernel), ⟨_, _, rfl⟩, by decide⟩
theorem kX4_33 : lkV RX4 33 mX4_endsNumber 1 4 := ⟨wX4_endsNumber, List.mem_of_getElem? (i := 349) (by decide +kernel), List.mem_of_getElem? (i := 351) (by decide +kernel), List.mem_of_getElem? (i := 6) (by decide +kernel), ⟨_, _, rfl⟩, by decide⟩
theorem kX4_36 : lkV RX4 36 mX4_numberAt 1 4 := ⟨wX4_numberAt, List.mem_of_getElem? (i := 353) (by decide +kernel), List.mem_of_getElem? (i := 354) (by decide +kernel), List.mem_of_getElem? (i := 355) (by decide +kernel), ⟨_, _, rfl⟩, by decide⟩
theorem kL_27 : lkV RL 27 mX5_station 0 5 := ⟨wX5_station, List.mem_of_getElem? (i := 357) (by decide +kernel), List.mem_of_getElem? (i := 358) (by decide +kernel), List.mem_of_getElem? (i := 359) (by decide +kernel), ⟨_, _, rfl⟩, by decide⟩
theorem kX5_77 : lkV RX5 77 mX1_takeFrom 1 1 := ⟨wX1_takeFrom, List.mem_of_getElem? (i := 361) (by decide +kernel), List.mem_of_getElem? (i := 362) (by decide +kernel), List.mem_of_getElem? (i := 363) (by decide +kernel), ⟨_, _, rfl⟩, by decide⟩
theorem kX1_45 : lkV RX1 45 mX4_numberAt 1 4 := ⟨wX4_numberAt, List.mem_of_getElem? (i := 365) (by decide +kernel), List.mem_of_getElem? (i := 354) (by decide +kernel), List.mem_of_getElem? (i := 355) (by decide +kernel), ⟨_, _, rfl⟩, by decide⟩
theorem kX1_49 : lkV RX1 49 mX4_figureAt 1 4 := ⟨wX4_figureAt, List.mem_of_getElem? (i := 366) (by decide +kernel), List.mem_of_getElem? (i := 346) (by decide +kernel), List.mem_of_getElem? (i := 347) (by decide +kernel), ⟨_, _, rfl⟩, by decide⟩
theorem kX5_81 : lkV RX5 81 mX2_clear 0 2 := ⟨wX2_clear, List.mem_of_getElem? (i := 367) (by decide +kernel), List.mem_of_getElem? (i := 195) (by decide +kernel), List.mem_of_getElem? (i := 196) (by decide +kernel), ⟨_, _, rfl⟩, by decide⟩
theorem kX5_84 : lkV RX5 84 mX0_forget 0 0 := ⟨wX0_forget, List.mem_of_getElem? (i := 368) (by decide +kernel), List.mem_of_getElem? (i := 369) (by decide +kernel), List.mem_of_getElem? (i := 370) (by decide +kernel), ⟨_, _, rfl⟩, by decide⟩
theorem kL_31 : lkV RL 31 mX5_about 1 5 := ⟨wX5_about, List.mem_of_getElem? (i := 372) (by decide +kernel), List.mem_of_getElem? (i := 373) (by decide +kernel), List.mem_of_getElem? (i := 374) (by decide +kernel), ⟨_, _, rfl⟩, by decide⟩
theorem kX5_105 : lkV RX5 105 mX2_tell 1 2 := ⟨wX2_tell, List.mem_of_getElem? (i := 376) (by decide +kernel), List.mem_of_getElem? (i := 377) (by decide +kernel), List.mem_of_getElem? (i := 378) (by decide +kernel), ⟨_, _, rfl⟩, by decide⟩
theorem kX2_83 : lkV RX2 83 mX2_syncBit 0 2 := ⟨wX2_syncBit, List.mem_of_getElem? (i := 380) (by decide +kernel), List.mem_of_getElem? (i := 381) (by decide +kernel), List.mem_of_getElem? (i := 382) (by decide +kernel), ⟨_, _, rfl⟩, by decide⟩
theorem kL_35 : lkV RL 35 mX5_offset 1 5 := ⟨wX5_offset, List.mem_of_getElem? (i := 384) (by decide +kernel), List.mem_of_getElem? (i := 385) (by decide +kernel), List.mem_of_getElem? (i := 386) (by decide +kernel), ⟨_, _, rfl⟩, by decide⟩
theorem kX5_109 : lkS RX5 109 mX5_isOffset 1 := ⟨wX5_isOffset, List.mem_of_getElem? (i := 388) (by decide +kernel), List.mem_of_getElem? (i := 389) (by decide +kernel)⟩
theorem kL_39 : lkV RL 39 mX5_told 1 5 := ⟨wX5_told, List.mem_of_getElem? (i := 391) (by decide +kernel), List.mem_of_getElem? (i := 392) (by decide +kernel), List.mem_of_getElem? (i := 393) (by decide +kernel), ⟨_, _, rfl⟩, by decide⟩
theorem kX5_139 : lkS RX5 139 mX5_presentBits 1 := ⟨wX5_presentBits, List.mem_of_getElem? (i := 395) (by decide +kernel), List.mem_of_getElem? (i := 396) (by decide +kernel)⟩
theorem kL_43 : lkV RL 43 mX5_part 1 5 := ⟨wX5_part, List.mem_of_getElem? (i := 398) (by decide +kernel), List.mem_of_getElem? (i := 399) (by decide +kernel), List.mem_of_getElem? (i := 400) (by decide +kernel), ⟨_, _, rfl⟩, by decide⟩
theorem kL_47 : lkV RL 47 mX5_name 2 5 := ⟨wX5_name, List.mem_of_getElem? (i := 402) (by decide +kernel), List.mem_of_getElem? (i := 403) (by decide +kernel), List.mem_of_getElem? (i := 404) (by decide +kernel), ⟨_, _, rfl⟩, by decide⟩
theorem kX5_146 : lkS RX5 146 mX5_isPlace 1 := ⟨wX5_isPlace, List.mem_of_getElem? (i := 406) (by decide +kernel), List.mem_of_getElem? (i := 407) (by decide +kernel)⟩
theorem kL_52 : lkV RL 52 mX5_list 2 5 := ⟨wX5_list, List.mem_of_getElem? (i := 409) (by decide +kernel), List.mem_of_getElem? (i := 410) (by decide +kernel), List.mem_of_getElem? (i := 411) (by decide +kernel), ⟨_, _, rfl⟩, by decide⟩
theorem kX5_152 : lkV RX5 152 mX3_indexInOrder 1 3 := ⟨wX3_indexInOrder, List.mem_of_getElem? (i := 413) (by decide +kernel), List.mem_of_getElem? (i := 414) (by decide +kernel), List.mem_of_getElem? (i := 415) (by decide +kernel), ⟨_, _, rfl⟩, by decide⟩
theorem kX3_79 : lkV RX3 79 mX3_comesBefore 2 3 := ⟨wX3_comesBefore, List.mem_of_getElem? (i := 417) (by decide +kernel), List.mem_of_getElem? (i := 419) (by decide +kernel), List.mem_of_getElem? (i := 7) (by decide +kernel), ⟨_, _, rfl⟩, by decide⟩
theorem kL_56 : lkV RL 56 mX5_word 2 5 := ⟨wX5_word, List.mem_of_getElem? (i := 421) (by decide +kernel), List.mem_of_getElem? (i := 422) (by decide +kernel), List.mem_of_getElem? (i := 423) (by decide +kernel), ⟨_, _, rfl⟩, by decide⟩
theorem kX5_161 : lkS RX5 161 mX5_isByte 1 := ⟨wX5_isByte, List.mem_of_getElem? (i := 425) (by decide +kernel), List.mem_of_getElem? (i := 426) (by decide +kernel)⟩
theorem kX5_164 : lkV RX5 164 mX1_wordOf 2 1 := ⟨wX1_wordOf, List.mem_of_getElem? (i := 428) (by decide +kernel), List.mem_of_getElem? (i := 429) (by decide +kernel), List.mem_of_getElem? (i := 430) (by decide +kernel), ⟨_, _, rfl⟩, by decide⟩
theorem kX1_74 : lkV RX1 74 mX1_plainWord 1 1 := ⟨wX1_plainWord, List.mem_of_getElem? (i := 432) (by decide +kernel), List.mem_of_getElem? (i := 433) (by decide +kernel), List.mem_of_getElem? (i := 434) (by decide +kernel), ⟨_, _, rfl⟩, by decide⟩
theorem kL_61 : lkV RL 61 mX5_rest 2 5 := ⟨wX5_rest, List.mem_of_getElem? (i := 436) (by decide +kernel), List.mem_of_getElem? (i := 437) (by decide +kernel), List.mem_of_getElem? (i := 438) (by decide +kernel), ⟨_, _, rfl⟩, by decide⟩
theorem kX5_168 : lkS RX5 168 mX5_isWord 1 := ⟨wX5_isWord, List.mem_of_getElem? (i := 440) (by decide +kernel), List.mem_of_getElem? (i := 441) (by decide +kernel)⟩
theorem kX5_171 : lkV RX5 171 mX1_restFor 2 1 := ⟨wX1_restFor, List.mem_of_getElem? (i := 443) (by decide +kernel), List.mem_of_getElem? (i := 444) (by decide +kernel), List.mem_of_getElem? (i := 445) (by decide +kernel), ⟨_, _, rfl⟩, by decide⟩
theorem kL_65 : lkV RL 65 mX5_mended 2 5 := ⟨wX5_mended, List.mem_of_getElem? (i := 447) (by decide +kernel), List.mem_of_getElem? (i := 448) (by decide +kernel), List.mem_of_getElem? (i := 449) (by decide +kernel), ⟨_, _, rfl⟩, by decide⟩
theorem kX5_174 : lkV RX5 174 mX1_blockOf 2 1 := ⟨wX1_blockOf, List.mem_of_getElem? (i := 451) (by decide +kernel), List.mem_of_getElem? (i := 452) (by decide +kernel), List.mem_of_getElem? (i := 453) (by decide +kernel), ⟨_, _, rfl⟩, by decide⟩
theorem kL_69 : lkV RL 69 mX5_distance 0 5 := ⟨wX5_distance, List.mem_of_getElem? (i := 455) (by decide +kernel), List.mem_of_getElem? (i := 456) (by decide +kernel), List.mem_of_getElem? (i := 457) (by decide +kernel), ⟨_, _, rfl⟩, by decide⟩
theorem kX5_177 : lkV RX5 177 mX1_plainWord 1 1 := ⟨wX1_plainWord, List.mem_of_getElem? (i := 459) (by decide +kernel), List.mem_of_getElem? (i := 433) (by decide +kernel), List.mem_of_getElem? (i := 434) (by decide +kernel), ⟨_, _, rfl⟩, by decide⟩
theorem kX5_180 : lkS RX5 180 mJ6_bitCount_0f7a4 1 := ⟨wJ6_bitCount_0f7a4, List.mem_of_getElem? (i := 460) (by decide +kernel), List.mem_of_getElem? (i := 461) (by decide +kernel)⟩
theorem kX5_185 : lkS RX5 185 mJ9_min_7cf53 2 := ⟨wJ9_min_7cf53, List.mem_of_getElem? (i := 466) (by decide +kernel), List.mem_of_getElem? (i := 339) (by decide +kernel)⟩
theorem kL_73 : lkV RL 73 mX5_flips 2 5 := ⟨wX5_flips, List.mem_of_getElem? (i := 467) (by decide +kernel), List.mem_of_getElem? (i := 468) (by decide +kernel), List.mem_of_getElem? (i := 469) (by decide +kernel), ⟨_, _, rfl⟩, by decide⟩
theorem kX5_190 : lkS RX5 190 mX5_setsWithFate 5 := ⟨wX5_setsWithFate, List.mem_of_getElem? (i := 471) (by decide +kernel), List.mem_of_getElem? (i := 472) (by decide +kernel)⟩
theorem kX5_298 : lkV RX5 298 mX1_fateOf 1 1 := ⟨wX1_fateOf, List.mem_of_getElem? (i := 474) (by decide +kernel), List.mem_of_getElem? (i := 475) (by decide +kernel), List.mem_of_getElem? (i := 476) (by decide +kernel), ⟨_, _, rfl⟩, by decide⟩
theorem kL_77 : lkV RL 77 mX5_slips 3 5 := ⟨wX5_slips, List.mem_of_getElem? (i := 478) (by decide +kernel), List.mem_of_getElem? (i := 479) (by decide +kernel), List.mem_of_getElem? (i := 480) (by decide +kernel), ⟨_, _, rfl⟩, by decide⟩
theorem kX5_194 : lkS RX5 194 mX5_nextOffset 1 := ⟨wX5_nextOffset, List.mem_of_getElem? (i := 482) (by decide +kernel), List.mem_of_getElem? (i := 483) (by decide +kernel)⟩
theorem kX5_197 : lkV RX5 197 mX1_hitOf 1 1 := ⟨wX1_hitOf, List.mem_of_getElem? (i := 485) (by decide +kernel), List.mem_of_getElem? (i := 486) (by decide +kernel), List.mem_of_getElem? (i := 487) (by decide +kernel), ⟨_, _, rfl⟩, by decide⟩
theorem kL_82 : lkV RL 82 mX5_bits 2 5 := ⟨wX5_bits, List.mem_of_getElem? (i := 489) (by decide +kernel), List.mem_of_getElem? (i := 490) (by decide +kernel), List.mem_of_getElem? (i := 491) (by decide +kernel), ⟨_, _, rfl⟩, by decide⟩
theorem kX5_200 : lkV RX5 200 mX0_remember 1 0 := ⟨wX0_remember, List.mem_of_getElem? (i := 493) (by decide +kernel), List.mem_of_getElem? (i := 494) (by decide +kernel), List.mem_of_getElem? (i := 495) (by decide +kernel), ⟨_, _, rfl⟩, by decide⟩
theorem kX0_25 : lkV RX0 25 mX2_copyFrom 1 2 := ⟨wX2_copyFrom, List.mem_of_getElem? (i := 497) (by decide +kernel), List.mem_of_getElem? (i := 498) (by decide +kernel), List.mem_of_getElem? (i := 499) (by decide +kernel), ⟨_, _, rfl⟩, by decide⟩
theorem kX2_79 : lkV RX2 79 mX3_copyFrom 1 3 := ⟨wX3_copyFrom, List.mem_of_getElem? (i := 504) (by decide +kernel), List.mem_of_getElem? (i := 505) (by decide +kernel), List.mem_of_getElem? (i := 506) (by decide +kernel), ⟨_, _, rfl⟩, by decide⟩
theorem kX0_29 : lkS RX0 29 mJ9_min_7cf53 2 := ⟨wJ9_min_7cf53, List.mem_of_getElem? (i := 509) (by decide +kernel), List.mem_of_getElem? (i := 339) (by decide +kernel)⟩
theorem kX5_204 : lkV RX5 204 mX2_hearBits 3 2 := ⟨wX2_hearBits, List.mem_of_getElem? (i := 510) (by decide +kernel), List.mem_of_getElem? (i := 511) (by decide +kernel), List.mem_of_getElem? (i := 512) (by decide +kernel), ⟨_, _, rfl⟩, by decide⟩
theorem kX2_87 : lkV RX2 87 mX2_goOn 1 2 := ⟨wX2_goOn, List.mem_of_getElem? (i := 514) (by decide +kernel), List.mem_of_getElem? (i := 516) (by decide +kernel), List.mem_of_getElem? (i := 8) (by decide +kernel), ⟨_, _, rfl⟩, by decide⟩
theorem kX2_115 : lkV RX2 115 mX2_takeBlock 1 2 := ⟨wX2_takeBlock, List.mem_of_getElem? (i := 518) (by decide +kernel), List.mem_of_getElem? (i := 520) (by decide +kernel), List.mem_of_getElem? (i := 9) (by decide +kernel), ⟨_, _, rfl⟩, by decide⟩
theorem kX2_125 : lkV RX2 125 mX1_restFor 2 1 := ⟨wX1_restFor, List.mem_of_getElem? (i := 522) (by decide +kernel), List.mem_of_getElem? (i := 444) (by decide +kernel), List.mem_of_getElem? (i := 445) (by decide +kernel), ⟨_, _, rfl⟩, by decide⟩
theorem kX2_129 : lkV RX2 129 mX1_blockOf 2 1 := ⟨wX1_blockOf, List.mem_of_getElem? (i := 523) (by decide +kernel), List.mem_of_getElem? (i := 452) (by decide +kernel), List.mem_of_getElem? (i := 453) (by decide +kernel), ⟨_, _, rfl⟩, by decide⟩
theorem kX2_132 : lkV RX2 132 mX2_countBlock 1 2 := ⟨wX2_countBlock, List.mem_of_getElem? (i := 524) (by decide +kernel), List.mem_of_getElem? (i := 526) (by decide +kernel), List.mem_of_getElem? (i := 10) (by decide +kernel), ⟨_, _, rfl⟩, by decide⟩
theorem kX2_122 : lkV RX2 122 mX2_lose 0 2 := ⟨wX2_lose, List.mem_of_getElem? (i := 528) (by decide +kernel), List.mem_of_getElem? (i := 530) (by decide +kernel), List.mem_of_getElem? (i := 11) (by decide +kernel), ⟨_, _, rfl⟩, by decide⟩
theorem kX2_112 : lkN RX2 112 mX5_nextOffset 1 := ⟨wX5_nextOffset, List.mem_of_getElem? (i := 532) (by decide +kernel), List.mem_of_getElem? (i := 483) (by decide +kernel)⟩
theorem kX2_91 : lkV RX2 91 mX2_seekSync 1 2 := ⟨wX2_seekSync, List.mem_of_getElem? (i := 533) (by decide +kernel), List.mem_of_getElem? (i := 535) (by decide +kernel), List.mem_of_getElem? (i := 12) (by decide +kernel), ⟨_, _, rfl⟩, by decide⟩
theorem kX2_98 : lkV RX2 98 mX1_hitOf 1 1 := ⟨wX1_hitOf, List.mem_of_getElem? (i := 537) (by decide +kernel), List.mem_of_getElem? (i := 486) (by decide +kernel), List.mem_of_getElem? (i := 487) (by decide +kernel), ⟨_, _, rfl⟩, by decide⟩
theorem kX2_104 : lkV RX2 104 mX2_fitsLastHit 1 2 := ⟨wX2_fitsLastHit, List.mem_of_getElem? (i := 538) (by decide +kernel), List.mem_of_getElem? (i := 540) (by decide +kernel), List.mem_of_getElem? (i := 13) (by decide +kernel), ⟨_, _, rfl⟩, by decide⟩
theorem kX2_108 : lkV RX2 108 mX2_findSync 1 2 := ⟨wX2_findSync, List.mem_of_getElem? (i := 542) (by decide +kernel), List.mem_of_getElem? (i := 544) (by decide +kernel), List.mem_of_getElem? (i := 14) (by decide +kernel), ⟨_, _, rfl⟩, by decide⟩
theorem kX2_94 : lkV RX2 94 mX3_takeGroup 1 3 := ⟨wX3_takeGroup, List.mem_of_getElem? (i := 546) (by decide +kernel), List.mem_of_getElem? (i := 547) (by decide +kernel), List.mem_of_getElem? (i := 548) (by decide +kernel), ⟨_, _, rfl⟩, by decide⟩
theorem kX3_55 : lkV RX3 55 mX3_takeProgram 1 3 := ⟨wX3_takeProgram, List.mem_of_getElem? (i := 550) (by decide +kernel), List.mem_of_getElem? (i := 552) (by decide +kernel), List.mem_of_getElem? (i := 15) (by decide +kernel), ⟨_, _, rfl⟩, by decide⟩
theorem kX3_59 : lkV RX3 59 mX3_takePair 3 3 := ⟨wX3_takePair, List.mem_of_getElem? (i := 554) (by decide +kernel), List.mem_of_getElem? (i := 556) (by decide +kernel), List.mem_of_getElem? (i := 16) (by decide +kernel), ⟨_, _, rfl⟩, by decide⟩
theorem kX3_63 : lkV RX3 63 mX3_takeClock 2 3 := ⟨wX3_takeClock, List.mem_of_getElem? (i := 558) (by decide +kernel), List.mem_of_getElem? (i := 560) (by decide +kernel), List.mem_of_getElem? (i := 17) (by decide +kernel), ⟨_, _, rfl⟩, by decide⟩
theorem kX3_67 : lkV RX3 67 mX3_takeStation 1 3 := ⟨wX3_takeStation, List.mem_of_getElem? (i := 562) (by decide +kernel), List.mem_of_getElem? (i := 564) (by decide +kernel), List.mem_of_getElem? (i := 18) (by decide +kernel), ⟨_, _, rfl⟩, by decide⟩
theorem kX3_73 : lkS RX3 73 mJ9_min_7cf53 2 := ⟨wJ9_min_7cf53, List.mem_of_getElem? (i := 566) (by decide +kernel), List.mem_of_getElem? (i := 339) (by decide +kernel)⟩
theorem kX3_70 : lkV RX3 70 mX3_takeFlag 1 3 := ⟨wX3_takeFlag, List.mem_of_getElem? (i := 567) (by decide +kernel), List.mem_of_getElem? (i := 569) (by decide +kernel), List.mem_of_getElem? (i := 19) (by decide +kernel), ⟨_, _, rfl⟩, by decide⟩
theorem kX5_208 : lkV RX5 208 mX2_syncBit 0 2 := ⟨wX2_syncBit, List.mem_of_getElem? (i := 571) (by decide +kernel), List.mem_of_getElem? (i := 381) (by decide +kernel), List.mem_of_getElem? (i := 382) (by decide +kernel), ⟨_, _, rfl⟩, by decide⟩
theorem kL_86 : lkV RL 86 mX5_hear 3 5 := ⟨wX5_hear, List.mem_of_getElem? (i := 572) (by decide +kernel), List.mem_of_getElem? (i := 573) (by decide +kernel), List.mem_of_getElem? (i := 574) (by decide +kernel), ⟨_, _, rfl⟩, by decide⟩
theorem kL_90 : lkV RL 90 mX5_group 2 5 := ⟨wX5_group, List.mem_of_getElem? (i := 576) (by decide +kernel), List.mem_of_getElem? (i := 577) (by decide +kernel), List.mem_of_getElem? (i := 578) (by decide +kernel), ⟨_, _, rfl⟩, by decide⟩
theorem kX5_217 : lkV RX5 217 mX5_hearGroups 3 5 := ⟨wX5_hearGroups, List.mem_of_getElem? (i := 580) (by decide +kernel), List.mem_of_getElem? (i := 582) (by decide +kernel), List.mem_of_getElem? (i := 20) (by decide +kernel), ⟨_, _, rfl⟩, by decide⟩
theorem kX5_232 : lkV RX5 232 mX1_groupRow 1 1 := ⟨wX1_groupRow, List.mem_of_getElem? (i := 584) (by decide +kernel), List.mem_of_getElem? (i := 585) (by decide +kernel), List.mem_of_getElem? (i := 586) (by decide +kernel), ⟨_, _, rfl⟩, by decide⟩
theorem kX1_77 : lkV RX1 77 mX1_wordOf 2 1 := ⟨wX1_wordOf, List.mem_of_getElem? (i := 588) (by decide +kernel), List.mem_of_getElem? (i := 429) (by decide +kernel), List.mem_of_getElem? (i := 430) (by decide +kernel), ⟨_, _, rfl⟩, by decide⟩
theorem kL_94 : lkV RL 94 mX5_reset 0 5 := ⟨wX5_reset, List.mem_of_getElem? (i := 589) (by decide +kernel), List.mem_of_getElem? (i := 590) (by decide +kernel), List.mem_of_getElem? (i := 591) (by decide +kernel), ⟨_, _, rfl⟩, by decide⟩
theorem kX5_221 : lkV RX5 221 mX2_startOver 0 2 := ⟨wX2_startOver, List.mem_of_getElem? (i := 593) (by decide +kernel), List.mem_of_getElem? (i := 594) (by decide +kernel), List.mem_of_getElem? (i := 595) (by decide +kernel), ⟨_, _, rfl⟩, by decide⟩
theorem kL_98 : lkV RL 98 mX5_undo 0 5 := ⟨wX5_undo, List.mem_of_getElem? (i := 597) (by decide +kernel), List.mem_of_getElem? (i := 598) (by decide +kernel), List.mem_of_getElem? (i := 599) (by decide +kernel), ⟨_, _, rfl⟩, by decide⟩
theorem kX5_224 : lkV RX5 224 mX0_takeBack 1 0 := ⟨wX0_takeBack, List.mem_of_getElem? (i := 601) (by decide +kernel), List.mem_of_getElem? (i := 602) (by decide +kernel), List.mem_of_getElem? (i := 603) (by decide +kernel), ⟨_, _, rfl⟩, by decide⟩
theorem kL_102 : lkV RL 102 mX5_ahead 3 5 := ⟨wX5_ahead, List.mem_of_getElem? (i := 605) (by decide +kernel), List.mem_of_getElem? (i := 606) (by decide +kernel), List.mem_of_getElem? (i := 607) (by decide +kernel), ⟨_, _, rfl⟩, by decide⟩
theorem kX5_228 : lkV RX5 228 mX5_freshTrial 0 5 := ⟨wX5_freshTrial, List.mem_of_getElem? (i := 609) (by decide +kernel), List.mem_of_getElem? (i := 611) (by decide +kernel), List.mem_of_getElem? (i := 21) (by decide +kernel), ⟨_, _, rfl⟩, by decide⟩
theorem kX5_266 : lkV RX5 266 mX2_copyFrom 1 2 := ⟨wX2_copyFrom, List.mem_of_getElem? (i := 613) (by decide +kernel), List.mem_of_getElem? (i := 498) (by decide +kernel), List.mem_of_getElem? (i := 499) (by decide +kernel), ⟨_, _, rfl⟩, by decide⟩
theorem kL_106 : lkV RL 106 mX5_needs 1 5 := ⟨wX5_needs, List.mem_of_getElem? (i := 614) (by decide +kernel), List.mem_of_getElem? (i := 615) (by decide +kernel), List.mem_of_getElem? (i := 616) (by decide +kernel), ⟨_, _, rfl⟩, by decide⟩
theorem kL_112 : lkV RL 112 mX5_judge 2 5 := ⟨wX5_judge, List.mem_of_getElem? (i := 618) (by decide +kernel), List.mem_of_getElem? (i := 619) (by decide +kernel), List.mem_of_getElem? (i := 620) (by decide +kernel), ⟨_, _, rfl⟩, by decide⟩
theorem kX5_240 : lkS RX5 240 mX5_withoutLast 2 := ⟨wX5_withoutLast, List.mem_of_getElem? (i := 622) (by decide +kernel), List.mem_of_getElem? (i := 623) (by decide +kernel)⟩
theorem kX5_246 : lkV RX5 246 mX5_isSo 2 5 := ⟨wX5_isSo, List.mem_of_getElem? (i := 626) (by decide +kernel), List.mem_of_getElem? (i := 628) (by decide +kernel), List.mem_of_getElem? (i := 22) (by decide +kernel), ⟨_, _, rfl⟩, by decide⟩
theorem kX5_286 : lkV RX5 286 mX5_canHear 3 5 := ⟨wX5_canHear, List.mem_of_getElem? (i := 630) (by decide +kernel), List.mem_of_getElem? (i := 632) (by decide +kernel), List.mem_of_getElem? (i := 23) (by decide +kernel), ⟨_, _, rfl⟩, by decide⟩
theorem kX5_290 : lkS RX5 290 mX5_canReset 2 := ⟨wX5_canReset, List.mem_of_getElem? (i := 634) (by decide +kernel), List.mem_of_getElem? (i := 635) (by decide +kernel)⟩
theorem kL_117 : lkV RL 117 mX5_see 3 5 := ⟨wX5_see, List.mem_of_getElem? (i := 637) (by decide +kernel), List.mem_of_getElem? (i := 638) (by decide +kernel), List.mem_of_getElem? (i := 639) (by decide +kernel), ⟨_, _, rfl⟩, by decide⟩
theorem kL_121 : lkV RL 121 mX5_unsee 0 5 := ⟨wX5_unsee, List.mem_of_getElem? (i := 641) (by decide +kernel), List.mem_of_getElem? (i := 642) (by decide +kernel), List.mem_of_getElem? (i := 643) (by decide +kernel), ⟨_, _, rfl⟩, by decide⟩
theorem kL_125 : lkV RL 125 mX5_which 0 5 := ⟨wX5_which, List.mem_of_getElem? (i := 645) (by decide +kernel), List.mem_of_getElem? (i := 646) (by decide +kernel), List.mem_of_getElem? (i := 647) (by decide +kernel), ⟨_, _, rfl⟩, by decide⟩
theorem kX5_252 : lkV RX5 252 mX5_placesFitting 2 5 := ⟨wX5_placesFitting, List.mem_of_getElem? (i := 650) (by decide +kernel), List.mem_of_getElem? (i := 652) (by decide +kernel), List.mem_of_getElem? (i := 24) (by decide +kernel), ⟨_, _, rfl⟩, by decide⟩
theorem kX5_293 : lkV RX5 293 mX2_countOf 1 2 := ⟨wX2_countOf, List.mem_of_getElem? (i := 654) (by decide +kernel), List.mem_of_getElem? (i := 655) (by decide +kernel), List.mem_of_getElem? (i := 656) (by decide +kernel), ⟨_, _, rfl⟩, by decide⟩
theorem kL_130 : lkV RL 130 mX5_share 3 5 := ⟨wX5_share, List.mem_of_getElem? (i := 658) (by decide +kernel), List.mem_of_getElem? (i := 659) (by decide +kernel), List.mem_of_getElem? (i := 660) (by decide +kernel), ⟨_, _, rfl⟩, by decide⟩
theorem kX5_256 : lkV RX5 256 mX5_goodBehind 2 5 := ⟨wX5_goodBehind, List.mem_of_getElem? (i := 662) (by decide +kernel), List.mem_of_getElem? (i := 664) (by decide +kernel), List.mem_of_getElem? (i := 25) (by decide +kernel), ⟨_, _, rfl⟩, by decide⟩
theorem kX5_262 : lkS RX5 262 mX5_fraction 3 := ⟨wX5_fraction, List.mem_of_getElem? (i := 669) (by decide +kernel), List.mem_of_getElem? (i := 670) (by decide +kernel)⟩
theorem kX5_301 : lkS RX5 301 mJ9_abs_0f7a4 1 := ⟨wJ9_abs_0f7a4, List.mem_of_getElem? (i := 672) (by decide +kernel), List.mem_of_getElem? (i := 673) (by decide +kernel)⟩
theorem kX5_304 : lkS RX5 304 mX5_greatestDivisor 2 := ⟨wX5_greatestDivisor, List.mem_of_getElem? (i := 675) (by decide +kernel), List.mem_of_getElem? (i := 676) (by decide +kernel)⟩
theorem kL_135 : lkV RL 135 mX5_chance 4 5 := ⟨wX5_chance, List.mem_of_getElem? (i := 678) (by decide +kernel), List.mem_of_getElem? (i := 679) (by decide +kernel), List.mem_of_getElem? (i := 680) (by decide +kernel), ⟨_, _, rfl⟩, by decide⟩
theorem kX5_269 : lkS RX5 269 mX5_waysToSync 6 := ⟨wX5_waysToSync, List.mem_of_getElem? (i := 682) (by decide +kernel), List.mem_of_getElem? (i := 683) (by decide +kernel)⟩
theorem kL_140 : lkV RL 140 mX5_seed 1 5 := ⟨wX5_seed, List.mem_of_getElem? (i := 685) (by decide +kernel), List.mem_of_getElem? (i := 686) (by decide +kernel), List.mem_of_getElem? (i := 687) (by decide +kernel), ⟨_, _, rfl⟩, by decide⟩
theorem kL_145 : lkV RL 145 mX5_drawn 1 5 := ⟨wX5_drawn, List.mem_of_getElem? (i := 689) (by decide +kernel), List.mem_of_getElem? (i := 690) (by decide +kernel), List.mem_of_getElem? (i := 691) (by decide +kernel), ⟨_, _, rfl⟩, by decide⟩
theorem kX5_277 : lkV RX5 277 mX5_drawnWord 2 5 := ⟨wX5_drawnWord, List.mem_of_getElem? (i := 695) (by decide +kernel), List.mem_of_getElem? (i := 697) (by decide +kernel), List.mem_of_getElem? (i := 26) (by decide +kernel), ⟨_, _, rfl⟩, by decide⟩
theorem kL_149 : lkV RL 149 mX5_keep 1 5 := ⟨wX5_keep, List.mem_of_getElem? (i := 699) (by decide +kernel), List.mem_of_getElem? (i := 700) (by decide +kernel), List.mem_of_getElem? (i := 701) (by decide +kernel), ⟨_, _, rfl⟩, by decide⟩
theorem kX5_280 : lkS RX5 280 mX5_isSlot 1 := ⟨wX5_isSlot, List.mem_of_getElem? (i := 703) (by decide +kernel), List.mem_of_getElem? (i := 704) (by decide +kernel)⟩
theorem kL_153 : lkV RL 153 mX5_again 1 5 := ⟨wX5_again, List.mem_of_getElem? (i := 706) (by decide +kernel), List.mem_of_getElem? (i := 707) (by decide +kernel), List.mem_of_getElem? (i := 708) (by decide +kernel), ⟨_, _, rfl⟩, by decide⟩
theorem kL_12 : lkI RL 12 mX6_init 0 := ⟨wX6_init, List.mem_of_getElem? (i := 712) (by decide +kernel), List.mem_of_getElem? (i := 713) (by decide +kernel), rfl, rfl⟩
theorem kX6_60 : lkV RX6 60 mX6_layBursts 0 6 := ⟨wX6_layBursts, List.mem_of_getElem? (i := 716) (by decide +kernel), List.mem_of_getElem? (i := 718) (by decide +kernel), List.mem_of_getElem? (i := 27) (by decide +kernel), ⟨_, _, rfl⟩, by decide⟩
theorem kX6_85 : lkS RX6 85 mX6_spanOf 1 := ⟨wX6_spanOf, List.mem_of_getElem? (i := 720) (by decide +kernel), List.mem_of_getElem? (i := 721) (by decide +kernel)⟩
theorem kX6_72 : lkS RX6 72 mX6_has 2 := ⟨wX6_has, List.mem_of_getElem? (i := 723) (by decide +kernel), List.mem_of_getElem? (i := 724) (by decide +kernel)⟩
theorem kX6_89 : lkV RX6 89 mX6_left 1 6 := ⟨wX6_left, List.mem_of_getElem? (i := 726) (by decide +kernel), List.mem_of_getElem? (i := 728) (by decide +kernel), List.mem_of_getElem? (i := 28) (by decide +kernel), ⟨_, _, rfl⟩, by decide⟩
theorem kX6_63 : lkV RX6 63 mX6_fresh 0 6 := ⟨wX6_fresh, List.mem_of_getElem? (i := 730) (by decide +kernel), List.mem_of_getElem? (i := 732) (by decide +kernel), List.mem_of_getElem? (i := 29) (by decide +kernel), ⟨_, _, rfl⟩, by decide⟩
theorem kL_17 : lkV RL 17 mX6_write 1 6 := ⟨wX6_write, List.mem_of_getElem? (i := 816) (by decide +kernel), List.mem_of_getElem? (i := 817) (by decide +kernel), List.mem_of_getElem? (i := 818) (by decide +kernel), ⟨_, _, rfl⟩, by decide⟩
theorem kX6_68 : lkS RX6 68 mX6_in 3 := ⟨wX6_in, List.mem_of_getElem? (i := 821) (by decide +kernel), List.mem_of_getElem? (i := 822) (by decide +kernel)⟩
theorem kL_22 : lkV RL 22 mX6_wipe 0 6 := ⟨wX6_wipe, List.mem_of_getElem? (i := 824) (by decide +kernel), List.mem_of_getElem? (i := 825) (by decide +kernel), List.mem_of_getElem? (i := 826) (by decide +kernel), ⟨_, _, rfl⟩, by decide⟩
theorem kL_26 : lkV RL 26 mX6_fault 0 6 := ⟨wX6_fault, List.mem_of_getElem? (i := 828) (by decide +kernel), List.mem_of_getElem? (i := 829) (by decide +kernel), List.mem_of_getElem? (i := 830) (by decide +kernel), ⟨_, _, rfl⟩, by decide⟩
theorem kX6_114 : lkV RX6 114 mX6_readText 0 6 := ⟨wX6_readText, List.mem_of_getElem? (i := 832) (by decide +kernel), List.mem_of_getElem? (i := 834) (by decide +kernel), List.mem_of_getElem? (i := 30) (by decide +kernel), ⟨_, _, rfl⟩, by decide⟩
theorem kX6_111 : lkV RX6 111 mX6_take 2 6 := ⟨wX6_take, List.mem_of_getElem? (i := 836) (by decide +kernel), List.mem_of_getElem? (i := 838) (by decide +kernel), List.mem_of_getElem? (i := 31) (by decide +kernel), ⟨_, _, rfl⟩, by decide⟩
theorem kX6_102 : lkV RX6 102 mX6_isNew 2 6 := ⟨wX6_isNew, List.mem_of_getElem? (i := 841) (by decide +kernel), List.mem_of_getElem? (i := 843) (by decide +kernel), List.mem_of_getElem? (i := 32) (by decide +kernel), ⟨_, _, rfl⟩, by decide⟩
theorem kL_30 : lkV RL 30 mX6_station 0 6 := ⟨wX6_station, List.mem_of_getElem? (i := 845) (by decide +kernel), List.mem_of_getElem? (i := 846) (by decide +kernel), List.mem_of_getElem? (i := 847) (by decide +kernel), ⟨_, _, rfl⟩, by decide⟩
theorem kL_34 : lkV RL 34 mX6_about 1 6 := ⟨wX6_about, List.mem_of_getElem? (i := 849) (by decide +kernel), List.mem_of_getElem? (i := 850) (by decide +kernel), List.mem_of_getElem? (i := 851) (by decide +kernel), ⟨_, _, rfl⟩, by decide⟩
theorem kX6_179 : lkV RX6 179 mX6_tell 2 6 := ⟨wX6_tell, List.mem_of_getElem? (i := 855) (by decide +kernel), List.mem_of_getElem? (i := 857) (by decide +kernel), List.mem_of_getElem? (i := 33) (by decide +kernel), ⟨_, _, rfl⟩, by decide⟩
theorem kL_38 : lkV RL 38 mX6_offset 1 6 := ⟨wX6_offset, List.mem_of_getElem? (i := 859) (by decide +kernel), List.mem_of_getElem? (i := 860) (by decide +kernel), List.mem_of_getElem? (i := 861) (by decide +kernel), ⟨_, _, rfl⟩, by decide⟩
theorem kX6_183 : lkS RX6 183 mX6_isOffset 1 := ⟨wX6_isOffset, List.mem_of_getElem? (i := 863) (by decide +kernel), List.mem_of_getElem? (i := 864) (by decide +kernel)⟩
theorem kL_42 : lkV RL 42 mX6_told 1 6 := ⟨wX6_told, List.mem_of_getElem? (i := 866) (by decide +kernel), List.mem_of_getElem? (i := 867) (by decide +kernel), List.mem_of_getElem? (i := 868) (by decide +kernel), ⟨_, _, rfl⟩, by decide⟩
theorem kX6_187 : lkV RX6 187 mX6_thereAre 1 6 := ⟨wX6_thereAre, List.mem_of_getElem? (i := 870) (by decide +kernel), List.mem_of_getElem? (i := 872) (by decide +kernel), List.mem_of_getElem? (i := 34) (by decide +kernel), ⟨_, _, rfl⟩, by decide⟩
theorem kL_46 : lkV RL 46 mX6_part 1 6 := ⟨wX6_part, List.mem_of_getElem? (i := 874) (by decide +kernel), List.mem_of_getElem? (i := 875) (by decide +kernel), List.mem_of_getElem? (i := 876) (by decide +kernel), ⟨_, _, rfl⟩, by decide⟩
theorem kL_51 : lkV RL 51 mX6_name 2 6 := ⟨wX6_name, List.mem_of_getElem? (i := 878) (by decide +kernel), List.mem_of_getElem? (i := 879) (by decide +kernel), List.mem_of_getElem? (i := 880) (by decide +kernel), ⟨_, _, rfl⟩, by decide⟩
theorem kL_55 : lkV RL 55 mX6_list 2 6 := ⟨wX6_list, List.mem_of_getElem? (i := 882) (by decide +kernel), List.mem_of_getElem? (i := 883) (by decide +kernel), List.mem_of_getElem? (i := 884) (by decide +kernel), ⟨_, _, rfl⟩, by decide⟩
theorem kX6_190 : lkV RX6 190 mX6_aheadOf 1 6 := ⟨wX6_aheadOf, List.mem_of_getElem? (i := 886) (by decide +kernel), List.mem_of_getElem? (i := 888) (by decide +kernel), List.mem_of_getElem? (i := 35) (by decide +kernel), ⟨_, _, rfl⟩, by decide⟩
theorem kL_60 : lkV RL 60 mX6_word 2 6 := ⟨wX6_word, List.mem_of_getElem? (i := 890) (by decide +kernel), List.mem_of_getElem? (i := 891) (by decide +kernel), List.mem_of_getElem? (i := 892) (by decide +kernel), ⟨_, _, rfl⟩, by decide⟩
theorem kX6_168 : lkV RX6 168 mX6_wordOf 2 6 := ⟨wX6_wordOf, List.mem_of_getElem? (i := 894) (by decide +kernel), List.mem_of_getElem? (i := 896) (by decide +kernel), List.mem_of_getElem? (i := 36) (by decide +kernel), ⟨_, _, rfl⟩, by decide⟩
theorem kL_64 : lkV RL 64 mX6_rest 2 6 := ⟨wX6_rest, List.mem_of_getElem? (i := 898) (by decide +kernel), List.mem_of_getElem? (i := 899) (by decide +kernel), List.mem_of_getElem? (i := 900) (by decide +kernel), ⟨_, _, rfl⟩, by decide⟩
theorem kX6_146 : lkV RX6 146 mX6_restOf 2 6 := ⟨wX6_restOf, List.mem_of_getElem? (i := 903) (by decide +kernel), List.mem_of_getElem? (i := 905) (by decide +kernel), List.mem_of_getElem? (i := 37) (by decide +kernel), ⟨_, _, rfl⟩, by decide⟩
theorem kL_68 : lkV RL 68 mX6_mended 2 6 := ⟨wX6_mended, List.mem_of_getElem? (i := 907) (by decide +kernel), List.mem_of_getElem? (i := 908) (by decide +kernel), List.mem_of_getElem? (i := 909) (by decide +kernel), ⟨_, _, rfl⟩, by decide⟩
theorem kX6_150 : lkV RX6 150 mX6_sureOf 1 6 := ⟨wX6_sureOf, List.mem_of_getElem? (i := 911) (by decide +kernel), List.mem_of_getElem? (i := 913) (by decide +kernel), List.mem_of_getElem? (i := 38) (by decide +kernel), ⟨_, _, rfl⟩, by decide⟩
theorem kL_72 : lkV RL 72 mX6_distance 0 6 := ⟨wX6_distance, List.mem_of_getElem? (i := 915) (by decide +kernel), List.mem_of_getElem? (i := 916) (by decide +kernel), List.mem_of_getElem? (i := 917) (by decide +kernel), ⟨_, _, rfl⟩, by decide⟩
theorem kX6_195 : lkS RX6 195 mX6_ones 1 := ⟨wX6_ones, List.mem_of_getElem? (i := 919) (by decide +kernel), List.mem_of_getElem? (i := 920) (by decide +kernel)⟩
theorem kL_76 : lkV RL 76 mX6_flips 2 6 := ⟨wX6_flips, List.mem_of_getElem? (i := 922) (by decide +kernel), List.mem_of_getElem? (i := 923) (by decide +kernel), List.mem_of_getElem? (i := 924) (by decide +kernel), ⟨_, _, rfl⟩, by decide⟩
theorem kL_81 : lkV RL 81 mX6_slips 3 6 := ⟨wX6_slips, List.mem_of_getElem? (i := 927) (by decide +kernel), List.mem_of_getElem? (i := 928) (by decide +kernel), List.mem_of_getElem? (i := 929) (by decide +kernel), ⟨_, _, rfl⟩, by decide⟩
theorem kL_85 : lkV RL 85 mX6_bits 2 6 := ⟨wX6_bits, List.mem_of_getElem? (i := 931) (by decide +kernel), List.mem_of_getElem? (i := 932) (by decide +kernel), List.mem_of_getElem? (i := 933) (by decide +kernel), ⟨_, _, rfl⟩, by decide⟩
theorem kX6_203 : lkV RX6 203 mX6_note 0 6 := ⟨wX6_note, List.mem_of_getElem? (i := 936) (by decide +kernel), List.mem_of_getElem? (i := 938) (by decide +kernel), List.mem_of_getElem? (i := 39) (by decide +kernel), ⟨_, _, rfl⟩, by decide⟩
theorem kX6_171 : lkV RX6 171 mX6_hearBits 3 6 := ⟨wX6_hearBits, List.mem_of_getElem? (i := 940) (by decide +kernel), List.mem_of_getElem? (i := 942) (by decide +kernel), List.mem_of_getElem? (i := 40) (by decide +kernel), ⟨_, _, rfl⟩, by decide⟩
theorem kX6_162 : lkV RX6 162 mX6_hearBit 2 6 := ⟨wX6_hearBit, List.mem_of_getElem? (i := 944) (by decide +kernel), List.mem_of_getElem? (i := 946) (by decide +kernel), List.mem_of_getElem? (i := 41) (by decide +kernel), ⟨_, _, rfl⟩, by decide⟩
theorem kX6_156 : lkV RX6 156 mX6_seek 1 6 := ⟨wX6_seek, List.mem_of_getElem? (i := 948) (by decide +kernel), List.mem_of_getElem? (i := 950) (by decide +kernel), List.mem_of_getElem? (i := 42) (by decide +kernel), ⟨_, _, rfl⟩, by decide⟩
theorem kX6_125 : lkS RX6 125 mX6_noParts 1 := ⟨wX6_noParts, List.mem_of_getElem? (i := 952) (by decide +kernel), List.mem_of_getElem? (i := 953) (by decide +kernel)⟩
theorem kX6_143 : lkS RX6 143 mX6_lookAt 1 := ⟨wX6_lookAt, List.mem_of_getElem? (i := 955) (by decide +kernel), List.mem_of_getElem? (i := 956) (by decide +kernel)⟩
theorem kX6_130 : lkS RX6 130 mX6_takePair 3 := ⟨wX6_takePair, List.mem_of_getElem? (i := 958) (by decide +kernel), List.mem_of_getElem? (i := 959) (by decide +kernel)⟩
theorem kX6_134 : lkS RX6 134 mX6_hearOf 2 := ⟨wX6_hearOf, List.mem_of_getElem? (i := 961) (by decide +kernel), List.mem_of_getElem? (i := 962) (by decide +kernel)⟩
theorem kX6_138 : lkS RX6 138 mX6_takeFlag 2 := ⟨wX6_takeFlag, List.mem_of_getElem? (i := 965) (by decide +kernel), List.mem_of_getElem? (i := 966) (by decide +kernel)⟩
theorem kX6_159 : lkV RX6 159 mX6_block 1 6 := ⟨wX6_block, List.mem_of_getElem? (i := 968) (by decide +kernel), List.mem_of_getElem? (i := 970) (by decide +kernel), List.mem_of_getElem? (i := 43) (by decide +kernel), ⟨_, _, rfl⟩, by decide⟩
theorem kX6_153 : lkS RX6 153 mX6_lose 1 := ⟨wX6_lose, List.mem_of_getElem? (i := 972) (by decide +kernel), List.mem_of_getElem? (i := 973) (by decide +kernel)⟩
theorem kX6_121 : lkS RX6 121 mX6_quiet 1 := ⟨wX6_quiet, List.mem_of_getElem? (i := 975) (by decide +kernel), List.mem_of_getElem? (i := 976) (by decide +kernel)⟩
theorem kL_89 : lkV RL 89 mX6_hear 3 6 := ⟨wX6_hear, List.mem_of_getElem? (i := 978) (by decide +kernel), List.mem_of_getElem? (i := 979) (by decide +kernel), List.mem_of_getElem? (i := 980) (by decide +kernel), ⟨_, _, rfl⟩, by decide⟩
theorem kL_93 : lkV RL 93 mX6_group 2 6 := ⟨wX6_group, List.mem_of_getElem? (i := 982) (by decide +kernel), List.mem_of_getElem? (i := 983) (by decide +kernel), List.mem_of_getElem? (i := 984) (by decide +kernel), ⟨_, _, rfl⟩, by decide⟩
theorem kX6_206 : lkV RX6 206 mX6_hearGroup 3 6 := ⟨wX6_hearGroup, List.mem_of_getElem? (i := 986) (by decide +kernel), List.mem_of_getElem? (i := 988) (by decide +kernel), List.mem_of_getElem? (i := 44) (by decide +kernel), ⟨_, _, rfl⟩, by decide⟩
theorem kX6_165 : lkS RX6 165 mX6_byteOf 2 := ⟨wX6_byteOf, List.mem_of_getElem? (i := 990) (by decide +kernel), List.mem_of_getElem? (i := 991) (by decide +kernel)⟩
theorem kL_97 : lkV RL 97 mX6_reset 0 6 := ⟨wX6_reset, List.mem_of_getElem? (i := 993) (by decide +kernel), List.mem_of_getElem? (i := 994) (by decide +kernel), List.mem_of_getElem? (i := 995) (by decide +kernel), ⟨_, _, rfl⟩, by decide⟩
theorem kX6_209 : lkS RX6 209 mX6_resetOn 1 := ⟨wX6_resetOn, List.mem_of_getElem? (i := 997) (by decide +kernel), List.mem_of_getElem? (i := 998) (by decide +kernel)⟩
theorem kL_101 : lkV RL 101 mX6_undo 0 6 := ⟨wX6_undo, List.mem_of_getElem? (i := 1000) (by decide +kernel), List.mem_of_getElem? (i := 1001) (by decide +kernel), List.mem_of_getElem? (i := 1002) (by decide +kernel), ⟨_, _, rfl⟩, by decide⟩
theorem kL_105 : lkV RL 105 mX6_ahead 3 6 := ⟨wX6_ahead, List.mem_of_getElem? (i := 1004) (by decide +kernel), List.mem_of_getElem? (i := 1005) (by decide +kernel), List.mem_of_getElem? (i := 1006) (by decide +kernel), ⟨_, _, rfl⟩, by decide⟩
theorem kX6_212 : lkS RX6 212 mX6_copy 2 := ⟨wX6_copy, List.mem_of_getElem? (i := 1008) (by decide +kernel), List.mem_of_getElem? (i := 1009) (by decide +kernel)⟩
theorem kL_109 : lkV RL 109 mX6_needs 1 6 := ⟨wX6_needs, List.mem_of_getElem? (i := 1011) (by decide +kernel), List.mem_of_getElem? (i := 1012) (by decide +kernel), List.mem_of_getElem? (i := 1013) (by decide +kernel), ⟨_, _, rfl⟩, by decide⟩
theorem kL_116 : lkV RL 116 mX6_judge 2 6 := ⟨wX6_judge, List.mem_of_getElem? (i := 1015) (by decide +kernel), List.mem_of_getElem? (i := 1016) (by decide +kernel), List.mem_of_getElem? (i := 1017) (by decide +kernel), ⟨_, _, rfl⟩, by decide⟩
theorem kX6_218 : lkS RX6 218 mX6_hundredThousands 1 := ⟨wX6_hundredThousands, List.mem_of_getElem? (i := 1019) (by decide +kernel), List.mem_of_getElem? (i := 1020) (by decide +kernel)⟩
theorem kX6_222 : lkV RX6 222 mX6_judged 3 6 := ⟨wX6_judged, List.mem_of_getElem? (i := 1023) (by decide +kernel), List.mem_of_getElem? (i := 1025) (by decide +kernel), List.mem_of_getElem? (i := 45) (by decide +kernel), ⟨_, _, rfl⟩, by decide⟩
theorem kL_120 : lkV RL 120 mX6_see 3 6 := ⟨wX6_see, List.mem_of_getElem? (i := 1027) (by decide +kernel), List.mem_of_getElem? (i := 1028) (by decide +kernel), List.mem_of_getElem? (i := 1029) (by decide +kernel), ⟨_, _, rfl⟩, by decide⟩
theorem kL_124 : lkV RL 124 mX6_unsee 0 6 := ⟨wX6_unsee, List.mem_of_getElem? (i := 1032) (by decide +kernel), List.mem_of_getElem? (i := 1033) (by decide +kernel), List.mem_of_getElem? (i := 1034) (by decide +kernel), ⟨_, _, rfl⟩, by decide⟩
theorem kL_129 : lkV RL 129 mX6_which 0 6 := ⟨wX6_which, List.mem_of_getElem? (i := 1036) (by decide +kernel), List.mem_of_getElem? (i := 1037) (by decide +kernel), List.mem_of_getElem? (i := 1038) (by decide +kernel), ⟨_, _, rfl⟩, by decide⟩
theorem kX6_228 : lkV RX6 228 mX6_isSoBy 2 6 := ⟨wX6_isSoBy, List.mem_of_getElem? (i := 1040) (by decide +kernel), List.mem_of_getElem? (i := 1042) (by decide +kernel), List.mem_of_getElem? (i := 46) (by decide +kernel), ⟨_, _, rfl⟩, by decide⟩
theorem kL_134 : lkV RL 134 mX6_share 3 6 := ⟨wX6_share, List.mem_of_getElem? (i := 1044) (by decide +kernel), List.mem_of_getElem? (i := 1045) (by decide +kernel), List.mem_of_getElem? (i := 1046) (by decide +kernel), ⟨_, _, rfl⟩, by decide⟩
theorem kX6_231 : lkS RX6 231 mX6_factorial 1 := ⟨wX6_factorial, List.mem_of_getElem? (i := 1048) (by decide +kernel), List.mem_of_getElem? (i := 1049) (by decide +kernel)⟩
theorem kX6_234 : lkS RX6 234 mX6_fraction 3 := ⟨wX6_fraction, List.mem_of_getElem? (i := 1051) (by decide +kernel), List.mem_of_getElem? (i := 1052) (by decide +kernel)⟩
theorem kL_139 : lkV RL 139 mX6_chance 4 6 := ⟨wX6_chance, List.mem_of_getElem? (i := 1054) (by decide +kernel), List.mem_of_getElem? (i := 1055) (by decide +kernel), List.mem_of_getElem? (i := 1056) (by decide +kernel), ⟨_, _, rfl⟩, by decide⟩
theorem kX6_240 : lkS RX6 240 mX6_power 2 := ⟨wX6_power, List.mem_of_getElem? (i := 1059) (by decide +kernel), List.mem_of_getElem? (i := 1060) (by decide +kernel)⟩
theorem kL_144 : lkV RL 144 mX6_seed 1 6 := ⟨wX6_seed, List.mem_of_getElem? (i := 1062) (by decide +kernel), List.mem_of_getElem? (i := 1063) (by decide +kernel), List.mem_of_getElem? (i := 1064) (by decide +kernel), ⟨_, _, rfl⟩, by decide⟩
theorem kL_148 : lkV RL 148 mX6_drawn 1 6 := ⟨wX6_drawn, List.mem_of_getElem? (i := 1066) (by decide +kernel), List.mem_of_getElem? (i := 1067) (by decide +kernel), List.mem_of_getElem? (i := 1068) (by decide +kernel), ⟨_, _, rfl⟩, by decide⟩
theorem kL_152 : lkV RL 152 mX6_keep 1 6 := ⟨wX6_keep, List.mem_of_getElem? (i := 1073) (by decide +kernel), List.mem_of_getElem? (i := 1074) (by decide +kernel), List.mem_of_getElem? (i := 1075) (by decide +kernel), ⟨_, _, rfl⟩, by decide⟩
theorem kL_156 : lkV RL 156 mX6_again 1 6 := ⟨wX6_again, List.mem_of_getElem? (i := 1077) (by decide +kernel), List.mem_of_getElem? (i := 1078) (by decide +kernel), List.mem_of_getElem? (i := 1079) (by decide +kernel), ⟨_, _, rfl⟩, by decide⟩
