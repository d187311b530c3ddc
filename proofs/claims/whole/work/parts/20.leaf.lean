theorem wcp1 : Cond.native arraycopyName ∈ lw_tbl := List.mem_of_getElem? (i := 503) (by decide +kernel)
theorem wcp2 : Cond.static arraycopyName ∈ lw_tbl := List.mem_of_getElem? (i := 502) (by decide +kernel)
theorem wcp3 : Cond.initialized "java/lang/System" ∈ lw_tbl := List.mem_of_getElem? (i := 58) (by decide +kernel)
def bI (b : Bool) : Int32 := if b then 1 else 0
theorem rng_t {x M : Int32} {n : Nat} (h0 : ¬ x < 0) (h1 : ¬ M ≤ x) (hM : M = nI n) (hn : n < 2 ^ 31) : ∃ j, j < n ∧ x = nI j := by
  subst hM
  rcases pk_ix x hn with h | h | h
  · exact absurd h h0
  · exact absurd h h1
  · exact h
theorem rng_f0 {x : Int32} {n : Nat} (h0 : x < 0) (hn : n ≤ 2 ^ 31) : ∀ j, j < n → x ≠ nI j := fun j hj e => nI_pos (n := j) (by omega) (e ▸ h0)
theorem rng_f1 {x M : Int32} {n : Nat} (h1 : M ≤ x) (hM : M = nI n) (hn : n < 2 ^ 31) : ∀ j, j < n → x ≠ nI j := fun j hj e => nI_ge hj hn (hM ▸ e ▸ h1)
/-- a test whether a number is of 0 .. n - 1 -/
def isIn (n : Nat) (x : Int32) (T F : Prop) : Prop := (∀ j, j < n → x = nI j → T) ∧ ((∀ j, j < n → x ≠ nI j) → F)
theorem isIn_t {n : Nat} {x M : Int32} {T F : Prop} (h : isIn n x T F) (h0 : ¬ x < 0) (h1 : ¬ M ≤ x) (hM : M = nI n) (hn : n < 2 ^ 31) : T := by
  obtain ⟨j, hj, e⟩ := rng_t h0 h1 hM hn
  exact h.1 j hj e
theorem isIn_f0 {n : Nat} {x : Int32} {T F : Prop} (h : isIn n x T F) (h0 : x < 0) (hn : n ≤ 2 ^ 31) : F := h.2 (rng_f0 h0 hn)
theorem isIn_f1 {n : Nat} {x M : Int32} {T F : Prop} (h : isIn n x T F) (h1 : M ≤ x) (hM : M = nI n) (hn : n < 2 ^ 31) : F := h.2 (rng_f1 h1 hM hn)
theorem c_isOffset {g : GT} {Z : ZT} {I : IT} {L : LT} {Post : PT} {x : Int32} (hp : isIn 4 x (Post (some (.int 1)) Z I L) (Post (some (.int 0)) Z I L)) : CM g 0 0 0 mX5_isOffset [.int x] Z I L Post := by
  refine CM_intro ?_
  refine j_iload_n 0 dX5_isOffset_0 rfl (j_if_lt (tgt := 13) dX5_isOffset_1 rfl (fun h1 => ?_) (fun h1 => ?_))
  · refine j_iconst (v := 0) dX5_isOffset_13 rfl (j_zret dX5_isOffset_14 (by decide) ?_)
    first | exact isIn_t hp h1 h6 rfl (by decide) | exact isIn_f0 hp h1 (by decide) | exact isIn_f1 hp h6 rfl (by decide)
  · refine j_iload_n 0 dX5_isOffset_4 rfl (j_iconst (v := 4) dX5_isOffset_5 rfl (j_icmp_ge (tgt := 13) dX5_isOffset_6 rfl (fun h6 => ?_) (fun h6 => ?_)))
    · refine j_iconst (v := 0) dX5_isOffset_13 rfl (j_zret dX5_isOffset_14 (by decide) ?_)
      first | exact isIn_t hp h1 h6 rfl (by decide) | exact isIn_f0 hp h1 (by decide) | exact isIn_f1 hp h6 rfl (by decide)
    · refine j_iconst (v := 1) dX5_isOffset_9 rfl (j_goto (tgt := 14) dX5_isOffset_10 rfl (j_zret dX5_isOffset_14 (by decide) ?_))
      first | exact isIn_t hp h1 h6 rfl (by decide) | exact isIn_f0 hp h1 (by decide) | exact isIn_f1 hp h6 rfl (by decide)
theorem c_isPlace {g : GT} {Z : ZT} {I : IT} {L : LT} {Post : PT} {x : Int32} (hp : isIn 4 x (Post (some (.int 1)) Z I L) (Post (some (.int 0)) Z I L)) : CM g 0 0 0 mX5_isPlace [.int x] Z I L Post := by
  refine CM_intro ?_
  refine j_iload_n 0 dX5_isPlace_0 rfl (j_if_lt (tgt := 13) dX5_isPlace_1 rfl (fun h1 => ?_) (fun h1 => ?_))
  · refine j_iconst (v := 0) dX5_isPlace_13 rfl (j_zret dX5_isPlace_14 (by decide) ?_)
    first | exact isIn_t hp h1 h6 rfl (by decide) | exact isIn_f0 hp h1 (by decide) | exact isIn_f1 hp h6 rfl (by decide)
  · refine j_iload_n 0 dX5_isPlace_4 rfl (j_iconst (v := 4) dX5_isPlace_5 rfl (j_icmp_ge (tgt := 13) dX5_isPlace_6 rfl (fun h6 => ?_) (fun h6 => ?_)))
    · refine j_iconst (v := 0) dX5_isPlace_13 rfl (j_zret dX5_isPlace_14 (by decide) ?_)
      first | exact isIn_t hp h1 h6 rfl (by decide) | exact isIn_f0 hp h1 (by decide) | exact isIn_f1 hp h6 rfl (by decide)
    · refine j_iconst (v := 1) dX5_isPlace_9 rfl (j_goto (tgt := 14) dX5_isPlace_10 rfl (j_zret dX5_isPlace_14 (by decide) ?_))
      first | exact isIn_t hp h1 h6 rfl (by decide) | exact isIn_f0 hp h1 (by decide) | exact isIn_f1 hp h6 rfl (by decide)
theorem c_isSlot {g : GT} {Z : ZT} {I : IT} {L : LT} {Post : PT} {x : Int32} (hp : isIn 2 x (Post (some (.int 1)) Z I L) (Post (some (.int 0)) Z I L)) : CM g 0 0 0 mX5_isSlot [.int x] Z I L Post := by
  refine CM_intro ?_
  refine j_iload_n 0 dX5_isSlot_0 rfl (j_if_lt (tgt := 13) dX5_isSlot_1 rfl (fun h1 => ?_) (fun h1 => ?_))
  · refine j_iconst (v := 0) dX5_isSlot_13 rfl (j_zret dX5_isSlot_14 (by decide) ?_)
    first | exact isIn_t hp h1 h6 rfl (by decide) | exact isIn_f0 hp h1 (by decide) | exact isIn_f1 hp h6 rfl (by decide)
  · refine j_iload_n 0 dX5_isSlot_4 rfl (j_iconst (v := 2) dX5_isSlot_5 rfl (j_icmp_ge (tgt := 13) dX5_isSlot_6 rfl (fun h6 => ?_) (fun h6 => ?_)))
    · refine j_iconst (v := 0) dX5_isSlot_13 rfl (j_zret dX5_isSlot_14 (by decide) ?_)
      first | exact isIn_t hp h1 h6 rfl (by decide) | exact isIn_f0 hp h1 (by decide) | exact isIn_f1 hp h6 rfl (by decide)
    · refine j_iconst (v := 1) dX5_isSlot_9 rfl (j_goto (tgt := 14) dX5_isSlot_10 rfl (j_zret dX5_isSlot_14 (by decide) ?_))
      first | exact isIn_t hp h1 h6 rfl (by decide) | exact isIn_f0 hp h1 (by decide) | exact isIn_f1 hp h6 rfl (by decide)
theorem c_isByte {g : GT} {Z : ZT} {I : IT} {L : LT} {Post : PT} {x : Int32} (hp : isIn 256 x (Post (some (.int 1)) Z I L) (Post (some (.int 0)) Z I L)) : CM g 0 0 0 mX5_isByte [.int x] Z I L Post := by
  refine CM_intro ?_
  refine j_iload_n 0 dX5_isByte_0 rfl (j_if_lt (tgt := 15) dX5_isByte_1 rfl (fun h1 => ?_) (fun h1 => ?_))
  · refine j_iconst (v := 0) dX5_isByte_15 rfl (j_zret dX5_isByte_16 (by decide) ?_)
    first | exact isIn_t hp h1 h8 rfl (by decide) | exact isIn_f0 hp h1 (by decide) | exact isIn_f1 hp h8 rfl (by decide)
  · refine j_iload_n 0 dX5_isByte_4 rfl (j_sipush (v := 256) dX5_isByte_5 rfl (j_icmp_ge (tgt := 15) dX5_isByte_8 rfl (fun h8 => ?_) (fun h8 => ?_)))
    · refine j_iconst (v := 0) dX5_isByte_15 rfl (j_zret dX5_isByte_16 (by decide) ?_)
      first | exact isIn_t hp h1 h8 rfl (by decide) | exact isIn_f0 hp h1 (by decide) | exact isIn_f1 hp h8 rfl (by decide)
    · refine j_iconst (v := 1) dX5_isByte_11 rfl (j_goto (tgt := 16) dX5_isByte_12 rfl (j_zret dX5_isByte_16 (by decide) ?_))
      first | exact isIn_t hp h1 h8 rfl (by decide) | exact isIn_f0 hp h1 (by decide) | exact isIn_f1 hp h8 rfl (by decide)
