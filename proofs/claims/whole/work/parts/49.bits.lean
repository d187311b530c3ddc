def usI (x : Int32) (k : Int32) : Int32 := (x.toUInt32 >>> (k.toUInt32 &&& Int32.toUInt32 31)).toInt32
def bcA (x : Int32) : Int32 := x - (usI x 1 &&& 1431655765)
def bcB (x : Int32) : Int32 := (bcA x &&& 858993459) + (usI (bcA x) 2 &&& 858993459)
def bcC (x : Int32) : Int32 := (bcB x + usI (bcB x) 4) &&& 252645135
def bcD (x : Int32) : Int32 := bcC x + usI (bcC x) 8
def bcI (x : Int32) : Int32 := (bcD x + usI (bcD x) 16) &&& 63
theorem c_bitCount {g : GT} {Z : ZT} {I : IT} {L : LT} {Post : PT} {x : Int32} (hp : Post (some (.int (bcI x))) Z I L) : CM g 0 0 0 mJ6_bitCount_0f7a4 [.int x] Z I L Post := by
  refine CM_intro ?_
  refine j_iload_n 0 dJ6_bitCount_0f7a4_0 rfl (j_iload_n 0 dJ6_bitCount_0f7a4_1 rfl (j_iconst (v := 1) dJ6_bitCount_0f7a4_2 rfl (j_iushr dJ6_bitCount_0f7a4_3 (j_ldcw (v := 1431655765) dJ6_bitCount_0f7a4_4 (List.mem_of_getElem? (i := 463) (by decide +kernel)) (j_iand dJ6_bitCount_0f7a4_7 (j_isub dJ6_bitCount_0f7a4_8 (j_istore_n (lv' := [(0, _)]) dJ6_bitCount_0f7a4_9 rfl (j_iload_n 0 dJ6_bitCount_0f7a4_10 rfl (j_ldcw (v := 858993459) dJ6_bitCount_0f7a4_11 (List.mem_of_getElem? (i := 464) (by decide +kernel)) (j_iand dJ6_bitCount_0f7a4_14 (j_iload_n 0 dJ6_bitCount_0f7a4_15 rfl (j_iconst (v := 2) dJ6_bitCount_0f7a4_16 rfl (j_iushr dJ6_bitCount_0f7a4_17 (j_ldcw (v := 858993459) dJ6_bitCount_0f7a4_18 (List.mem_of_getElem? (i := 464) (by decide +kernel)) (j_iand dJ6_bitCount_0f7a4_21 (j_iadd dJ6_bitCount_0f7a4_22 (j_istore_n (lv' := [(0, _)]) dJ6_bitCount_0f7a4_23 rfl (j_iload_n 0 dJ6_bitCount_0f7a4_24 rfl (j_iload_n 0 dJ6_bitCount_0f7a4_25 rfl (j_iconst (v := 4) dJ6_bitCount_0f7a4_26 rfl (j_iushr dJ6_bitCount_0f7a4_27 (j_iadd dJ6_bitCount_0f7a4_28 (j_ldcw (v := 252645135) dJ6_bitCount_0f7a4_29 (List.mem_of_getElem? (i := 465) (by decide +kernel)) (j_iand dJ6_bitCount_0f7a4_32 (j_istore_n (lv' := [(0, _)]) dJ6_bitCount_0f7a4_33 rfl (j_iload_n 0 dJ6_bitCount_0f7a4_34 rfl (j_iload_n 0 dJ6_bitCount_0f7a4_35 rfl (j_bipush (v := 8) dJ6_bitCount_0f7a4_36 rfl (j_iushr dJ6_bitCount_0f7a4_38 (j_iadd dJ6_bitCount_0f7a4_39 (j_istore_n (lv' := [(0, _)]) dJ6_bitCount_0f7a4_40 rfl (j_iload_n 0 dJ6_bitCount_0f7a4_41 rfl (j_iload_n 0 dJ6_bitCount_0f7a4_42 rfl (j_bipush (v := 16) dJ6_bitCount_0f7a4_43 rfl (j_iushr dJ6_bitCount_0f7a4_45 (j_iadd dJ6_bitCount_0f7a4_46 (j_istore_n (lv' := [(0, _)]) dJ6_bitCount_0f7a4_47 rfl (j_iload_n 0 dJ6_bitCount_0f7a4_48 rfl (j_bipush (v := 63) dJ6_bitCount_0f7a4_49 rfl (j_iand dJ6_bitCount_0f7a4_51 (j_iret dJ6_bitCount_0f7a4_52 ?_)))))))))))))))))))))))))))))))))))))))))
  exact hp
def bcQ (h : Nat) : Bool := (List.range 1024).all (fun l => bcI (nI (1024 * h + l)) == nI (onF (1024 * h + l) 14))
theorem bc_0 : bcQ 0 = true := by decide +kernel
theorem bc_1 : bcQ 1 = true := by decide +kernel
theorem bc_2 : bcQ 2 = true := by decide +kernel
theorem bc_3 : bcQ 3 = true := by decide +kernel
theorem bc_4 : bcQ 4 = true := by decide +kernel
theorem bc_5 : bcQ 5 = true := by decide +kernel
theorem bc_6 : bcQ 6 = true := by decide +kernel
theorem bc_7 : bcQ 7 = true := by decide +kernel
theorem bc_8 : bcQ 8 = true := by decide +kernel
theorem bc_9 : bcQ 9 = true := by decide +kernel
theorem bc_10 : bcQ 10 = true := by decide +kernel
theorem bc_11 : bcQ 11 = true := by decide +kernel
theorem bc_12 : bcQ 12 = true := by decide +kernel
theorem bc_13 : bcQ 13 = true := by decide +kernel
theorem bc_14 : bcQ 14 = true := by decide +kernel
theorem bc_15 : bcQ 15 = true := by decide +kernel
theorem bc_all : ∀ h, h < 16 → bcQ h = true
  | 0, _ => bc_0
  | 1, _ => bc_1
  | 2, _ => bc_2
  | 3, _ => bc_3
  | 4, _ => bc_4
  | 5, _ => bc_5
  | 6, _ => bc_6
  | 7, _ => bc_7
  | 8, _ => bc_8
  | 9, _ => bc_9
  | 10, _ => bc_10
  | 11, _ => bc_11
  | 12, _ => bc_12
  | 13, _ => bc_13
  | 14, _ => bc_14
  | 15, _ => bc_15
  | h + 16, hh => absurd hh (by omega)
theorem bc_eq {v : Nat} (hv : v < 16384) : bcI (nI v) = nI (onF v 14) := by
  have h := bc_all (v / 1024) (by omega)
  have h2 := List.all_eq_true.mp h (v % 1024) (List.mem_range.mpr (by omega))
  rw [show 1024 * (v / 1024) + v % 1024 = v by omega] at h2
  exact eq_of_beq h2
theorem c_bitC {g : GT} {Z : ZT} {I : IT} {L : LT} {Post : PT} {v : Nat} (hv : v < 16384) (hp : Post (some (.int (nI (onF v 14)))) Z I L) : CM g 0 0 0 mJ6_bitCount_0f7a4 [.int (nI v)] Z I L Post := c_bitCount (by rw [bc_eq hv]; exact hp)
