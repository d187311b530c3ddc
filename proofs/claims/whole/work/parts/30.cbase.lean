/-! THE CLASS'S CELLS: a receiver's seven rows, the station's -/
theorem pf_lI {a : Nat} (h : a < 2 ^ 63) : (lN a).toInt = (a : Int) := lg_ofNat_toInt h
theorem pf_shr {a d : Nat} {D : Int64} (hD : (D.toBitVec.smod 64).toNat = d) (h : a < 2 ^ 62) : lN a >>> D = lN (a / 2 ^ d) := by
  have hd : a / 2 ^ d ≤ a := Nat.div_le_self _ _
  apply Int64.toInt_inj.mp
  have e : (lN a >>> D).toInt = (lN a).toInt >>> d := by
    rw [← hD]
    exact BitVec.toInt_sshiftRight ..
  rw [e, Int.shiftRight_eq_div_pow, pf_lI (by omega), pf_lI (by omega)]
  rfl
theorem wb_tb (n : Nat) : (lN n).toBitVec = BitVec.ofNat 64 n := rfl
theorem wb_inj {a b : Int64} (h : a.toBitVec = b.toBitVec) : a = b := Int64.toBitVec_inj.mp h
theorem wb_c : ∀ k, k < 64 → ((nI k).toInt64 &&& 63) = lN k := by decide +kernel
theorem wb_sm : ∀ k, k < 64 → (BitVec.ofNat 64 k).smod 64 = BitVec.ofNat 64 k := by decide +kernel
theorem wb_shl (n : Nat) {k : Nat} (hk : k < 64) : lN n <<< ((nI k).toInt64 &&& 63) = lN (n * 2 ^ k) := by
  rw [wb_c k hk]
  apply wb_inj
  rw [Int64.toBitVec_shiftLeft, wb_tb, wb_tb, wb_tb, wb_sm k hk]
  apply BitVec.eq_of_toNat_eq
  rw [BitVec.shiftLeft_eq', BitVec.toNat_shiftLeft, BitVec.toNat_ofNat, BitVec.toNat_ofNat, BitVec.toNat_ofNat, Nat.mod_eq_of_lt (show k < 2 ^ 64 by omega), Nat.shiftLeft_eq, Nat.mul_mod, Nat.mod_mod, ← Nat.mul_mod]
theorem fb_orL (a b : Nat) : lN a ||| lN b = lN (a ||| b) := by
  apply Int64.toBitVec_inj.1
  show BitVec.ofNat 64 a ||| BitVec.ofNat 64 b = BitVec.ofNat 64 (a ||| b)
  apply BitVec.eq_of_getLsbD_eq
  intro i hi
  simp [hi]
theorem fb_xorL (a b : Nat) : lN a ^^^ lN b = lN (a ^^^ b) := by
  apply Int64.toBitVec_inj.1
  show BitVec.ofNat 64 a ^^^ BitVec.ofNat 64 b = BitVec.ofNat 64 (a ^^^ b)
  apply BitVec.eq_of_getLsbD_eq
  intro i hi
  simp [hi]
theorem shrL {R i : Nat} (hR : R < 2 ^ 62) (hi : i < 64) : lN R >>> ((nI i).toInt64 &&& 63) = lN (R / 2 ^ i) := by
  refine pf_shr ?_ hR
  rw [wb_c i hi, wb_tb, wb_sm i hi, BitVec.toNat_ofNat]
  exact Nat.mod_eq_of_lt (by omega)
theorem bitL {R i : Nat} (hR : R < 2 ^ 62) (hi : i < 64) : (lN R >>> ((nI i).toInt64 &&& 63)).toInt32 &&& 1 = nI (R / 2 ^ i % 2) := by rw [shrL hR hi, lN_i, and1]
/-- the receiver at r has the rows V -/
def wr (I : IT) (r : Nat) (V : IT) : IT := fun b => if r ≤ b ∧ b < r + 7 then V (b - r) else I b
theorem wr_at (I : IT) (r : Nat) (V : IT) {j : Nat} (h : j < 7) : wr I r V (r + j) = V j := by
  unfold wr
  rw [if_pos ⟨by omega, by omega⟩, show r + j - r = j by omega]
theorem wr_0 (I : IT) (r : Nat) (V : IT) : wr I r V r = V 0 := wr_at I r V (j := 0) (by decide)
theorem wr_1 (I : IT) (r : Nat) (V : IT) : wr I r V (r + 1) = V 1 := wr_at I r V (by decide)
theorem wr_2 (I : IT) (r : Nat) (V : IT) : wr I r V (r + 2) = V 2 := wr_at I r V (by decide)
theorem wr_3 (I : IT) (r : Nat) (V : IT) : wr I r V (r + 3) = V 3 := wr_at I r V (by decide)
theorem wr_4 (I : IT) (r : Nat) (V : IT) : wr I r V (r + 4) = V 4 := wr_at I r V (by decide)
theorem wr_5 (I : IT) (r : Nat) (V : IT) : wr I r V (r + 5) = V 5 := wr_at I r V (by decide)
theorem wr_6 (I : IT) (r : Nat) (V : IT) : wr I r V (r + 6) = V 6 := wr_at I r V (by decide)
theorem wr_n {I : IT} {r : Nat} {V : IT} {b : Nat} (h : b < r ∨ r + 7 ≤ b) : wr I r V b = I b := if_neg (by omega)
theorem wr_up (I : IT) (r : Nat) (V : IT) {j : Nat} (h : j < 7) (f : Nat → Int32) : upR (wr I r V) (r + j) f = wr I r (upR V j f) := by
  funext b
  unfold upR wr
  by_cases h1 : b = r + j
  · subst h1
    rw [if_pos rfl, if_pos ⟨by omega, by omega⟩]
    exact (if_pos (by omega)).symm
  · rw [if_neg h1]
    by_cases h2 : r ≤ b ∧ b < r + 7
    · rw [if_pos h2, if_pos h2]
      exact (if_neg (by omega)).symm
    · rw [if_neg h2, if_neg h2]
theorem wu_0 (I : IT) (r : Nat) (V : IT) (f : Nat → Int32) : upR (wr I r V) r f = wr I r (upR V 0 f) := wr_up I r V (j := 0) (by decide) f
theorem wu_1 (I : IT) (r : Nat) (V : IT) (f : Nat → Int32) : upR (wr I r V) (r + 1) f = wr I r (upR V 1 f) := wr_up I r V (by decide) f
theorem wu_2 (I : IT) (r : Nat) (V : IT) (f : Nat → Int32) : upR (wr I r V) (r + 2) f = wr I r (upR V 2 f) := wr_up I r V (by decide) f
theorem wu_3 (I : IT) (r : Nat) (V : IT) (f : Nat → Int32) : upR (wr I r V) (r + 3) f = wr I r (upR V 3 f) := wr_up I r V (by decide) f
theorem wu_4 (I : IT) (r : Nat) (V : IT) (f : Nat → Int32) : upR (wr I r V) (r + 4) f = wr I r (upR V 4 f) := wr_up I r V (by decide) f
theorem wu_5 (I : IT) (r : Nat) (V : IT) (f : Nat → Int32) : upR (wr I r V) (r + 5) f = wr I r (upR V 5 f) := wr_up I r V (by decide) f
theorem wu_6 (I : IT) (r : Nat) (V : IT) (f : Nat → Int32) : upR (wr I r V) (r + 6) f = wr I r (upR V 6 f) := wr_up I r V (by decide) f
def vw (I : IT) (r : Nat) : IT := fun j => I (r + j)
theorem wr_vw (I : IT) (r : Nat) : wr I r (vw I r) = I := by
  funext b
  unfold wr vw
  split
  · rename_i h
    rw [show r + (b - r) = b by omega]
  · rfl
theorem wr_wr (I : IT) (r : Nat) (V V' : IT) : wr (wr I r V) r V' = wr I r V' := by
  funext b
  unfold wr
  split <;> rfl
/-- a row filled -/
def flF (f : Nat → Int32) (v : Int32) (n : Nat) : Nat → Int32 := fun j => if j < n then v else f j
theorem flF_s (f : Nat → Int32) (v : Int32) (n : Nat) : upd (flF f v n) n v = flF f v (n + 1) := by
  funext j
  unfold upd flF
  by_cases h : j = n
  · subst h; rw [if_pos rfl, if_pos (by omega)]
  · rw [if_neg h]
    by_cases h2 : j < n
    · rw [if_pos h2, if_pos (by omega)]
    · rw [if_neg h2, if_neg (by omega)]
theorem flF_0 (f : Nat → Int32) (v : Int32) : flF f v 0 = f := by funext j; unfold flF; rw [if_neg (by omega)]
theorem flF_i {f : Nat → Int32} {v : Int32} {n j : Nat} (h : j < n) : flF f v n j = v := if_pos h
theorem flF_o {f : Nat → Int32} {v : Int32} {n j : Nat} (h : n ≤ j) : flF f v n j = f j := if_neg (by omega)
/-- which OFFSET a rest is; 4: none -/
def hitR (c : CT) (r : Nat) : Nat := fIx (fun k => decide (c.2.1 k = r)) 4 0
theorem hitR_le (c : CT) (r : Nat) : hitR c r ≤ 4 := by have := fIx_le (fun k => decide (c.2.1 k = r)) 4 0; unfold hitR; omega
theorem hitN_R (c : CT) (w : Nat) : hitN c w = hitR c (lfN c.1 w) := rfl
def CC (I : IT) (c : CT) : Prop := I 3 4 = nI c.1 ∧ c.1 < 64 ∧ (∀ k, k < 4 → I 4 k = nI (c.2.1 k)) ∧ (∀ k, k < 4 → c.2.1 k < 64) ∧ I 3 6 = nI c.2.2.1 ∧ 1 ≤ c.2.2.1 ∧ c.2.2.1 ≤ 9 ∧ (∀ d, d < 256 → I 5 d = nI (lfN c.1 (64 * d))) ∧ (∀ r, r < 64 → I 6 r = if hitR c r = 4 then -9 else nI (hitR c r)) ∧ (∀ r, r < 64 → I 7 r = nI (c.2.2.2 r)) ∧ (∀ r, r < 64 → c.2.2.2 r < 16384)
theorem CC.wr {I : IT} {c : CT} (h : CC I c) {r : Nat} (hr : 8 ≤ r) (V : IT) : CC (wr I r V) c := by
  unfold CC at h ⊢
  rw [wr_n (show 3 < r ∨ r + 7 ≤ 3 by omega), wr_n (show 4 < r ∨ r + 7 ≤ 4 by omega), wr_n (show 5 < r ∨ r + 7 ≤ 5 by omega), wr_n (show 6 < r ∨ r + 7 ≤ 6 by omega), wr_n (show 7 < r ∨ r + 7 ≤ 7 by omega)]
  exact h
def isCo (Z : ZT) : Prop := zK Z 3 = 1 ∧ zS Z 3 0 = true ∧ zS Z 3 1 = true ∧ zS Z 3 2 = true ∧ zS Z 3 3 = true ∧ zK Z 4 = 7 ∧ zL Z 4 = 4 ∧ zK Z 5 = 7 ∧ zL Z 5 = 256 ∧ zK Z 6 = 7 ∧ zL Z 6 = 64 ∧ zK Z 7 = 7 ∧ zL Z 7 = 64
def isR (Z : ZT) (r : Nat) : Prop := zK Z r = 2 ∧ zS Z r 0 = true ∧ zS Z r 1 = true ∧ zK Z (r + 1) = 3 ∧ zS Z (r + 1) 0 = true ∧ zS Z (r + 1) 1 = true ∧ zS Z (r + 1) 2 = true ∧ zS Z (r + 1) 3 = true ∧ zK Z (r + 2) = 7 ∧ zL Z (r + 2) = 4 ∧ zK Z (r + 3) = 7 ∧ zL Z (r + 3) = 4 ∧ zK Z (r + 4) = 7 ∧ zL Z (r + 4) = 8 ∧ zK Z (r + 5) = 7 ∧ zL Z (r + 5) = 8 ∧ zK Z (r + 6) = 7 ∧ zL Z (r + 6) = 4
