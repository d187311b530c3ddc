theorem fa_and (a b : Nat) : nI a &&& nI b = nI (a &&& b) := by
  apply Int32.toBitVec_inj.1
  show BitVec.ofNat 32 a &&& BitVec.ofNat 32 b = BitVec.ofNat 32 (a &&& b)
  apply BitVec.eq_of_getLsbD_eq
  intro i hi
  simp [hi]
theorem fa_or (a b : Nat) : nI a ||| nI b = nI (a ||| b) := by
  apply Int32.toBitVec_inj.1
  show BitVec.ofNat 32 a ||| BitVec.ofNat 32 b = BitVec.ofNat 32 (a ||| b)
  apply BitVec.eq_of_getLsbD_eq
  intro i hi
  simp [hi]
theorem fa_mask (n k : Nat) : nI n &&& nI (2 ^ k - 1) = nI (n % 2 ^ k) := by rw [fa_and, Nat.and_two_pow_sub_one_eq_mod]
theorem fb_xorI (a b : Nat) : nI a ^^^ nI b = nI (a ^^^ b) := by
  apply Int32.toBitVec_inj.1
  show BitVec.ofNat 32 a ^^^ BitVec.ofNat 32 b = BitVec.ofNat 32 (a ^^^ b)
  apply BitVec.eq_of_getLsbD_eq
  intro i hi
  simp [hi]
theorem s_l : ∀ n, n < 32 → ((nI n &&& 31).toBitVec.smod 32).toNat = n := by decide +kernel
theorem shrI {s j : Nat} (hs : s < 2 ^ 31) (hj : j < 32) : nI s >>> (nI j &&& 31) = nI (s / 2 ^ j) := pk_shrN hs _ j (s_l j hj)
theorem shlI {s j : Nat} (hs : s * 2 ^ j < 2 ^ 32) (hj : j < 32) : nI s <<< (nI j &&& 31) = nI (s * 2 ^ j) := pk_shlN _ j (s_l j hj) hs
theorem and1 (n : Nat) : nI n &&& 1 = nI (n % 2) := fa_mask n 1
theorem and3 (n : Nat) : nI n &&& 3 = nI (n % 4) := fa_mask n 2
theorem and63 (n : Nat) : nI n &&& 63 = nI (n % 64) := fa_mask n 6
theorem and255 (n : Nat) : nI n &&& 255 = nI (n % 256) := fa_mask n 8
theorem and16383 (n : Nat) : nI n &&& 16383 = nI (n % 16384) := fa_mask n 14
theorem nI_inj {a b : Nat} (ha : a < 2 ^ 31) (hb : b < 2 ^ 31) (h : nI a = nI b) : a = b := (nI_eq ha hb).mp h
theorem nI_ne {a b : Nat} (ha : a < 2 ^ 31) (hb : b < 2 ^ 31) (h : a ≠ b) : nI a ≠ nI b := fun e => h (nI_inj ha hb e)
theorem nI_ne9 {a : Nat} (ha : a < 2 ^ 31) : nI a ≠ -9 := fun e => nI_pos ha (by rw [e]; decide)
theorem remI {a d : Nat} (ha : a < 2 ^ 31) (h0 : 0 < d) (hd : d < 2 ^ 31) : nI a - nI a / nI d * nI d = nI (a % d) := pk_rem ha h0 hd
theorem bit_eq (s j : Nat) : s / 2 ^ j % 2 = if s.testBit j then 1 else 0 := by
  rw [Nat.testBit_eq_decide_div_mod_eq]
  by_cases h : s / 2 ^ j % 2 = 1
  · simp [h]
  · have : s / 2 ^ j % 2 < 2 := Nat.mod_lt _ (by decide)
    simp [h]; omega
theorem bitI {s j : Nat} (hs : s < 2 ^ 31) (hj : j < 32) : (nI s >>> (nI j &&& 31)) &&& 1 = nI (if s.testBit j then 1 else 0) := by rw [shrI hs hj, and1, bit_eq]
theorem i64_le (x y : Int64) : x ≤ y ↔ x.toInt ≤ y.toInt := Int64.le_iff_toInt_le
theorem i64_lt (x y : Int64) : x < y ↔ x.toInt < y.toInt := Int64.lt_iff_toInt_lt
theorem i32_le (x y : Int32) : x ≤ y ↔ x.toInt ≤ y.toInt := Int32.le_iff_toInt_le
theorem i32_lt (x y : Int32) : x < y ↔ x.toInt < y.toInt := Int32.lt_iff_toInt_lt
/-- a number between two -/
def isBt (a b : Nat) (x : Int32) (T F : Prop) : Prop := (∀ j, a ≤ j → j ≤ b → x = nI j → T) ∧ ((∀ j, a ≤ j → j ≤ b → x ≠ nI j) → F)
theorem bt_t {a b : Nat} {x : Int32} (hb : b < 2 ^ 31) (h1 : (a : Int) ≤ x.toInt) (h2 : x.toInt ≤ b) : ∃ j, a ≤ j ∧ j ≤ b ∧ x = nI j := by
  refine ⟨x.toInt.toNat, by omega, by omega, ?_⟩
  apply Int32.toInt_inj.mp
  rw [nI_toInt (by omega)]
  omega
theorem isBt_t {a b : Nat} {x : Int32} {T F : Prop} (hp : isBt a b x T F) (hb : b < 2 ^ 31) (h1 : (a : Int) ≤ x.toInt) (h2 : x.toInt ≤ b) : T := by
  obtain ⟨j, g1, g2, g3⟩ := bt_t hb h1 h2
  exact hp.1 j g1 g2 g3
theorem isBt_f {a b : Nat} {x : Int32} {T F : Prop} (hp : isBt a b x T F) (hb : b < 2 ^ 31) (h : ¬ ((a : Int) ≤ x.toInt ∧ x.toInt ≤ b)) : F := by
  refine hp.2 (fun j g1 g2 e => h ?_)
  rw [e, nI_toInt (by omega)]
  omega
theorem i32_64 (x : Int32) : x.toInt64.toInt = x.toInt := Int32.toInt_toInt64 x
