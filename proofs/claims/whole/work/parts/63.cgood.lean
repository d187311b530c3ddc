theorem xs_lo {X Y C s : Nat} (hC : C < 2 ^ s) : (2 ^ s * X + C) ^^^ (2 ^ s * Y) = 2 ^ s * (X ^^^ Y) + C := by
  apply Nat.eq_of_testBit_eq
  intro j
  have e : 2 ^ s * Y = 2 ^ s * Y + 0 := rfl
  rw [e, Nat.testBit_xor, Nat.testBit_two_pow_mul_add _ hC, Nat.testBit_two_pow_mul_add _ (Nat.two_pow_pos s), Nat.testBit_two_pow_mul_add _ hC]
  split
  · rw [Nat.zero_testBit, Bool.xor_false]
  · rw [Nat.testBit_xor]
theorem xs_hi {A B M : Nat} (hB : B < 16384) (hM : M < 16384) : (16384 * A + B) ^^^ M = 16384 * A + (B ^^^ M) := by
  apply Nat.eq_of_testBit_eq
  intro j
  have hx : B ^^^ M < 2 ^ 14 := Nat.xor_lt_two_pow hB hM
  rw [show (16384 : Nat) = 2 ^ 14 from rfl, Nat.testBit_xor, Nat.testBit_two_pow_mul_add _ hB, Nat.testBit_two_pow_mul_add _ hx]
  split
  · rw [Nat.testBit_xor]
  · rename_i h
    have : M.testBit j = false := Nat.testBit_lt_two_pow (Nat.lt_of_lt_of_le hM (Nat.pow_le_pow_right (n := 2) (i := 14) (by decide) (by omega)))
    rw [this, Bool.xor_false]
