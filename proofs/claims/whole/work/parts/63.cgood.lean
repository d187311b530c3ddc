theorem xs_lo {X Y C s : Nat} (hC : C < 2 ^ s) : (2 ^ s * X + C) ^^^ (2 ^ s * Y) = 2 ^ s * (X ^^^ Y) + C := by
  apply Nat.eq_of_testBit_eq
  intro j
  have e : 2 ^ s * Y = 2 ^ s * Y + 0 := rfl
  rw [e, Nat.testBit_xor, Nat.testBit_two_pow_mul_add _ hC, Nat.testBit_two_pow_mul_add _ (Nat.two_pow_pos s), Nat.testBit_two_pow_mul_add _ hC]
  split
  · rw [Nat.zero_testBit, Bool.xor_false]
  · rw [Nat.testBit_xor]
theorem xs_hi {A B M : Nat} (hB : B < 16384) (hM : M < 16384) : (16384 * A + B) ^^^ M = 16384 * A + (B ^^^ M) := by
  apply Nat.eq_of_testBit_eq
  intro j
  have hx : B ^^^ M < 2 ^ 14 := Nat.xor_lt_two_pow hB hM
  rw [show (16384 : Nat) = 2 ^ 14 from rfl, Nat.testBit_xor, Nat.testBit_two_pow_mul_add _ hB, Nat.testBit_two_pow_mul_add _ hx]
  split
  · rw [Nat.testBit_xor]
  · rename_i h
    have : M.testBit j = false := Nat.testBit_lt_two_pow (Nat.lt_of_lt_of_le hM (Nat.pow_le_pow_right (n := 2) (i := 14) (by decide) (by omega)))
    rw [this, Bool.xor_false]
def row4 (u : Nat → Nat) : Nat := 16384 * (16384 * (16384 * u 0 + u 1) + u 2) + u 3
def tuU (u : Nat → Nat) (k : Nat) : Nat → Nat := fun j => if j = k then u j ^^^ 16383 else u j
theorem xrow {u : Nat → Nat} (hu : ∀ j, j < 4 → u j < 16384) {k : Nat} (hk : k < 4) : row4 u ^^^ (16383 * 2 ^ (14 * (3 - k))) = row4 (tuU u k) := by
  have h0 := hu 0 (by decide)
  have h1 := hu 1 (by decide)
  have h2 := hu 2 (by decide)
  have h3 := hu 3 (by decide)
  have : k = 0 ∨ k = 1 ∨ k = 2 ∨ k = 3 := by omega
  unfold row4 tuU
  rcases this with r | r | r | r <;> subst r
  · have e : 16384 * (16384 * (16384 * u 0 + u 1) + u 2) + u 3 = 2 ^ 42 * u 0 + (16384 * (16384 * u 1 + u 2) + u 3) := by omega
    rw [e, show 16383 * 2 ^ (14 * (3 - 0)) = 2 ^ 42 * 16383 from rfl, xs_lo (by omega)]
    simp only [if_true, if_neg (show ¬ 1 = 0 by decide), if_neg (show ¬ 2 = 0 by decide), if_neg (show ¬ 3 = 0 by decide)]
    generalize u 0 ^^^ 16383 = z
    omega
  · have e : 16384 * (16384 * (16384 * u 0 + u 1) + u 2) + u 3 = 2 ^ 28 * (16384 * u 0 + u 1) + (16384 * u 2 + u 3) := by omega
    rw [e, show 16383 * 2 ^ (14 * (3 - 1)) = 2 ^ 28 * 16383 from rfl, xs_lo (by omega), xs_hi h1 (by decide)]
    simp only [if_true, if_neg (show ¬ 0 = 1 by decide), if_neg (show ¬ 2 = 1 by decide), if_neg (show ¬ 3 = 1 by decide)]
    generalize u 1 ^^^ 16383 = z
    omega
  · have e : 16384 * (16384 * (16384 * u 0 + u 1) + u 2) + u 3 = 2 ^ 14 * (16384 * (16384 * u 0 + u 1) + u 2) + u 3 := rfl
    rw [e, show 16383 * 2 ^ (14 * (3 - 2)) = 2 ^ 14 * 16383 from rfl, xs_lo (by omega), xs_hi h2 (by decide)]
    simp only [if_true, if_neg (show ¬ 0 = 2 by decide), if_neg (show ¬ 1 = 2 by decide), if_neg (show ¬ 3 = 2 by decide)]
  · rw [show 16383 * 2 ^ (14 * (3 - 3)) = 16383 from rfl, xs_hi h3 (by decide)]
    simp only [if_true, if_neg (show ¬ 0 = 3 by decide), if_neg (show ¬ 1 = 3 by decide), if_neg (show ¬ 2 = 3 by decide)]
theorem rt_row4 (c : CT) (G : Int32) (t : Nat) : rtN c G t 4 = row4 (gwN c G t) := by
  show (((0 * 16384 + gwN c G t 0) * 16384 + gwN c G t 1) * 16384 + gwN c G t 2) * 16384 + gwN c G t 3 = _
  unfold row4
  omega
theorem tb15 : ∀ s, s < 16 → ∀ k, k < 4 → (15 - s).testBit k = decide (s / 2 ^ k % 2 = 0) := by decide
noncomputable def giT (c : CT) (G : Int32) (t : Nat) : Nat → RT → RT
  | 0, ρ => ρ
  | n + 1, ρ => hgF c G t 4 (giT c G t n ρ)
theorem OKz.gt {c : CT} (hc : okC c) (G : Int32) (t : Nat) {ρ : RT} (h : OKz c ρ) : ∀ n, OKz c (giT c G t n ρ)
  | 0 => h
  | n + 1 => OKz.hg hc G t (OKz.gt hc G t h n) 4
