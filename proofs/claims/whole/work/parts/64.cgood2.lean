theorem sh14 : ∀ k, k < 4 → (14 : Int32) * (3 - nI k) = nI (14 * (3 - k)) := by decide
def mxN (c : CT) (G : Int32) (t k : Nat) : Nat → Nat := fun j => if j < k then gwN c G t j else gwN c G 0 j
theorem mx_lt {c : CT} (oC : okC c) (G : Int32) (t k : Nat) : ∀ j, j < 4 → mxN c G t k j < 16384 := fun j hj => by
  unfold mxN
  split
  · exact gwN_lt oC.2.2.1 (oC.2.2.2.1 j hj)
  · exact gwN_lt oC.2.2.1 (oC.2.2.2.1 j hj)
theorem row4_c {u v : Nat → Nat} (h : ∀ j, j < 4 → u j = v j) : row4 u = row4 v := by
  unfold row4
  rw [h 0 (by decide), h 1 (by decide), h 2 (by decide), h 3 (by decide)]
theorem mx_y {c : CT} {G : Int32} {t k : Nat} (hb : t.testBit k = true) : row4 (tuU (mxN c G t k) k) = row4 (mxN c G t (k + 1)) := row4_c (fun j _ => by
  unfold tuU mxN
  by_cases e : j = k
  · subst e
    rw [if_pos rfl, if_neg (by omega), if_pos (by omega), gw0]
    unfold gwN
    rw [hb, if_pos rfl]
  · rw [if_neg e]
    by_cases h : j < k
    · rw [if_pos h, if_pos (by omega)]
    · rw [if_neg h, if_neg (by omega)])
theorem mx_n {c : CT} {G : Int32} {t k : Nat} (hb : t.testBit k = false) : row4 (mxN c G t k) = row4 (mxN c G t (k + 1)) := row4_c (fun j _ => by
  unfold mxN
  by_cases e : j = k
  · subst e
    rw [if_neg (by omega), if_pos (by omega), gw0]
    unfold gwN
    rw [hb]
    exact (Nat.xor_zero _).symm
  · by_cases h : j < k
    · rw [if_pos h, if_pos (by omega)]
    · rw [if_neg h, if_neg (by omega)])
theorem row4_lt {u : Nat → Nat} (h : ∀ j, j < 4 → u j < 16384) : row4 u < 2 ^ 56 := by
  have h0 := h 0 (by decide)
  have h1 := h 1 (by decide)
  have h2 := h 2 (by decide)
  have h3 := h 3 (by decide)
  unfold row4
  omega
