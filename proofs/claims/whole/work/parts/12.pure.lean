/-! WHAT IS COMPUTED: the reference's functions, on numbers and rows -/
def lfS (g k n : Nat) : Nat := if n.testBit k then n ^^^ ((64 ||| g) <<< (k - 6)) else n
def lfL (g : Nat) : Nat → Nat → Nat
  | 0, n => n
  | j + 1, n => lfL g j (lfS g (j + 6) n)
/-- the rest of a number of 14 bits -/
def lfN (g n : Nat) : Nat := lfL g 8 n
theorem lt_bits {n k : Nat} (h : ∀ i, k ≤ i → n.testBit i = false) : n < 2 ^ k := Nat.lt_pow_two_of_testBit n (fun i hi => h i hi)
theorem bits_lt {n k i : Nat} (h : n < 2 ^ k) (hi : k ≤ i) : n.testBit i = false := Nat.testBit_lt_two_pow (Nat.lt_of_lt_of_le h (Nat.pow_le_pow_right (by decide) hi))
theorem og_bits {g : Nat} (hg : g < 64) (i : Nat) (hi : 6 ≤ i) : (64 ||| g).testBit i = decide (i = 6) := by
  rw [Nat.testBit_or, bits_lt (show g < 2 ^ 6 from hg) hi, Bool.or_false, show (64 : Nat) = 2 ^ 6 from rfl, Nat.testBit_two_pow]
  by_cases h : i = 6
  · subst h; rfl
  · simp [h, Ne.symm h]
theorem lfS_lt {g k n : Nat} (hg : g < 64) (hk : 6 ≤ k) (hn : n < 2 ^ (k + 1)) : lfS g k n < 2 ^ k := by
  refine lt_bits (fun i hi => ?_)
  unfold lfS
  split
  · rename_i hb
    rw [Nat.testBit_xor, Nat.testBit_shiftLeft, og_bits hg _ (by omega)]
    by_cases hik : i = k
    · subst hik
      rw [hb]
      have : i - (i - 6) = 6 := by omega
      simp [this]
    · rw [bits_lt hn (by omega)]
      have : ¬ (i - (k - 6) = 6) := by omega
      simp [this]
  · rename_i hb
    by_cases hik : i = k
    · subst hik; simpa using hb
    · exact bits_lt hn (by omega)
theorem lfL_lt {g : Nat} (hg : g < 64) : ∀ (j n : Nat), n < 2 ^ (j + 6) → lfL g j n < 64
  | 0, n, h => h
  | j + 1, n, h => lfL_lt hg j _ (lfS_lt hg (by omega) (by rw [show j + 6 + 1 = j + 1 + 6 by omega]; exact h))
theorem lfN_lt {g n : Nat} (hg : g < 64) (hn : n < 16384) : lfN g n < 64 := lfL_lt hg 8 n hn
theorem lfS_xor (g k a b : Nat) : lfS g k (a ^^^ b) = lfS g k a ^^^ lfS g k b := by
  unfold lfS
  rw [Nat.testBit_xor]
  cases a.testBit k <;> cases b.testBit k <;> simp only [Bool.xor_true, Bool.xor_false, Bool.true_xor, Bool.false_xor, Bool.not_true, Bool.not_false, if_true, if_false, Bool.false_eq_true]
  · rw [Nat.xor_assoc]
  · rw [Nat.xor_assoc, Nat.xor_assoc, Nat.xor_comm b]
  · rw [show a ^^^ (64 ||| g) <<< (k - 6) ^^^ (b ^^^ (64 ||| g) <<< (k - 6)) = a ^^^ b ^^^ (((64 ||| g) <<< (k - 6)) ^^^ ((64 ||| g) <<< (k - 6))) by ac_rfl, Nat.xor_self, Nat.xor_zero]
theorem lfL_xor (g : Nat) : ∀ (j a b : Nat), lfL g j (a ^^^ b) = lfL g j a ^^^ lfL g j b
  | 0, _, _ => rfl
  | j + 1, a, b => by show lfL g j (lfS g (j + 6) (a ^^^ b)) = _; rw [lfS_xor, lfL_xor g j]; rfl
theorem lfN_xor (g a b : Nat) : lfN g (a ^^^ b) = lfN g a ^^^ lfN g b := lfL_xor g 8 a b
theorem lfL_id (g : Nat) : ∀ (j n : Nat), n < 64 → lfL g j n = n
  | 0, _, _ => rfl
  | j + 1, n, h => by
    show lfL g j (lfS g (j + 6) n) = n
    have : lfS g (j + 6) n = n := by unfold lfS; rw [bits_lt (show n < 2 ^ 6 from h) (by omega)]; rfl
    rw [this, lfL_id g j n h]
theorem lfN_id (g : Nat) {n : Nat} (h : n < 64) : lfN g n = n := lfL_id g 8 n h
theorem split6 {w : Nat} : w = (64 * (w / 64)) ^^^ (w % 64) := by
  apply Nat.eq_of_testBit_eq
  intro i
  rw [Nat.testBit_xor, show (64 : Nat) * (w / 64) = (w / 2 ^ 6) * 2 ^ 6 by omega, Nat.testBit_mul_two_pow, Nat.testBit_div_two_pow, show (64 : Nat) = 2 ^ 6 from rfl, Nat.testBit_mod_two_pow]
  by_cases h : i < 6
  · simp [h, Nat.not_le.mpr h]
  · have h2 : 6 ≤ i := by omega
    simp [h, h2, show i - 6 + 6 = i by omega]
theorem lfN_split (g : Nat) {w : Nat} : lfN g w = lfN g (64 * (w / 64)) ^^^ (w % 64) := by
  conv => lhs; rw [split6 (w := w)]
  rw [lfN_xor, lfN_id g (Nat.mod_lt _ (by decide))]
/-- the row of rests, one out of half its place -/
def drN (g d r : Nat) : Nat := if d % 2 = 1 then (if 63 < 2 * r then (2 * r ^^^ g) % 64 else 2 * r) ^^^ g else (if 63 < 2 * r then (2 * r ^^^ g) % 64 else 2 * r)
theorem drN_all : (List.range 32).all (fun g2 => (List.range 255).all (fun d1 => lfN (2 * g2 + 1) (64 * (d1 + 1)) == drN (2 * g2 + 1) (d1 + 1) (lfN (2 * g2 + 1) (64 * ((d1 + 1) / 2))))) = true := by decide +kernel
theorem drN_eq {g d : Nat} (hg : g < 64) (ho : g % 2 = 1) (h1 : 1 ≤ d) (hd : d < 256) : lfN g (64 * d) = drN g d (lfN g (64 * (d / 2))) := by
  have h := List.all_eq_true.mp drN_all (g / 2) (List.mem_range.mpr (by omega))
  have h2 := List.all_eq_true.mp h (d - 1) (List.mem_range.mpr (by omega))
  rw [show 2 * (g / 2) + 1 = g by omega, show d - 1 + 1 = d by omega] at h2
  exact eq_of_beq h2
/-- rows: what the reference does to one -/
abbrev RT : Type := Nat → Int32
def npF (ρ : RT) : RT := upd (upd (upd (upd ρ 18 (-9)) 19 (-9)) 20 (-9)) 21 (-9)
def quF (ρ : RT) : RT := upd (upd ρ 7 0) 2 0
def loF (ρ : RT) : RT := npF (quF (upd (upd ρ 3 0) 13 (ρ 13 + 1)))
def fIx (p : Nat → Bool) : Nat → Nat → Nat
  | 0, k => k
  | n + 1, k => if p k then k else fIx p n (k + 1)
def nN (x : Int32) : Nat := x.toNatClampNeg
theorem nN_nI {n : Nat} (h : n < 2 ^ 31) : nN (nI n) = n := nI_clamp h
def hoF (ρ : RT) (s : Int32) : RT :=
  if 1 ≤ s ∧ s ≤ 204 then
    (if fIx (fun k => decide (ρ (31 + k) = s)) (nN (ρ 30)) 0 < nN (ρ 30) then upd ρ (39 + fIx (fun k => decide (ρ (31 + k) = s)) (nN (ρ 30)) 0) (ρ (39 + fIx (fun k => decide (ρ (31 + k) = s)) (nN (ρ 30)) 0) + (if ρ (39 + fIx (fun k => decide (ρ (31 + k) = s)) (nN (ρ 30)) 0) < 99 then 1 else 0))
    else if nN (ρ 30) < 8 then upd (upd (upd ρ (31 + nN (ρ 30)) s) (39 + nN (ρ 30)) 1) 30 (ρ 30 + 1) else ρ)
  else ρ
def tfF (ρ : RT) (f : Int32) : RT := if ρ 17 = f then ρ else upd (upd (upd (upd (upd (upd (upd (upd (upd ρ 17 f) 22 (-9)) 26 (-9)) 23 (-9)) 27 (-9)) 24 (-9)) 28 (-9)) 25 (-9)) 29 (-9)
def tpF (ρ : RT) (pl : Nat) (x : Int32) : RT := if ρ (26 + pl) = x then upd (upd ρ (22 + pl) x) (26 + pl) x else upd ρ (26 + pl) x
/-- the first PART looked at -/
def l1F (ρ : RT) : RT := if ρ 18 = -9 then ρ else upd (upd ρ 14 (if ρ 15 = ρ 18 then ρ 18 else ρ 14)) 15 (ρ 18)
def l2F (ρ : RT) : RT :=
  if ρ 19 = -9 then ρ
  else if nN (ρ 19) / 64 = 0 then (if ρ 20 ≠ -9 ∧ ρ 21 ≠ -9 then tpF ρ (nN (ρ 19) % 4) (256 * ρ 20 + ρ 21) else ρ)
  else if nN (ρ 19) / 64 = 1 then (if ρ 20 ≠ -9 ∧ ρ 21 ≠ -9 ∧ ρ 20 < 24 ∧ ρ 21 < 60 then upd ρ 16 (60 * ρ 20 + ρ 21) else ρ)
  else if nN (ρ 19) / 64 = 2 then hoF (hoF ρ (ρ 20)) (ρ 21)
  else tfF ρ (nI (nN (ρ 19) % 2))
def laF (ρ : RT) : RT := l2F (l1F ρ)
/-- a station: G, OFFSETS, HOLD, the sure burst of each rest -/
abbrev CT : Type := Nat × (Nat → Nat) × Nat × (Nat → Nat)
def hitN (c : CT) (w : Nat) : Nat := fIx (fun k => decide (c.2.1 k = lfN c.1 w)) 4 0
/-- the quotient and what is left, as Java has them -/
def qt (x : Int32) : Int32 := x / 14
def fitsB (ρ : RT) (k : Nat) : Prop := ρ 7 = 1 ∧ (ρ 0 - ρ 8) - (ρ 0 - ρ 8) / 14 * 14 = 0 ∧ 1 ≤ (ρ 0 - ρ 8) / 14 ∧ (ρ 0 - ρ 8) / 14 ≤ 4 ∧ (nN (ρ 9) + nN ((ρ 0 - ρ 8) / 14)) % 4 = k
noncomputable def skF (c : CT) (ρ : RT) : RT := by
  classical
  exact if ρ 2 < 14 ∨ hitN c (nN (ρ 1)) = 4 then ρ
    else if fitsB ρ (hitN c (nN (ρ 1))) then
      (fun σ => if hitN c (nN (ρ 1)) = 3 then laF σ else σ) (upd (upd (npF (upd (upd (upd (upd ρ 3 1) 4 (nI ((hitN c (nN (ρ 1)) + 1) % 4))) 5 0) 6 0)) 10 (ρ 10 + 1)) (18 + hitN c (nN (ρ 1))) (nI (nN (ρ 1) / 64)))
    else upd (upd (upd ρ 7 1) 8 (ρ 0)) 9 (nI (hitN c (nN (ρ 1))))
def cpF (k : Nat) (ρ : RT) : RT := if k = 0 then npF ρ else ρ
def nxF (k : Nat) (ρ : RT) : RT := upd (if k = 3 then laF ρ else ρ) 4 (nI ((k + 1) % 4))
def blF (c : CT) (ρ : RT) : RT :=
  if lfN c.1 (nN (ρ 1) ^^^ c.2.1 (nN (ρ 4))) = 0 then nxF (nN (ρ 4)) (upd (upd (upd (cpF (nN (ρ 4)) ρ) 10 (ρ 10 + 1)) 6 0) (18 + nN (ρ 4)) (nI (nN (ρ 1) / 64)))
  else if c.2.2.2 (lfN c.1 (nN (ρ 1) ^^^ c.2.1 (nN (ρ 4)))) ≠ 0 then nxF (nN (ρ 4)) (upd (upd (cpF (nN (ρ 4)) ρ) 11 (ρ 11 + 1)) (18 + nN (ρ 4)) (nI ((nN (ρ 1) ^^^ c.2.2.2 (lfN c.1 (nN (ρ 1) ^^^ c.2.1 (nN (ρ 4))))) / 64)))
  else if ρ 6 + 1 = nI c.2.2.1 then loF (upd (upd (upd (cpF (nN (ρ 4)) ρ) 12 (ρ 12 + 1)) 6 (ρ 6 + 1)) (18 + nN (ρ 4)) (-9))
  else nxF (nN (ρ 4)) (upd (upd (upd (cpF (nN (ρ 4)) ρ) 12 (ρ 12 + 1)) 6 (ρ 6 + 1)) (18 + nN (ρ 4)) (-9))
def b1F (ρ : RT) (b : Nat) : RT := upd (upd (upd ρ 1 (nI ((2 * nN (ρ 1) + b) % 16384))) 0 (ρ 0 + 1)) 2 (ρ 2 + 1)
noncomputable def htF (c : CT) (ρ : RT) (b : Nat) : RT :=
  if b1F ρ b 3 = 0 then skF c (b1F ρ b)
  else if b1F ρ b 5 + 1 = 14 then blF c (upd (upd (b1F ρ b) 5 (b1F ρ b 5 + 1)) 5 0)
  else upd (b1F ρ b) 5 (b1F ρ b 5 + 1)
/-- n bits of v, the highest first -/
noncomputable def hsF (c : CT) : Nat → RT → Nat → RT
  | 0, ρ, _ => ρ
  | n + 1, ρ, v => hsF c n (htF c ρ (v / 2 ^ n % 2)) v
