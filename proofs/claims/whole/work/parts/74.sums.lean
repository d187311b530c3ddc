/-! SUMS: the ways to SYNC and the sets of turned bits, counted by the class one bit behind another, by the reference over all masks -/
def smN (f : Nat → Nat) : Nat → Nat
  | 0 => 0
  | n + 1 => smN f n + f n
theorem sm_cong {f h : Nat → Nat} : ∀ n, (∀ k, k < n → f k = h k) → smN f n = smN h n
  | 0, _ => rfl
  | n + 1, e => by
    show smN f n + f n = smN h n + h n
    rw [sm_cong n (fun k hk => e k (by omega)), e n (by omega)]
theorem sm_two (f : Nat → Nat) : ∀ n, smN f (2 * n) = smN (fun s => f (2 * s) + f (2 * s + 1)) n
  | 0 => rfl
  | n + 1 => by
    show smN f (2 * n) + f (2 * n) + f (2 * n + 1) = smN (fun s => f (2 * s) + f (2 * s + 1)) n + (f (2 * n) + f (2 * n + 1))
    rw [sm_two f n]
    omega
theorem sm_lin (a b : Nat) (f h : Nat → Nat) : ∀ n, smN (fun s => a * f s + b * h s) n = a * smN f n + b * smN h n
  | 0 => by show 0 = a * 0 + b * 0; omega
  | n + 1 => by
    show smN (fun s => a * f s + b * h s) n + (a * f n + b * h n) = a * (smN f n + f n) + b * (smN h n + h n)
    rw [sm_lin a b f h n, Nat.mul_add, Nat.mul_add]
    omega
def pcN : Nat → Nat → Nat
  | 0, _ => 0
  | r + 1, s => s % 2 + pcN r (s / 2)
theorem pcN_le : ∀ r s, pcN r s ≤ r
  | 0, _ => Nat.le_refl 0
  | r + 1, s => by
    have := pcN_le r (s / 2)
    show s % 2 + pcN r (s / 2) ≤ r + 1
    omega
noncomputable def hwF (c : CT) (G : Int32) : Nat → Nat → Nat → RT → RT
  | 0, _, _, σ => σ
  | r + 1, d, s, σ => hwF c G r (d + 1) (s / 2) (hsF c 14 σ (gwN c G (if s % 2 = 1 then 15 else 0) (d % 4)))
noncomputable def wtN (c : CT) (G : Int32) (x r d : Nat) (σ : RT) (s : Nat) : Nat := if hwF c G r d s σ 3 = 1 then x ^ pcN r s * (10 - x) ^ (r - pcN r s) else 0
theorem wt_even (c : CT) (G : Int32) (x r d : Nat) (σ : RT) (s : Nat) : wtN c G x (r + 1) d σ (2 * s) = (10 - x) * wtN c G x r (d + 1) (hsF c 14 σ (gwN c G 0 (d % 4))) s := by
  have h := pcN_le r s
  unfold wtN
  have e1 : hwF c G (r + 1) d (2 * s) σ = hwF c G r (d + 1) s (hsF c 14 σ (gwN c G 0 (d % 4))) := by
    show hwF c G r (d + 1) (2 * s / 2) (hsF c 14 σ (gwN c G (if 2 * s % 2 = 1 then 15 else 0) (d % 4))) = _
    rw [if_neg (by omega), show 2 * s / 2 = s by omega]
  have e2 : pcN (r + 1) (2 * s) = pcN r s := by
    show 2 * s % 2 + pcN r (2 * s / 2) = _
    rw [show 2 * s / 2 = s by omega]
    omega
  rw [e1, e2]
  split
  · rw [show r + 1 - pcN r s = r - pcN r s + 1 by omega, Nat.pow_succ, ← Nat.mul_assoc, Nat.mul_comm]
  · rw [Nat.mul_zero]
theorem wt_odd (c : CT) (G : Int32) (x r d : Nat) (σ : RT) (s : Nat) : wtN c G x (r + 1) d σ (2 * s + 1) = x * wtN c G x r (d + 1) (hsF c 14 σ (gwN c G 15 (d % 4))) s := by
  have h := pcN_le r s
  unfold wtN
  have e1 : hwF c G (r + 1) d (2 * s + 1) σ = hwF c G r (d + 1) s (hsF c 14 σ (gwN c G 15 (d % 4))) := by
    show hwF c G r (d + 1) ((2 * s + 1) / 2) (hsF c 14 σ (gwN c G (if (2 * s + 1) % 2 = 1 then 15 else 0) (d % 4))) = _
    rw [if_pos (by omega), show (2 * s + 1) / 2 = s by omega]
  have e2 : pcN (r + 1) (2 * s + 1) = pcN r s + 1 := by
    show (2 * s + 1) % 2 + pcN r ((2 * s + 1) / 2) = _
    rw [show (2 * s + 1) / 2 = s by omega]
    omega
  rw [e1, e2]
  split
  · rw [show r + 1 - (pcN r s + 1) = r - pcN r s by omega, Nat.pow_succ, Nat.mul_comm (x ^ pcN r s) x, Nat.mul_assoc]
  · rw [Nat.mul_zero]
theorem ws_sum (c : CT) (G : Int32) (x : Nat) : ∀ (r d : Nat) (σ : RT), wsN c G x r d σ = smN (wtN c G x r d σ) (2 ^ r)
  | 0, d, σ => by
    show (if σ 3 = 1 then 1 else 0) = 0 + wtN c G x 0 d σ 0
    unfold wtN
    show _ = 0 + if σ 3 = 1 then x ^ 0 * (10 - x) ^ 0 else 0
    split
    · rw [Nat.pow_zero, Nat.pow_zero]
    · rfl
  | r + 1, d, σ => by
    show (10 - x) * wsN c G x r (d + 1) (hsF c 14 σ (gwN c G 0 (d % 4))) + x * wsN c G x r (d + 1) (hsF c 14 σ (gwN c G 15 (d % 4))) = _
    rw [ws_sum c G x r, ws_sum c G x r, ← sm_lin, Nat.pow_succ, Nat.mul_comm (2 ^ r) 2, sm_two]
    exact sm_cong _ (fun s _ => by rw [wt_even, wt_odd])
noncomputable def hcF (c : CT) (G : Int32) (s : Nat) : Nat → RT → RT
  | 0, ρ => ρ
  | k + 1, ρ => hgF c G (s / 2 ^ (4 * k) % 16) 4 (hcF c G s k ρ)
theorem gw_b {c : CT} {G : Int32} {u t k : Nat} (hk : k < 4) (h : t / 2 ^ k % 2 = u % 2) : gwN c G (if u % 2 = 1 then 15 else 0) k = gwN c G t k := by
  unfold gwN
  congr 1
  rw [Nat.testBit_eq_decide_div_mod_eq (x := t), h]
  by_cases e : u % 2 = 1
  · rw [if_pos e, decide_eq_true e, show (15 : Nat).testBit k = true from (show ∀ k, k < 4 → (15 : Nat).testBit k = true by decide) k hk]
  · rw [if_neg e, decide_eq_false e, Nat.zero_testBit]
theorem hw_4 (c : CT) (G : Int32) (d s t : Nat) (σ : RT) (hd : d % 4 = 0) (ht : t = s % 16) : hwF c G 4 d s σ = hgF c G t 4 σ := by
  subst ht
  show hsF c 14 (hsF c 14 (hsF c 14 (hsF c 14 σ (gwN c G (if s % 2 = 1 then 15 else 0) (d % 4))) (gwN c G (if s / 2 % 2 = 1 then 15 else 0) ((d + 1) % 4))) (gwN c G (if s / 2 / 2 % 2 = 1 then 15 else 0) ((d + 1 + 1) % 4))) (gwN c G (if s / 2 / 2 / 2 % 2 = 1 then 15 else 0) ((d + 1 + 1 + 1) % 4)) = hsF c 14 (hsF c 14 (hsF c 14 (hsF c 14 σ (gwN c G (s % 16) 0)) (gwN c G (s % 16) 1)) (gwN c G (s % 16) 2)) (gwN c G (s % 16) 3)
  rw [hd, show (d + 1) % 4 = 1 by omega, show (d + 1 + 1) % 4 = 2 by omega, show (d + 1 + 1 + 1) % 4 = 3 by omega, gw_b (t := s % 16) (k := 0) (by decide) (by omega), gw_b (t := s % 16) (k := 1) (by decide) (by omega), gw_b (t := s % 16) (k := 2) (by decide) (by omega), gw_b (t := s % 16) (k := 3) (by decide) (by omega)]
theorem hw_1 (c : CT) (G : Int32) (s : Nat) (σ : RT) : hwF c G 4 0 s σ = hcF c G s 1 σ := by
  show _ = hgF c G (s / 2 ^ (4 * 0) % 16) 4 σ
  exact hw_4 c G 0 s _ σ rfl (by rw [Nat.mul_zero, Nat.pow_zero, Nat.div_one])
theorem hw_2 (c : CT) (G : Int32) (s : Nat) (σ : RT) : hwF c G 8 0 s σ = hcF c G s 2 σ := by
  show hwF c G 4 4 (s / 2 / 2 / 2 / 2) (hwF c G 4 0 s σ) = hgF c G (s / 2 ^ (4 * 1) % 16) 4 (hcF c G s 1 σ)
  rw [hw_1]
  exact hw_4 c G 4 _ _ _ rfl (by rw [show 2 ^ (4 * 1) = 16 from rfl]; omega)
theorem pc_4 : ∀ s, s < 16 → pcN 4 s = onF s 14 := by decide
theorem pc_8 : ∀ s, s < 256 → pcN 8 s = onF s 14 := by decide +kernel
noncomputable def ctN (c : CT) (G : Int32) (x k : Nat) (ρ : RT) (s : Nat) : Nat := if hcF c G s k ρ 3 = 1 then x ^ onF s 14 * (10 - x) ^ (4 * k - onF s 14) else 0
theorem ct_ws {c : CT} {G : Int32} {x k : Nat} (hk : k = 1 ∨ k = 2) (ρ : RT) : smN (ctN c G x k ρ) (2 ^ (4 * k)) = wsN c G x (4 * k) 0 ρ := by
  rw [ws_sum]
  refine sm_cong _ (fun s hs => ?_)
  unfold ctN wtN
  rcases hk with e | e <;> subst e
  · rw [show 4 * 1 = 4 from rfl, hw_1, pc_4 s hs]
  · rw [show 4 * 2 = 8 from rfl, hw_2, pc_8 s hs]
/-- sets of turned bits -/
theorem on_two (s : Nat) : ∀ r, onF s (r + 1) = s % 2 + onF (s / 2) r
  | 0 => by
    show 0 + (if s.testBit 0 then 1 else 0) = s % 2 + 0
    rw [← bit_eq s 0, Nat.pow_zero, Nat.div_one]
    omega
  | r + 1 => by
    show onF s (r + 1) + (if s.testBit (r + 1) then 1 else 0) = s % 2 + (onF (s / 2) r + (if (s / 2).testBit r then 1 else 0))
    rw [on_two s r, Nat.testBit_succ]
    omega
theorem pc_on : ∀ r s, pcN r s = onF s r
  | 0, _ => rfl
  | r + 1, s => by
    rw [on_two, ← pc_on r (s / 2)]
    rfl
def ttN (c : CT) (wh n r fr s : Nat) (m : Nat) : Nat := if pcN r m = n ∧ ftN c (s + 2 ^ fr * m) = wh then 1 else 0
theorem tt_even (c : CT) (wh n r fr s m : Nat) : ttN c wh n (r + 1) fr s (2 * m) = ttN c wh n r (fr + 1) s m := by
  unfold ttN
  have e2 : pcN (r + 1) (2 * m) = pcN r m := by
    show 2 * m % 2 + pcN r (2 * m / 2) = _
    rw [show 2 * m / 2 = m by omega]
    omega
  rw [e2, show 2 ^ fr * (2 * m) = 2 ^ (fr + 1) * m by rw [Nat.pow_succ, Nat.mul_assoc]]
theorem tt_odd (c : CT) (wh n r fr s m : Nat) : ttN c wh (n + 1) (r + 1) fr s (2 * m + 1) = ttN c wh n r (fr + 1) (s + 2 ^ fr) m := by
  unfold ttN
  have e2 : pcN (r + 1) (2 * m + 1) = pcN r m + 1 := by
    show (2 * m + 1) % 2 + pcN r ((2 * m + 1) / 2) = _
    rw [show (2 * m + 1) / 2 = m by omega]
    omega
  rw [e2, show s + 2 ^ fr * (2 * m + 1) = s + 2 ^ fr + 2 ^ (fr + 1) * m by rw [Nat.pow_succ, Nat.mul_add, Nat.mul_one, Nat.mul_assoc]; omega]
  congr 1
  exact propext ⟨fun h => ⟨by omega, h.2⟩, fun h => ⟨by omega, h.2⟩⟩
theorem tt_odd0 (c : CT) (wh r fr s m : Nat) : ttN c wh 0 (r + 1) fr s (2 * m + 1) = 0 := by
  unfold ttN
  have e2 : pcN (r + 1) (2 * m + 1) = pcN r m + 1 := by
    show (2 * m + 1) % 2 + pcN r ((2 * m + 1) / 2) = _
    rw [show (2 * m + 1) / 2 = m by omega]
    omega
  rw [if_neg (fun h => by have := h.1; omega)]
theorem sm_add (f h : Nat → Nat) : ∀ n, smN (fun s => f s + h s) n = smN f n + smN h n
  | 0 => rfl
  | n + 1 => by
    show smN (fun s => f s + h s) n + (f n + h n) = smN f n + f n + (smN h n + h n)
    rw [sm_add f h n]
    omega
theorem su_first (f : Nat → Nat) (fr : Nat) : ∀ k, suN f fr (k + 1) = f fr + suN f (fr + 1) k
  | 0 => by show 0 + f (fr + 0) = f fr + 0; rw [Nat.add_zero]; omega
  | k + 1 => by
    show suN f fr (k + 1) + f (fr + (k + 1)) = f fr + (suN f (fr + 1) k + f (fr + 1 + k))
    rw [su_first f fr k, show fr + (k + 1) = fr + 1 + k by omega]
    omega
theorem or_hi {s fr : Nat} (h : s < 2 ^ fr) : s ||| 2 ^ fr = s + 2 ^ fr := by
  have := Nat.two_pow_add_eq_or_of_lt h 1
  rw [Nat.mul_one] at this
  rw [Nat.or_comm, ← this, Nat.add_comm]
theorem tt_sw (c : CT) (wh : Nat) : ∀ (r n fr s : Nat), fr + r = 14 → s < 2 ^ fr → smN (ttN c wh n r fr s) (2 ^ r) = swN c wh n fr s
  | 0, 0, fr, s, hfr, hs => by
    show 0 + ttN c wh 0 0 fr s 0 = if ftN c s = wh then 1 else 0
    unfold ttN
    rw [Nat.mul_zero, Nat.add_zero, Nat.zero_add]
    by_cases e : ftN c s = wh
    · rw [if_pos ⟨rfl, e⟩, if_pos e]
    · rw [if_neg (fun z => e z.2), if_neg e]
  | 0, n + 1, fr, s, hfr, hs => by
    show 0 + ttN c wh (n + 1) 0 fr s 0 = suN _ fr (14 - fr)
    rw [show 14 - fr = 0 by omega]
    unfold ttN
    rw [if_neg (fun z => by have := z.1; exact absurd this (by show ¬ 0 = n + 1; omega))]
    rfl
  | r + 1, 0, fr, s, hfr, hs => by
    rw [Nat.pow_succ, Nat.mul_comm (2 ^ r) 2, sm_two]
    have ih := tt_sw c wh r 0 (fr + 1) s (by omega) (Nat.lt_of_lt_of_le hs (Nat.pow_le_pow_right (by decide) (by omega)))
    rw [show swN c wh 0 fr s = swN c wh 0 (fr + 1) s from rfl, ← ih]
    exact sm_cong _ (fun m _ => by rw [tt_even, tt_odd0, Nat.add_zero])
  | r + 1, n + 1, fr, s, hfr, hs => by
    have h2 : s < 2 ^ (fr + 1) := Nat.lt_of_lt_of_le hs (Nat.pow_le_pow_right (by decide) (by omega))
    have h3 : s + 2 ^ fr < 2 ^ (fr + 1) := by rw [Nat.pow_succ]; omega
    rw [Nat.pow_succ, Nat.mul_comm (2 ^ r) 2, sm_two]
    have e : smN (fun m => ttN c wh (n + 1) (r + 1) fr s (2 * m) + ttN c wh (n + 1) (r + 1) fr s (2 * m + 1)) (2 ^ r) = smN (fun m => ttN c wh (n + 1) r (fr + 1) s m + ttN c wh n r (fr + 1) (s + 2 ^ fr) m) (2 ^ r) := sm_cong _ (fun m _ => by rw [tt_even, tt_odd])
    rw [e, sm_add, tt_sw c wh r (n + 1) (fr + 1) s (by omega) h2, tt_sw c wh r n (fr + 1) (s + 2 ^ fr) (by omega) h3]
    show suN (fun b => swN c wh n (b + 1) (s ||| 2 ^ b)) (fr + 1) (14 - (fr + 1)) + swN c wh n (fr + 1) (s + 2 ^ fr) = suN (fun b => swN c wh n (b + 1) (s ||| 2 ^ b)) fr (14 - fr)
    rw [show 14 - fr = 14 - (fr + 1) + 1 by omega, su_first]
    rw [or_hi hs]
    omega
def fwN (c : CT) (n wh m : Nat) : Nat := if onF m 14 = n ∧ ftN c m = wh then 1 else 0
theorem fw_sw (c : CT) (n wh : Nat) : smN (fwN c n wh) 16384 = swN c wh n 0 0 := by
  rw [← tt_sw c wh 14 n 0 0 rfl (by decide)]
  refine sm_cong _ (fun m _ => ?_)
  unfold fwN ttN
  rw [pc_on, Nat.pow_zero, Nat.one_mul, Nat.zero_add]
