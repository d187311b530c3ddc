/-! CLASS AND REFERENCE BESIDE ONE ANOTHER -/
theorem CSt.eqC {t : Nat → Nat} {n : Nat} {c : CT} {w : Nat} {ρ : RT} {A : Nat × Nat × (Nat → RT)} {K : (Nat → RT) × (Nat → Bool)} {E : (Nat → Int32) × (Nat → Nat) × (Nat → Nat) × Nat} {sd : Int64} {I I' : IT} {L L' : LT} (h : CSt t n c w ρ A K E sd I L) (e : eqC I I') (hl : L' 0 = L 0) : CSt t n c w ρ A K E sd I' L' := by
  obtain ⟨h1, h2, h3, h4, h5, h6, h7⟩ := h
  exact ⟨h1.fr (e 1 (by decide)) (e 2 (by decide)), h2.fr (fun a _ h => e a (by omega)), rec_fr h3 (fun j hj => e (8 + j) (by omega)), h4.fr (fun a _ h => e a (by omega)), h5.fr (fun a _ h => e a (by omega)), h6.fr (by rw [e 0 (by decide)]) (fun a _ h => e a (by omega)), hl.trans h7⟩
theorem MSt.eqM {t : Nat → Nat} {n : Nat} {c : CT} {w : Nat} {ρ : RT} {A : Nat × Nat × (Nat → RT)} {K : (Nat → RT) × (Nat → Bool)} {E : (Nat → Int32) × (Nat → Nat) × (Nat → Nat) × Nat} {sd : Int64} {I I' : IT} {L L' : LT} (h : MSt t n c w ρ A K E sd I L) (e : eqM I I') (hl : L' 198 = L 198) : MSt t n c w ρ A K E sd I' L' := by
  obtain ⟨h1, h2, h3, h4, h5, h6, h7, h8⟩ := h.scr (I' := I') (fun j _ => by rw [e 198 (by decide)]) (fun a h1 _ _ => e a (by omega)) (by rw [e 204 (by decide)]; exact h.2.2.2.2.2.2.2)
  exact ⟨h1, h2, h3, h4, h5, h6, hl.trans h7, h8⟩
def RSt (I : IT) (L : LT) : Prop := ∃ (t : Nat → Nat) (n : Nat) (c : CT) (w : Nat) (ρ : RT) (A : Nat × Nat × (Nat → RT)) (K : (Nat → RT) × (Nat → Bool)) (E : (Nat → Int32) × (Nat → Nat) × (Nat → Nat) × Nat) (sd : Int64), CSt t n c w ρ A K E sd I L ∧ MSt t n c w ρ A K E sd I L ∧ OKs c w ρ A K E
theorem OKs.act {c : CT} {w : Nat} {ρ ρ' : RT} {A : Nat × Nat × (Nat → RT)} {K : (Nat → RT) × (Nat → Bool)} {E : (Nat → Int32) × (Nat → Nat) × (Nat → Nat) × Nat} (h : OKs c w ρ A K E) (hn : A.1 < 14) (hρ : OKz c ρ') : OKs c w ρ' (acA A ρ) K E := by
  refine ⟨h.1, h.2.1, hρ, fun j hj => ?_, h.2.2.2.2⟩
  have hj : j < min (A.2.1 + 1) 14 := hj
  show OKz c (dnU A.2.2 A.1 ρ (((A.1 + 1) % 14 + 13 - j) % 14))
  unfold dnU
  by_cases h0 : j = 0
  · rw [if_pos (by omega)]
    exact h.2.2.1
  · rw [if_neg (by omega), show ((A.1 + 1) % 14 + 13 - j) % 14 = (A.1 + 13 - (j - 1)) % 14 by omega]
    exact h.2.2.2.1 (j - 1) (by omega)
theorem OKs.und {c : CT} {w : Nat} {ρ : RT} {A : Nat × Nat × (Nat → RT)} {K : (Nat → RT) × (Nat → Bool)} {E : (Nat → Int32) × (Nat → Nat) × (Nat → Nat) × Nat} (h : OKs c w ρ A K E) (hn : A.1 < 14) (h0 : 0 < A.2.1) (h14 : A.2.1 ≤ 14) : OKs c w (A.2.2 ((A.1 + 13) % 14)) ((A.1 + 13) % 14, A.2.1 - 1, A.2.2) K E := by
  refine ⟨h.1, h.2.1, h.2.2.2.1 0 h0, fun j hj => ?_, h.2.2.2.2⟩
  have hj : j < A.2.1 - 1 := hj
  show OKz c (A.2.2 (((A.1 + 13) % 14 + 13 - j) % 14))
  rw [show ((A.1 + 13) % 14 + 13 - j) % 14 = (A.1 + 13 - (j + 1)) % 14 by omega]
  exact h.2.2.2.1 (j + 1) (by omega)
theorem OKs.sta {c : CT} {w : Nat} {ρ : RT} {A : Nat × Nat × (Nat → RT)} {K : (Nat → RT) × (Nat → Bool)} {E : (Nat → Int32) × (Nat → Nat) × (Nat → Nat) × Nat} (h : OKs c w ρ A K E) {t : Nat → Nat} {n : Nat} (hf : fauF t n = -9) : OKs (stC t) (t 11 - 48) fr0 (A.1, 0, A.2.2) (K.1, fun _ => false) E := by
  obtain ⟨s1, s2, s3, s5, s6, s7, s10, s11⟩ := stx_of (fau_ok hf).2
  have ok : okC (stC t) := ⟨s7, s10, s1, s3, fun r _ => suB_lt s6⟩
  exact ⟨ok, s6, OKz.fr ok, fun j hj => absurd hj (Nat.not_lt_zero _), fun i _ h => absurd h Bool.false_ne_true, h.2.2.2.2.2⟩
theorem OKs.kee {c : CT} {w : Nat} {ρ : RT} {A : Nat × Nat × (Nat → RT)} {K : (Nat → RT) × (Nat → Bool)} {E : (Nat → Int32) × (Nat → Nat) × (Nat → Nat) × Nat} (h : OKs c w ρ A K E) (k : Nat) : OKs c w ρ A (kpK K k ρ) E := by
  refine ⟨h.1, h.2.1, h.2.2.1, h.2.2.2.1, fun i hi hb => ?_, h.2.2.2.2.2⟩
  have hb : (if i = k then true else K.2 i) = true := hb
  show OKz c ((if i = k then ρ else K.1 i))
  by_cases e : i = k
  · rw [if_pos e]
    exact h.2.2.1
  · rw [if_neg e] at hb ⊢
    exact h.2.2.2.2.1 i hi hb
theorem OKs.aga {c : CT} {w : Nat} {ρ : RT} {A : Nat × Nat × (Nat → RT)} {K : (Nat → RT) × (Nat → Bool)} {E : (Nat → Int32) × (Nat → Nat) × (Nat → Nat) × Nat} (h : OKs c w ρ A K E) {k : Nat} (hk : k < 2) (hb : K.2 k = true) : OKs c w (K.1 k) (A.1, 0, A.2.2) K E := ⟨h.1, h.2.1, h.2.2.2.2.1 k hk hb, fun j hj => absurd hj (Nat.not_lt_zero _), h.2.2.2.2⟩
theorem OKs.sees {c : CT} {w : Nat} {ρ : RT} {A : Nat × Nat × (Nat → RT)} {K : (Nat → RT) × (Nat → Bool)} {E : (Nat → Int32) × (Nat → Nat) × (Nat → Nat) × Nat} (h : OKs c w ρ A K E) {G : Int32} {k v : Nat} (hk : k ≤ 2) (hv : v ≤ 9) (hn : E.2.2.2 < 4) : OKs c w ρ A K (seE E G k v) := by
  refine ⟨h.1, h.2.1, h.2.2.1, h.2.2.2.1, h.2.2.2.2.1, show E.2.2.2 + 1 ≤ 4 by omega, fun i hi => ?_⟩
  show (if i = E.2.2.2 then k else E.2.1 i) ≤ 2 ∧ (if i = E.2.2.2 then v else E.2.2.1 i) ≤ 9
  have ho := h.2.2.2.2.2.2 i hi
  by_cases e : i = E.2.2.2
  · rw [if_pos e, if_pos e]
    exact ⟨hk, hv⟩
  · rw [if_neg e, if_neg e]
    exact ho
theorem OKs.uns {c : CT} {w : Nat} {ρ : RT} {A : Nat × Nat × (Nat → RT)} {K : (Nat → RT) × (Nat → Bool)} {E : (Nat → Int32) × (Nat → Nat) × (Nat → Nat) × Nat} (h : OKs c w ρ A K E) : OKs c w ρ A K (E.1, E.2.1, E.2.2.1, 0) := ⟨h.1, h.2.1, h.2.2.1, h.2.2.2.1, h.2.2.2.2.1, Nat.zero_le _, h.2.2.2.2.2.2⟩
/-- the order of THE LIST: one at each place -/
theorem cb_iff (ρ : RT) (a b : Nat) : cbB ρ a b = true ↔ ((ρ (39 + b)).toInt < (ρ (39 + a)).toInt ∨ ((ρ (39 + a)).toInt = (ρ (39 + b)).toInt ∧ (ρ (31 + a)).toInt < (ρ (31 + b)).toInt)) := by
  unfold cbB
  rw [Bool.or_eq_true, Bool.and_eq_true, decide_eq_true_iff, decide_eq_true_iff, decide_eq_true_iff, i32_lt, i32_lt, ← Int32.toInt_inj]
theorem ab_mono {ρ : RT} {q r : Nat} (h : ∀ i, cbB ρ i q = true → cbB ρ i r = true) : ∀ n, abN ρ q n ≤ abN ρ r n
  | 0 => Nat.le_refl 0
  | n + 1 => by
    have ih := ab_mono h n
    show abN ρ q n + (if cbB ρ n q = true then 1 else 0) ≤ abN ρ r n + (if cbB ρ n r = true then 1 else 0)
    by_cases e : cbB ρ n q = true
    · rw [if_pos e, if_pos (h n e)]
      omega
    · rw [if_neg e]
      omega
theorem ab_lt {ρ : RT} {q r i : Nat} (h : ∀ i, cbB ρ i q = true → cbB ρ i r = true) (h1 : cbB ρ i r = true) (h2 : ¬ cbB ρ i q = true) : ∀ n, i < n → abN ρ q n < abN ρ r n
  | 0, hi => absurd hi (Nat.not_lt_zero _)
  | n + 1, hi => by
    show abN ρ q n + (if cbB ρ n q = true then 1 else 0) < abN ρ r n + (if cbB ρ n r = true then 1 else 0)
    by_cases e : i = n
    · subst e
      have := ab_mono h i
      rw [if_pos h1, if_neg h2]
      omega
    · have ih := ab_lt h h1 h2 n (by omega)
      by_cases e2 : cbB ρ n q = true
      · rw [if_pos e2, if_pos (h n e2)]
        omega
      · rw [if_neg e2]
        omega
theorem ab_inj {ρ : RT} {m : Nat} (hd : ∀ i j, i < j → j < m → ρ (31 + i) ≠ ρ (31 + j)) {q r : Nat} (hq : q < m) (hr : r < m) (he : abN ρ q m = abN ρ r m) : q = r := by
  have key : ∀ a b, a < m → cbB ρ a b = true → abN ρ a m < abN ρ b m := by
    intro a b ha hab
    refine ab_lt (i := a) (fun i hi => ?_) hab ?_ m ha
    · rw [cb_iff] at hi hab ⊢
      omega
    · rw [cb_iff]
      omega
  rcases Nat.lt_trichotomy q r with h | h | h
  · have hne : (ρ (31 + q)).toInt ≠ (ρ (31 + r)).toInt := fun e => hd q r h hr (Int32.toInt_inj.mp e)
    have : cbB ρ q r = true ∨ cbB ρ r q = true := by
      rw [cb_iff, cb_iff]
      omega
    rcases this with z | z
    · have := key q r hq z
      omega
    · have := key r q hr z
      omega
  · exact h
  · have hne : (ρ (31 + r)).toInt ≠ (ρ (31 + q)).toInt := fun e => hd r q h hq (Int32.toInt_inj.mp e)
    have : cbB ρ q r = true ∨ cbB ρ r q = true := by
      rw [cb_iff, cb_iff]
      omega
    rcases this with z | z
    · have := key q r hq z
      omega
    · have := key r q hr z
      omega
theorem li_no {ρ : RT} {m : Nat} {x b : Int32} : ∀ k, (∀ q, q < k → nI (abN ρ q m) ≠ x) → liF ρ m x b k = -9
  | 0, _ => rfl
  | k + 1, h => by
    show (if nI (abN ρ k m) = x then _ else liF ρ m x b k) = -9
    rw [if_neg (h k (by omega))]
    exact li_no k (fun q hq => h q (by omega))
theorem li_of {ρ : RT} {m : Nat} {x b : Int32} (hm : m ≤ 8) (hd : ∀ i j, i < j → j < m → ρ (31 + i) ≠ ρ (31 + j)) {q : Nat} (hq : q < m) (hx : nI (abN ρ q m) = x) : ∀ k, q < k → k ≤ m → liF ρ m x b k = if b = 0 then ρ (31 + q) else ρ (39 + q)
  | 0, h, _ => absurd h (Nat.not_lt_zero _)
  | k + 1, h, hk => by
    show (if nI (abN ρ k m) = x then (if b = 0 then ρ (31 + k) else ρ (39 + k)) else liF ρ m x b k) = _
    by_cases e : nI (abN ρ k m) = x
    · have h1 := abN_le ρ k m
      have h2 := abN_le ρ q m
      have : k = q := ab_inj hd (by omega) hq (nI_inj (by omega) (by omega) (e.trans hx.symm))
      rw [if_pos e, this]
    · rw [if_neg e]
      have : q ≠ k := fun z => e (by rw [← z]; exact hx)
      exact li_of hm hd hq hx k (by omega) (by omega)
def mLw (nm : String) : MT := (⟨RL, nm, "([I)Z"⟩, cL_law, 4, ret)
