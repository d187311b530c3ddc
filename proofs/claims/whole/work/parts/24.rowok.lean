theorem fIx_no (p : Nat → Bool) : ∀ n k i, k ≤ i → i < fIx p n k → p i = false
  | 0, k, i, h1, h2 => absurd h2 (Nat.not_lt.mpr h1)
  | n + 1, k, i, h1, h2 => by
    unfold fIx at h2
    split at h2
    · omega
    · rename_i h
      rcases Nat.eq_or_lt_of_le h1 with e | e
      · subst e; simpa using h
      · exact fIx_no p n (k + 1) i e h2
theorem fIx_yes (p : Nat → Bool) : ∀ n k, fIx p n k < k + n → p (fIx p n k) = true
  | 0, k, h => absurd h (Nat.lt_irrefl _)
  | n + 1, k, h => by
    unfold fIx at h ⊢
    split
    · rename_i hp; exact hp
    · rename_i hp
      rw [if_neg hp] at h
      exact fIx_yes p n (k + 1) (by omega)
theorem l1F_n {ρ : RT} {j : Nat} (h1 : j ≠ 14) (h2 : j ≠ 15) : l1F ρ j = ρ j := by
  unfold l1F
  split
  · rfl
  · rw [upd_n h2, upd_n h1]
theorem hoF_n {ρ : RT} {s : Int32} {j : Nat} (h : j < 30) : hoF ρ s j = ρ j := by
  unfold hoF
  split
  · split
    · rw [upd_n (by omega)]
    · split
      · rw [upd_n (by omega), upd_n (by omega), upd_n (by omega)]
      · rfl
  · rfl
theorem tfF_n {ρ : RT} {f : Int32} {j : Nat} (h : j < 17 ∨ 18 ≤ j ∧ j < 22 ∨ 30 ≤ j) : tfF ρ f j = ρ j := by
  unfold tfF
  split
  · rfl
  · rw [upd_n (by omega), upd_n (by omega), upd_n (by omega), upd_n (by omega), upd_n (by omega), upd_n (by omega), upd_n (by omega), upd_n (by omega), upd_n (by omega)]
theorem tpF_n {ρ : RT} {pl : Nat} {x : Int32} {j : Nat} (hp : pl < 4) (h : j < 22 ∨ 30 ≤ j) : tpF ρ pl x j = ρ j := by
  unfold tpF
  split
  · rw [upd_n (by omega), upd_n (by omega)]
  · rw [upd_n (by omega)]
theorem l2F_n {ρ : RT} {j : Nat} (h : j < 16 ∨ 18 ≤ j ∧ j < 22) : l2F ρ j = ρ j := by
  unfold l2F
  split
  · rfl
  · split
    · split
      · exact tpF_n (Nat.mod_lt _ (by decide)) (by omega)
      · rfl
    · split
      · split
        · rw [upd_n (by omega)]
        · rfl
      · split
        · rw [hoF_n (by omega), hoF_n (by omega)]
        · exact tfF_n (by omega)
theorem laF_n {ρ : RT} {j : Nat} (h : j < 14 ∨ 18 ≤ j ∧ j < 22) : laF ρ j = ρ j := by
  unfold laF
  rw [l2F_n (by omega), l1F_n (by omega) (by omega)]
/-- THE LIST in a row -/
def OKL (ρ : RT) : Prop := ∃ m, m ≤ 8 ∧ ρ 30 = nI m ∧ (∀ k, k < m → ∃ t, 1 ≤ t ∧ t ≤ 99 ∧ ρ (39 + k) = nI t) ∧ (∀ i j, i < j → j < m → ρ (31 + i) ≠ ρ (31 + j))
theorem OKL.cong {ρ σ : RT} (h : OKL ρ) (e : ∀ j, 30 ≤ j → σ j = ρ j) : OKL σ := by
  obtain ⟨m, h1, h2, h3, h4⟩ := h
  exact ⟨m, h1, by rw [e 30 (by omega)]; exact h2, fun k hk => by rw [e _ (by omega)]; exact h3 k hk, fun i j hi hj => by rw [e _ (by omega), e _ (by omega)]; exact h4 i j hi hj⟩
theorem OKL.ho {ρ : RT} (s : Int32) (h : OKL ρ) : OKL (hoF ρ s) := by
  obtain ⟨m, h1, h2, h3, h4⟩ := id h
  unfold hoF
  split
  · rw [h2, nN_nI (show m < 2 ^ 31 by omega)]
    generalize hq : fIx (fun k => decide (ρ (31 + k) = s)) m 0 = q
    have hle := fIx_le (fun k => decide (ρ (31 + k) = s)) m 0
    have hno := fIx_no (fun k => decide (ρ (31 + k) = s)) m 0
    rw [hq] at hle hno
    split
    · rename_i hlt
      refine ⟨m, h1, by rw [upd_n (by omega)]; exact h2, fun k hk => ?_, fun i j hi hj => by rw [upd_n (by omega), upd_n (by omega)]; exact h4 i j hi hj⟩
      by_cases hkq : k = q
      · subst hkq
        rw [upd_s]
        obtain ⟨t, t1, t2, t3⟩ := h3 k hk
        rw [t3]
        split
        · rename_i h99
          have : t < 99 := by
            rcases Nat.lt_or_ge t 99 with z | z
            · exact z
            · exact absurd h99 (nI_nlt (b := 99) z (by omega))
          exact ⟨t + 1, by omega, by omega, nI_1 t⟩
        · exact ⟨t, t1, t2, nI_add t 0⟩
      · rw [upd_n (by omega)]
        exact h3 k hk
    · rename_i hlt
      have hqm : q = m := by omega
      split
      · rename_i h8
        refine ⟨m + 1, by omega, by rw [upd_s, nI_1], fun k hk => ?_, fun i j hi hj => ?_⟩
        · rw [upd_n (by omega)]
          by_cases hkm : k = m
          · subst hkm
            rw [upd_s]
            exact ⟨1, by omega, by omega, rfl⟩
          · rw [upd_n (by omega), upd_n (by omega)]
            exact h3 k (by omega)
        · rw [upd_n (by omega), upd_n (by omega), upd_n (by omega), upd_n (by omega)]
          by_cases hjm : j = m
          · subst hjm
            rw [upd_n (by omega), upd_s]
            have := hno i (by omega) (by omega)
            simpa using this
          · rw [upd_n (by omega), upd_n (by omega)]
            exact h4 i j hi (by omega)
      · exact h
  · exact h
theorem OKL.l2 {ρ : RT} (h : OKL ρ) : OKL (l2F ρ) := by
  unfold l2F
  split
  · exact h
  · split
    · split
      · exact h.cong (fun j hj => tpF_n (Nat.mod_lt _ (by decide)) (by omega))
      · exact h
    · split
      · split
        · exact h.cong (fun j hj => by rw [upd_n (by omega)])
        · exact h
      · split
        · exact (h.ho _).ho _
        · exact h.cong (fun j hj => tfF_n (by omega))
theorem OKL.la {ρ : RT} (h : OKL ρ) : OKL (laF ρ) := OKL.l2 (h.cong (fun j hj => l1F_n (by omega) (by omega)))
def OKp (ρ : RT) : Prop := ∀ k, k < 4 → ρ (18 + k) = -9 ∨ ∃ p, p < 256 ∧ ρ (18 + k) = nI p
/-- what always holds of a row -/
def OKr (hold : Nat) (ρ : RT) : Prop := (∃ w, w < 16384 ∧ ρ 1 = nI w) ∧ (ρ 3 = 0 ∨ ρ 3 = 1) ∧ (∃ d, d < 4 ∧ ρ 4 = nI d) ∧ (∃ p, p < 14 ∧ ρ 5 = nI p) ∧ (ρ 3 = 1 → ∃ b, b < hold ∧ ρ 6 = nI b) ∧ (ρ 7 = 0 ∨ ρ 7 = 1) ∧ (∃ k, k < 4 ∧ ρ 9 = nI k) ∧ OKp ρ ∧ OKL ρ
/-- rows alike but at some places -/
theorem OKr.la {hold : Nat} {ρ : RT} (h : OKr hold ρ) : OKr hold (laF ρ) := by
  obtain ⟨h1, h2, h3, h4, h5, h6, h7, h8, h9⟩ := h
  refine ⟨?_, ?_, ?_, ?_, ?_, ?_, ?_, ?_, h9.la⟩
  · rw [laF_n (by omega)]; exact h1
  · rw [laF_n (by omega)]; exact h2
  · rw [laF_n (by omega)]; exact h3
  · rw [laF_n (by omega)]; exact h4
  · rw [laF_n (by omega), laF_n (by omega)]; exact h5
  · rw [laF_n (by omega)]; exact h6
  · rw [laF_n (by omega)]; exact h7
  · intro k hk; rw [laF_n (by omega)]; exact h8 k hk
theorem npF_n {ρ : RT} {j : Nat} (h : j < 18 ∨ 22 ≤ j) : npF ρ j = ρ j := by unfold npF; rw [upd_n (by omega), upd_n (by omega), upd_n (by omega), upd_n (by omega)]
theorem npF_k {ρ : RT} {k : Nat} (h : k < 4) : npF ρ (18 + k) = -9 := by
  rcases (show k = 0 ∨ k = 1 ∨ k = 2 ∨ k = 3 by omega) with rfl | rfl | rfl | rfl <;> rfl
theorem cpF_n {ρ : RT} {d j : Nat} (h : j < 18 ∨ 22 ≤ j) : cpF d ρ j = ρ j := by unfold cpF; split; exact npF_n h; rfl
theorem OKp.np {ρ : RT} : OKp (npF ρ) := fun k hk => Or.inl (npF_k hk)
theorem OKp.cp {ρ : RT} {d : Nat} (h : OKp ρ) : OKp (cpF d ρ) := by unfold cpF; split; exact OKp.np; exact h
theorem OKp.cong {ρ σ : RT} (h : OKp ρ) (e : ∀ k, k < 4 → σ (18 + k) = ρ (18 + k)) : OKp σ := fun k hk => by rw [e k hk]; exact h k hk
theorem OKp.set {ρ : RT} (h : OKp ρ) {d p : Nat} (hd : d < 4) (hp : p < 256) : OKp (upd ρ (18 + d) (nI p)) := fun k hk => by
  by_cases e : k = d
  · subst e; rw [upd_s]; exact Or.inr ⟨p, hp, rfl⟩
  · rw [upd_n (by omega)]; exact h k hk
theorem OKp.gone {ρ : RT} (h : OKp ρ) {d : Nat} : OKp (upd ρ (18 + d) (-9)) := fun k hk => by
  by_cases e : k = d
  · subst e; rw [upd_s]; exact Or.inl rfl
  · rw [upd_n (by omega)]; exact h k hk
theorem hitN_le (c : CT) (w : Nat) : hitN c w ≤ 4 := by have := fIx_le (fun k => decide (c.2.1 k = lfN c.1 w)) 4 0; unfold hitN; omega
theorem OKr.b1 {hold : Nat} {ρ : RT} (h : OKr hold ρ) (b : Nat) : OKr hold (b1F ρ b) := by
  obtain ⟨h1, h2, h3, h4, h5, h6, h7, h8, h9⟩ := h
  unfold b1F
  refine ⟨⟨_, Nat.mod_lt _ (by decide), rfl⟩, h2, h3, h4, h5, h6, h7, h8.cong (fun k hk => ?_), h9.cong (fun j hj => ?_)⟩
  · rw [upd_n (by omega), upd_n (by omega), upd_n (by omega)]
  · rw [upd_n (by omega), upd_n (by omega), upd_n (by omega)]
theorem OKr.sk {c : CT} {ρ : RT} (hh : 1 ≤ c.2.2.1) (h : OKr c.2.2.1 ρ) : OKr c.2.2.1 (skF c ρ) := by
  obtain ⟨⟨w, hw, ew⟩, h2, h3, h4, h5, h6, h7, h8, h9⟩ := id h
  have hle := hitN_le c (nN (ρ 1))
  unfold skF
  split
  · exact h
  · rename_i hn
    have hlt : hitN c (nN (ρ 1)) < 4 := by
      have : ¬ hitN c (nN (ρ 1)) = 4 := fun z => hn (Or.inr z)
      omega
    generalize hitN c (nN (ρ 1)) = k at hlt ⊢
    split
    · have key : OKr c.2.2.1 (upd (upd (npF (upd (upd (upd (upd ρ 3 1) 4 (nI ((k + 1) % 4))) 5 0) 6 0)) 10 (ρ 10 + 1)) (18 + k) (nI (nN (ρ 1) / 64))) := by
        refine ⟨⟨w, hw, ?_⟩, ?_, ⟨(k + 1) % 4, Nat.mod_lt _ (by decide), ?_⟩, ⟨0, by decide, ?_⟩, fun _ => ⟨0, by omega, ?_⟩, ?_, ?_, ?_, h9.cong (fun j hj => ?_)⟩
        · rw [upd_n (by omega), upd_n (by omega), npF_n (by omega)]; exact ew
        · rw [upd_n (by omega), upd_n (by omega), npF_n (by omega)]; exact Or.inr rfl
        · rw [upd_n (by omega), upd_n (by omega), npF_n (by omega)]; rfl
        · rw [upd_n (by omega), upd_n (by omega), npF_n (by omega)]; rfl
        · rw [upd_n (by omega), upd_n (by omega), npF_n (by omega)]; rfl
        · rw [upd_n (by omega), upd_n (by omega), npF_n (by omega)]; exact h6
        · rw [upd_n (by omega), upd_n (by omega), npF_n (by omega)]; exact h7
        · rw [ew, nN_nI (by omega)]
          exact OKp.set (OKp.cong OKp.np (fun k hk => upd_n (by omega))) hlt (by omega)
        · rw [upd_n (by omega), upd_n (by omega), npF_n (by omega), upd_n (by omega), upd_n (by omega), upd_n (by omega), upd_n (by omega)]
      show OKr c.2.2.1 (if k = 3 then laF _ else _)
      split
      · exact key.la
      · exact key
    · refine ⟨⟨w, hw, ew⟩, h2, h3, h4, h5, Or.inr rfl, ⟨k, hlt, rfl⟩, h8.cong (fun j hj => ?_), h9.cong (fun j hj => ?_)⟩
      · rw [upd_n (by omega), upd_n (by omega), upd_n (by omega)]
      · rw [upd_n (by omega), upd_n (by omega), upd_n (by omega)]
theorem OKr.nx {hold : Nat} {ρ : RT} (k : Nat) (h : OKr hold ρ) : OKr hold (nxF k ρ) := by
  have h2 : OKr hold (if k = 3 then laF ρ else ρ) := by split; exact h.la; exact h
  unfold nxF
  generalize (if k = 3 then laF ρ else ρ) = σ at h2 ⊢
  obtain ⟨h1, h2, h3, h4, h5, h6, h7, h8, h9⟩ := h2
  exact ⟨h1, h2, ⟨(k + 1) % 4, Nat.mod_lt _ (by decide), rfl⟩, h4, h5, h6, h7, h8.cong (fun j hj => upd_n (by omega)), h9.cong (fun j hj => upd_n (by omega))⟩
theorem OKr.lo {hold hold' : Nat} {ρ : RT} (h : OKr hold ρ ∨ (OKr hold (upd ρ 6 0))) : OKr hold' (loF ρ) := by
  have : (∃ w, w < 16384 ∧ ρ 1 = nI w) ∧ (∃ d, d < 4 ∧ ρ 4 = nI d) ∧ (∃ p, p < 14 ∧ ρ 5 = nI p) ∧ (∃ k, k < 4 ∧ ρ 9 = nI k) ∧ OKL ρ := by
    rcases h with ⟨h1, h2, h3, h4, h5, h6, h7, h8, h9⟩ | ⟨h1, h2, h3, h4, h5, h6, h7, h8, h9⟩
    · exact ⟨h1, h3, h4, h7, h9⟩
    · exact ⟨h1, h3, h4, h7, h9.cong (fun j hj => (upd_n (by omega)).symm)⟩
  obtain ⟨h1, h3, h4, h7, h9⟩ := this
  unfold loF quF
  refine ⟨?_, ?_, ?_, ?_, ?_, ?_, ?_, OKp.np, h9.cong (fun j hj => ?_)⟩
  · rw [npF_n (by omega)]; exact h1
  · rw [npF_n (by omega)]; exact Or.inl rfl
  · rw [npF_n (by omega)]; exact h3
  · rw [npF_n (by omega)]; exact h4
  · rw [npF_n (by omega)]; intro z; exact absurd (show (0 : Int32) = 1 from z) (by decide)
  · rw [npF_n (by omega)]; exact Or.inl rfl
  · rw [npF_n (by omega)]; exact h7
  · rw [npF_n (by omega), upd_n (by omega), upd_n (by omega), upd_n (by omega), upd_n (by omega)]
theorem OKr.bl {c : CT} {ρ : RT} (hh : 1 ≤ c.2.2.1) (h9c : c.2.2.1 ≤ 9) (hg : c.1 < 64) (ho : ∀ k, k < 4 → c.2.1 k < 64) (hs : ∀ r, r < 64 → c.2.2.2 r < 16384) (h : OKr c.2.2.1 ρ) (h3 : ρ 3 = 1) : OKr c.2.2.1 (blF c ρ) := by
  obtain ⟨⟨w, hw, ew⟩, h2, ⟨d, hd, ed⟩, h4, h5, h6, h7, h8, h9⟩ := id h
  obtain ⟨b, hb, eb⟩ := h5 h3
  unfold blF
  rw [ew, ed, nN_nI (show w < 2 ^ 31 by omega), nN_nI (show d < 2 ^ 31 by omega)]
  have hx : lfN c.1 (w ^^^ c.2.1 d) < 64 := lfN_lt hg (xor_lt14 hw (Nat.lt_trans (ho d hd) (by decide)))
  generalize lfN c.1 (w ^^^ c.2.1 d) = x at hx ⊢
  split
  · refine OKr.nx _ ⟨⟨w, hw, ?_⟩, ?_, ⟨d, hd, ?_⟩, ?_, fun _ => ⟨0, by omega, ?_⟩, ?_, ?_, ?_, h9.cong (fun j hj => ?_)⟩
    · rw [upd_n (by omega), upd_n (by omega), upd_n (by omega), cpF_n (by omega)]; exact ew
    · rw [upd_n (by omega), upd_n (by omega), upd_n (by omega), cpF_n (by omega)]; exact h2
    · rw [upd_n (by omega), upd_n (by omega), upd_n (by omega), cpF_n (by omega)]; exact ed
    · rw [upd_n (by omega), upd_n (by omega), upd_n (by omega), cpF_n (by omega)]; exact h4
    · rw [upd_n (by omega)]; rfl
    · rw [upd_n (by omega), upd_n (by omega), upd_n (by omega), cpF_n (by omega)]; exact h6
    · rw [upd_n (by omega), upd_n (by omega), upd_n (by omega), cpF_n (by omega)]; exact h7
    · exact OKp.set (h8.cp.cong (fun k hk => by rw [upd_n (by omega), upd_n (by omega)])) hd (by omega)
    · rw [upd_n (by omega), upd_n (by omega), upd_n (by omega), cpF_n (by omega)]
  · split
    · refine OKr.nx _ ⟨⟨w, hw, ?_⟩, ?_, ⟨d, hd, ?_⟩, ?_, fun _ => ⟨b, hb, ?_⟩, ?_, ?_, ?_, h9.cong (fun j hj => ?_)⟩
      · rw [upd_n (by omega), upd_n (by omega), cpF_n (by omega)]; exact ew
      · rw [upd_n (by omega), upd_n (by omega), cpF_n (by omega)]; exact h2
      · rw [upd_n (by omega), upd_n (by omega), cpF_n (by omega)]; exact ed
      · rw [upd_n (by omega), upd_n (by omega), cpF_n (by omega)]; exact h4
      · rw [upd_n (by omega), upd_n (by omega), cpF_n (by omega)]; exact eb
      · rw [upd_n (by omega), upd_n (by omega), cpF_n (by omega)]; exact h6
      · rw [upd_n (by omega), upd_n (by omega), cpF_n (by omega)]; exact h7
      · exact OKp.set (h8.cp.cong (fun k hk => by rw [upd_n (by omega)])) hd (by have := xor_lt14 hw (hs x hx); omega)
      · rw [upd_n (by omega), upd_n (by omega), cpF_n (by omega)]
    · have key : ∀ v : Int32, (∃ w, w < 16384 ∧ upd (upd (upd (cpF d ρ) 12 (ρ 12 + 1)) 6 v) (18 + d) (-9) 1 = nI w) ∧ (upd (upd (upd (cpF d ρ) 12 (ρ 12 + 1)) 6 v) (18 + d) (-9) 3 = 0 ∨ upd (upd (upd (cpF d ρ) 12 (ρ 12 + 1)) 6 v) (18 + d) (-9) 3 = 1) ∧ (∃ p, p < 4 ∧ upd (upd (upd (cpF d ρ) 12 (ρ 12 + 1)) 6 v) (18 + d) (-9) 4 = nI p) ∧ (∃ p, p < 14 ∧ upd (upd (upd (cpF d ρ) 12 (ρ 12 + 1)) 6 v) (18 + d) (-9) 5 = nI p) ∧ (upd (upd (upd (cpF d ρ) 12 (ρ 12 + 1)) 6 v) (18 + d) (-9) 7 = 0 ∨ upd (upd (upd (cpF d ρ) 12 (ρ 12 + 1)) 6 v) (18 + d) (-9) 7 = 1) ∧ (∃ k, k < 4 ∧ upd (upd (upd (cpF d ρ) 12 (ρ 12 + 1)) 6 v) (18 + d) (-9) 9 = nI k) ∧ OKp (upd (upd (upd (cpF d ρ) 12 (ρ 12 + 1)) 6 v) (18 + d) (-9)) ∧ OKL (upd (upd (upd (cpF d ρ) 12 (ρ 12 + 1)) 6 v) (18 + d) (-9)) := by
        intro v
        refine ⟨⟨w, hw, ?_⟩, ?_, ⟨d, hd, ?_⟩, ?_, ?_, ?_, ?_, h9.cong (fun j hj => ?_)⟩
        · rw [upd_n (by omega), upd_n (by omega), upd_n (by omega), cpF_n (by omega)]; exact ew
        · rw [upd_n (by omega), upd_n (by omega), upd_n (by omega), cpF_n (by omega)]; exact h2
        · rw [upd_n (by omega), upd_n (by omega), upd_n (by omega), cpF_n (by omega)]; exact ed
        · rw [upd_n (by omega), upd_n (by omega), upd_n (by omega), cpF_n (by omega)]; exact h4
        · rw [upd_n (by omega), upd_n (by omega), upd_n (by omega), cpF_n (by omega)]; exact h6
        · rw [upd_n (by omega), upd_n (by omega), upd_n (by omega), cpF_n (by omega)]; exact h7
        · exact OKp.gone (h8.cp.cong (fun k hk => by rw [upd_n (by omega), upd_n (by omega)]))
        · rw [upd_n (by omega), upd_n (by omega), upd_n (by omega), cpF_n (by omega)]
      obtain ⟨k1, k2, k3, k4, k6, k7, k8, k9⟩ := key (ρ 6 + 1)
      split
      · refine OKr.lo (hold := 1) (Or.inr ⟨k1, k2, k3, k4, fun _ => ⟨0, by omega, rfl⟩, k6, k7, k8.cong (fun k hk => by rw [upd_n (by omega)]), k9.cong (fun j hj => by rw [upd_n (by omega)])⟩)
      · rename_i hne
        refine OKr.nx _ ⟨k1, k2, k3, k4, fun _ => ⟨b + 1, ?_, ?_⟩, k6, k7, k8, k9⟩
        · have : b + 1 ≠ c.2.2.1 := fun z => hne (by rw [eb, nI_1, z])
          omega
        · rw [upd_n (by omega), upd_s, eb, nI_1]
theorem OKr.ht {c : CT} {ρ : RT} (hh : 1 ≤ c.2.2.1) (h9c : c.2.2.1 ≤ 9) (hg : c.1 < 64) (ho : ∀ k, k < 4 → c.2.1 k < 64) (hs : ∀ r, r < 64 → c.2.2.2 r < 16384) (h : OKr c.2.2.1 ρ) (b : Nat) : OKr c.2.2.1 (htF c ρ b) := by
  have hb := h.b1 b
  unfold htF
  generalize b1F ρ b = σ at hb ⊢
  split
  · exact hb.sk hh
  · rename_i hn
    obtain ⟨h1, h2, h3, ⟨p, hp, ep⟩, h5, h6, h7, h8, h9⟩ := id hb
    have h31 : σ 3 = 1 := by rcases h2 with z | z; exact absurd z hn; exact z
    split
    · refine OKr.bl hh h9c hg ho hs ⟨h1, h2, h3, ⟨0, by decide, rfl⟩, h5, h6, h7, h8.cong (fun k hk => ?_), h9.cong (fun j hj => ?_)⟩ h31
      · rw [upd_n (by omega), upd_n (by omega)]
      · rw [upd_n (by omega), upd_n (by omega)]
    · rename_i hne
      refine ⟨h1, h2, h3, ⟨p + 1, ?_, by rw [upd_s, ep, nI_1]⟩, h5, h6, h7, h8.cong (fun k hk => upd_n (by omega)), h9.cong (fun j hj => upd_n (by omega))⟩
      have : p + 1 ≠ 14 := fun z => hne (by rw [ep, nI_1, z]; rfl)
      omega
theorem OKr.hs {c : CT} (hh : 1 ≤ c.2.2.1) (h9c : c.2.2.1 ≤ 9) (hg : c.1 < 64) (ho : ∀ k, k < 4 → c.2.1 k < 64) (hs : ∀ r, r < 64 → c.2.2.2 r < 16384) (v : Nat) : ∀ (n : Nat) (ρ : RT), OKr c.2.2.1 ρ → OKr c.2.2.1 (hsF c n ρ v)
  | 0, _, h => h
  | n + 1, _, h => OKr.hs hh h9c hg ho hs v n _ (h.ht hh h9c hg ho hs _)
