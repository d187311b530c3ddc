/-- nothing stands at or beyond 47 -/
def Z47 (ρ : RT) : Prop := ∀ k, 47 ≤ k → ρ k = 0
theorem Z47.up {ρ : RT} (h : Z47 ρ) {i : Nat} (hi : i < 47) (v : Int32) : Z47 (upd ρ i v) := fun k hk => by rw [upd_n (by omega)]; exact h k hk
theorem Z47.np {ρ : RT} (h : Z47 ρ) : Z47 (npF ρ) := (((h.up (by decide) _).up (by decide) _).up (by decide) _).up (by decide) _
theorem Z47.qu {ρ : RT} (h : Z47 ρ) : Z47 (quF ρ) := (h.up (by decide) _).up (by decide) _
theorem Z47.lo {ρ : RT} (h : Z47 ρ) : Z47 (loF ρ) := (((h.up (by decide) _).up (by decide) _).qu).np
theorem Z47.ho {ρ : RT} (h : Z47 ρ) (s : Int32) (hl : OKL ρ) : Z47 (hoF ρ s) := by
  obtain ⟨m, h1, h2, -⟩ := hl
  unfold hoF
  rw [h2, nN_nI (by omega)]
  split
  · split
    · exact h.up (by omega) _
    · split
      · exact ((h.up (by omega) _).up (by omega) _).up (by decide) _
      · exact h
  · exact h
theorem Z47.tf {ρ : RT} (h : Z47 ρ) (f : Int32) : Z47 (tfF ρ f) := by
  unfold tfF
  split
  · exact h
  · exact ((((((((h.up (by decide) _).up (by decide) _).up (by decide) _).up (by decide) _).up (by decide) _).up (by decide) _).up (by decide) _).up (by decide) _).up (by decide) _
theorem Z47.tp {ρ : RT} (h : Z47 ρ) {pl : Nat} (hp : pl < 4) (x : Int32) : Z47 (tpF ρ pl x) := by
  unfold tpF
  split
  · exact (h.up (by omega) _).up (by omega) _
  · exact h.up (by omega) _
theorem Z47.l1 {ρ : RT} (h : Z47 ρ) : Z47 (l1F ρ) := by
  unfold l1F
  split
  · exact h
  · exact (h.up (by decide) _).up (by decide) _
theorem Z47.l2 {ρ : RT} (h : Z47 ρ) (hl : OKL ρ) : Z47 (l2F ρ) := by
  unfold l2F
  split
  · exact h
  · split
    · split
      · exact h.tp (Nat.mod_lt _ (by decide)) _
      · exact h
    · split
      · split
        · exact h.up (by decide) _
        · exact h
      · split
        · exact (h.ho _ hl).ho _ (hl.ho _)
        · exact h.tf _
theorem Z47.la {ρ : RT} (h : Z47 ρ) (hl : OKL ρ) : Z47 (laF ρ) := h.l1.l2 (hl.cong (fun j hj => l1F_n (by omega) (by omega)))
theorem Z47.sk {c : CT} {ρ : RT} (h : Z47 ρ) (hl : OKL ρ) : Z47 (skF c ρ) := by
  unfold skF
  split
  · exact h
  · split
    · have h4 : hitN c (nN (ρ 1)) ≤ 4 := hitN_le c _
      have a : Z47 (upd (upd (npF (upd (upd (upd (upd ρ 3 1) 4 (nI ((hitN c (nN (ρ 1)) + 1) % 4))) 5 0) 6 0)) 10 (ρ 10 + 1)) (18 + hitN c (nN (ρ 1))) (nI (nN (ρ 1) / 64))) := ((((((h.up (by decide) _).up (by decide) _).up (by decide) _).up (by decide) _).np).up (by decide) _).up (by omega) _
      show Z47 (if hitN c (nN (ρ 1)) = 3 then laF _ else _)
      split
      · refine a.la (hl.cong (fun j hj => ?_))
        rw [upd_n (by omega), upd_n (by omega), npF_n (by omega), upd_n (by omega), upd_n (by omega), upd_n (by omega), upd_n (by omega)]
      · exact a
    · exact ((h.up (by decide) _).up (by decide) _).up (by decide) _
theorem Z47.cp {ρ : RT} (h : Z47 ρ) (d : Nat) : Z47 (cpF d ρ) := by
  unfold cpF
  split
  · exact h.np
  · exact h
theorem Z47.nx {ρ : RT} (h : Z47 ρ) (hl : OKL ρ) (k : Nat) : Z47 (nxF k ρ) := by
  unfold nxF
  split
  · exact (h.la hl).up (by decide) _
  · exact h.up (by decide) _
theorem Z47.bl {c : CT} {ρ : RT} (h : Z47 ρ) (hl : OKL ρ) (hd : nN (ρ 4) < 4) : Z47 (blF c ρ) := by
  unfold blF
  have cl : ∀ (σ : RT), (∀ j, 30 ≤ j → σ j = ρ j) → OKL σ := fun σ e => hl.cong e
  split
  · refine ((((h.cp _).up (by decide) _).up (by decide) _).up (by omega) _).nx (cl _ (fun j hj => ?_)) _
    rw [upd_n (by omega), upd_n (by omega), upd_n (by omega), cpF_n (by omega)]
  · split
    · refine (((h.cp _).up (by decide) _).up (by omega) _).nx (cl _ (fun j hj => ?_)) _
      rw [upd_n (by omega), upd_n (by omega), cpF_n (by omega)]
    · split
      · exact ((((h.cp _).up (by decide) _).up (by decide) _).up (by omega) _).lo
      · refine ((((h.cp _).up (by decide) _).up (by decide) _).up (by omega) _).nx (cl _ (fun j hj => ?_)) _
        rw [upd_n (by omega), upd_n (by omega), upd_n (by omega), cpF_n (by omega)]
theorem Z47.b1 {ρ : RT} (h : Z47 ρ) (b : Nat) : Z47 (b1F ρ b) := ((h.up (by decide) _).up (by decide) _).up (by decide) _
theorem b1F_n {ρ : RT} {b j : Nat} (h : 3 ≤ j) : b1F ρ b j = ρ j := by
  unfold b1F
  rw [upd_n (by omega), upd_n (by omega), upd_n (by omega)]
theorem Z47.ht {c : CT} {ρ : RT} (h : Z47 ρ) {hold : Nat} (ho : OKr hold ρ) (b : Nat) : Z47 (htF c ρ b) := by
  obtain ⟨-, -, ⟨d, hd, ed⟩, -, -, -, -, -, hl⟩ := id ho
  have hl2 : OKL (b1F ρ b) := hl.cong (fun j hj => b1F_n (by omega))
  unfold htF
  split
  · exact (h.b1 b).sk hl2
  · split
    · refine (((h.b1 b).up (by decide) _).up (by decide) _).bl (hl2.cong (fun j hj => ?_)) ?_
      · rw [upd_n (by omega), upd_n (by omega)]
      · rw [upd_n (by decide), upd_n (by decide), b1F_n (by decide), ed, nN_nI (by omega)]
        exact hd
    · exact (h.b1 b).up (by decide) _
def okC (c : CT) : Prop := 1 ≤ c.2.2.1 ∧ c.2.2.1 ≤ 9 ∧ c.1 < 64 ∧ (∀ k, k < 4 → c.2.1 k < 64) ∧ (∀ r, r < 64 → c.2.2.2 r < 16384)
/-- a row that was HEARD into: what holds of it -/
def OKz (c : CT) (ρ : RT) : Prop := OKr c.2.2.1 ρ ∧ Z47 ρ
theorem OKz.hs {c : CT} (hc : okC c) (v : Nat) : ∀ (n : Nat) {ρ : RT}, OKz c ρ → OKz c (hsF c n ρ v)
  | 0, _, h => h
  | n + 1, _, h => OKz.hs hc v n ⟨OKr.ht hc.1 hc.2.1 hc.2.2.1 hc.2.2.2.1 hc.2.2.2.2 h.1 _, h.2.ht h.1 _⟩
theorem OKz.hg {c : CT} (hc : okC c) (G : Int32) (t : Nat) {ρ : RT} (h : OKz c ρ) : ∀ k, OKz c (hgF c G t k ρ)
  | 0 => h
  | k + 1 => OKz.hs hc _ 14 (OKz.hg hc G t h k)
theorem OKz.rs {c : CT} {ρ : RT} (h : OKz c ρ) : OKz c (rsF ρ) := by
  unfold rsF
  have q : ∀ {σ : RT}, OKz c σ → OKz c (quF σ) := fun {σ} h => by
    obtain ⟨⟨h1, h2, h3, h4, h5, h6, h7, h8, h9⟩, hz⟩ := h
    refine ⟨⟨?_, ?_, ?_, ?_, ?_, Or.inl ?_, ?_, ?_, ?_⟩, hz.qu⟩
    · exact h1
    · exact h2
    · exact h3
    · exact h4
    · exact h5
    · rfl
    · exact h7
    · exact h8.cong (fun k hk => by unfold quF; rw [upd_n (by omega), upd_n (by omega)])
    · exact h9.cong (fun j hj => by unfold quF; rw [upd_n (by omega), upd_n (by omega)])
  split
  · exact q ⟨OKr.lo (Or.inl h.1), h.2.lo⟩
  · exact q h
theorem OKz.fr {c : CT} (hc : okC c) : OKz c fr0 := by
  refine ⟨⟨⟨0, by decide, rfl⟩, Or.inl rfl, ⟨0, by decide, rfl⟩, ⟨0, by decide, rfl⟩, fun z => absurd z (by decide), Or.inl rfl, ⟨0, by decide, rfl⟩, fun k hk => Or.inl ?_, 0, by decide, rfl, fun k hk => absurd hk (Nat.not_lt_zero _), fun i j _ hj => absurd hj (Nat.not_lt_zero _)⟩, fun k hk => ?_⟩
  · exact if_pos (by omega)
  · exact if_neg (by omega)
/-- a copy of 47 cells is the whole row -/
theorem z_mix {ρ σ : RT} (h : Z47 ρ) (hs : Z47 σ) : (fun k => if k < 47 then ρ k else σ k) = ρ := by
  funext k
  by_cases e : k < 47
  · rw [if_pos e]
  · rw [if_neg e, h k (by omega), hs k (by omega)]
