/-! BURSTS: those of the reference (all masks by their span) and of the class (odd shapes moved up) are the same -/
def hIx (p : Nat → Bool) : Nat → Nat
  | 0 => 0
  | n + 1 => if p n then n else hIx p n
def loN (m : Nat) : Nat := fIx (fun k => m.testBit k) 14 0
def hiN (m : Nat) : Nat := hIx (fun k => m.testBit k) 14
def spN (m : Nat) : Nat := hiN m - loN m
def isB (w m : Nat) : Bool := decide (0 < m) && decide (spN m < w)
def ML (w M : Nat) : List Nat := (List.range M).filter (isB w)
def shC (w i : Nat) : List Nat := if 2 * i + 1 < 2 ^ w then ((List.range 14).map (fun u => (2 * i + 1) * 2 ^ u)).filter (fun m => decide (m ≤ 16383)) else []
def CLn (w : Nat) : Nat → List Nat
  | 0 => []
  | i + 1 => CLn w i ++ shC w i
def CL (w : Nat) : List Nat := CLn w 4
set_option maxRecDepth 100000 in
theorem ml_cl0 : (ML 0 16384).isPerm (CL 0) = true := by decide +kernel
set_option maxRecDepth 100000 in
theorem ml_cl1 : (ML 1 16384).isPerm (CL 1) = true := by decide +kernel
set_option maxRecDepth 100000 in
theorem ml_cl2 : (ML 2 16384).isPerm (CL 2) = true := by decide +kernel
set_option maxRecDepth 100000 in
theorem ml_cl3 : (ML 3 16384).isPerm (CL 3) = true := by decide +kernel
theorem ml_perm {w : Nat} (hw : w < 4) : List.Perm (ML w 16384) (CL w) := by
  rcases (show w = 0 ∨ w = 1 ∨ w = 2 ∨ w = 3 by omega) with rfl | rfl | rfl | rfl
  · exact List.isPerm_iff.mp ml_cl0
  · exact List.isPerm_iff.mp ml_cl1
  · exact List.isPerm_iff.mp ml_cl2
  · exact List.isPerm_iff.mp ml_cl3
/-- the bursts of a list that have a rest -/
def wiR (g : Nat) (l : List Nat) (r : Nat) : List Nat := l.filter (fun m => lfN g m == r)
theorem wiR_nil (g r : Nat) : wiR g [] r = [] := rfl
theorem wiR_app (g : Nat) (l : List Nat) (m r : Nat) : wiR g (l ++ [m]) r = if lfN g m = r then wiR g l r ++ [m] else wiR g l r := by
  unfold wiR
  rw [List.filter_append, List.filter_cons, List.filter_nil]
  by_cases h : lfN g m = r
  · simp [h]
  · simp [h]
/-- the sure burst of a rest; 0: there is none -/
def suL (g : Nat) (l : List Nat) (r : Nat) : Nat := if r ≠ 0 ∧ (wiR g l r).length = 1 then (wiR g l r).headD 0 else 0
theorem suL_perm {g r : Nat} {l l' : List Nat} (h : List.Perm l l') : suL g l r = suL g l' r := by
  have hf : List.Perm (wiR g l r) (wiR g l' r) := h.filter _
  unfold suL
  rw [hf.length_eq]
  split
  · rename_i h1
    match hl : wiR g l' r, h1.2 with
    | [a], _ =>
      rw [hl] at hf
      rw [List.perm_singleton.mp hf]
  · rfl
def suB (g w r : Nat) : Nat := suL g (CL w) r
theorem cl_lt : ∀ w, w < 4 → ∀ m ∈ CL w, 0 < m ∧ m < 16384 := by decide +kernel
theorem wiR_mem {g r m : Nat} {l : List Nat} (h : m ∈ wiR g l r) : m ∈ l := (List.mem_filter.mp h).1
theorem suB_lt {g w r : Nat} (hw : w < 4) : suB g w r < 16384 := by
  unfold suB suL
  split
  · rename_i h1
    match hl : wiR g (CL w) r, h1.2 with
    | [a], _ => exact (cl_lt w hw a (wiR_mem (by rw [hl]; exact List.mem_singleton.mpr rfl))).2
  · decide
theorem suB_0 (g w : Nat) : suB g w 0 = 0 := by unfold suB suL; rw [if_neg (fun h => h.1 rfl)]
theorem suB_ne {g w r : Nat} (hw : w < 4) : suB g w r ≠ 0 ↔ r ≠ 0 ∧ (wiR g (CL w) r).length = 1 := by
  unfold suB suL
  split
  · rename_i h1
    refine ⟨fun _ => h1, fun _ => ?_⟩
    match hl : wiR g (CL w) r, h1.2 with
    | [a], _ => exact Nat.ne_of_gt (cl_lt w hw a (wiR_mem (by rw [hl]; exact List.mem_singleton.mpr rfl))).1
  · rename_i h1
    exact ⟨fun h => absurd rfl h, fun h => absurd h h1⟩
/-- how many rests have a sure burst -/
def snB (g w : Nat) : Nat → Nat
  | 0 => 0
  | r + 1 => snB g w r + if suB g w r = 0 then 0 else 1
theorem snB_le (g w : Nat) : ∀ r, snB g w r ≤ r
  | 0 => Nat.le_refl 0
  | r + 1 => by have := snB_le g w r; unfold snB; split <;> omega
theorem cl_len : ∀ w, w < 4 → (CL w).length < 100 := by decide +kernel
/-- a station by its numbers -/
def mkC (gn : Nat) (o : Nat → Nat) (w hold : Nat) : CT := (gn, o, hold, suB gn w)
