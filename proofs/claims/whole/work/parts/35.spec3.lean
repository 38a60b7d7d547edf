/-! the book's order changed: places by σ -/
def exB (bb : Nat) (E E2 : Nat → va_E) : Prop := ∀ k, (k < bb ∨ bb + 10 < k) → E2 k = E k
def bkM (V : gV) (ad : Nat → Nat) (bb : Nat) (E E2 : Nat → va_E) (n : Nat) (Rn : Nat → Nat → Int32) : Prop := (∃ (π : Nat → Nat) (R : Nat → Nat → Int32), bkB V ad E2 bb n π R ∧ ∀ i, i < n → R i = Rn i) ∧ E2 (bb + 2) = E (bb + 2) ∧ E2 (bb + 3) = E (bb + 3) ∧ exB bb E E2
theorem bk_perm {V : gV} {ad : Nat → Nat} {E E2 : Nat → va_E} {bb n n2 : Nat} {π σ : Nat → Nat} {R : Nat → Nat → Int32} (hB : bkB V ad E bb n π R) (h0 : E2 bb = .inr (1, [.ref (ad (bb + 1)), .ref (ad (bb + 2)), .int (nI n2)])) (h1 : E2 (bb + 1) = gRl V 7 (fun i => some (ad (bb + 4 + π (σ i))))) (hx : ∀ k, k ≠ bb → k ≠ bb + 1 → E2 k = E k) (hn : n2 ≤ 7) (hs : ∀ i, i < 7 → σ i < 7) (hi : ∀ i j, i < 7 → j < 7 → σ i = σ j → i = j) : bkB V ad E2 bb n2 (fun i => π (σ i)) (fun i => R (σ i)) := by
  obtain ⟨a0, a1, a2, a3, a4, a5, a6⟩ := hB
  exact ⟨h0, h1, fun i h => (hx _ (by omega) (by omega)).trans (a2 _ (hs i h)), hn, fun i h => a4 _ (hs i h), fun i j h h' e => hi i j h h' (a5 _ _ (hs i h) (hs j h') e), a6⟩
def sSwap (R : Nat → Nat → Int32) (r i : Nat) : Nat → Int32 := if i = r then R (r + 1) else if i = r + 1 then R r else R i
def sDel (R : Nat → Nat → Int32) (r i : Nat) : Nat → Int32 := if i < r then R i else R (i + 1)
def sIns (R : Nat → Nat → Int32) (k : Nat) (q : Nat → Int32) (i : Nat) : Nat → Int32 := if i < k then R i else if i = k then q else R (i - 1)
theorem va_arr {ad : Nat → Nat} {bb : Nat} {A B : Nat → Nat} {j p : Nat} (h : ∀ i, B i = if i = j then p else A i) : va_up (fun i => some (ad (bb + 4 + A i))) j (some (ad (bb + 4 + p))) = fun i => some (ad (bb + 4 + B i)) := by
  funext i
  unfold va_up
  rw [h i]
  by_cases hi : i = j
  · rw [if_pos hi, if_pos hi]
  · rw [if_neg hi, if_neg hi]
