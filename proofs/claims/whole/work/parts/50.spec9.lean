/-! days -/
def sIsA (a s : Int32) : Bool := if 0 ≤ s ∧ s ≤ 6 then decide (1 ≤ a ∧ a ≤ 9) else if 10 ≤ s ∧ s ≤ 16 then decide (a = 0) else decide (s = 20 ∧ (0 ≤ a ∧ a ≤ 5))
def sNoA (c : Nat → Int32) (p : Nat) : Bool := !(sIsA (c (2 * p)) (c (2 * p + 1)))
def sAllA (c : Nat → Int32) (m : Nat) : Bool := decide (fa_cnt (sNoA c) m = 0)
def sNumAt (R : Nat → Nat → Int32) (j : Nat) (v : Int32) : Nat → Nat → Int32 := fun i => if i = j then sNum (R i) v else R i
def sAct (n : Nat) (R : Nat → Nat → Int32) (a s : Int32) : Option (Nat × (Nat → Nat → Int32)) :=
  if s = 20 then (if 0 ≤ a ∧ a < nI n - 1 then some (n, sSwap R (ix a)) else none)
  else if 10 ≤ s then (if (0 ≤ s - 10 ∧ s - 10 < nI n) ∧ n ≠ 1 then some (n - 1, sDel R (ix (s - 10))) else none)
  else (if 0 ≤ s ∧ s < nI n then some (n, sNumAt R (ix s) a) else none)
def sPlay (c : Nat → Int32) : Nat → Nat → Nat → (Nat → Nat → Int32) → Int32 × Nat × (Nat → Nat → Int32)
  | 0, _, n, R => (-9, n, R)
  | k + 1, p, n, R => match sAct n R (c (2 * p)) (c (2 * p + 1)) with
    | none => (nI p, n, R)
    | some q => sPlay c k (p + 1) q.1 q.2
def sOfDay (n : Nat) (R : Nat → Nat → Int32) (w : Int32) : Int32 := if w = 0 then 26 - nI (sCw R n 0) else if w = 2 then sShad R n else if w = 3 then nI (sRuns R n) else if w = 4 then sSum R n else (sAn R 99 n 0 (w - 10)).1
def sDayV (n : Nat) (R : Nat → Nat → Int32) (c : Nat → Int32) (m : Nat) (w : Int32) : Int32 := if w = 1 then (sPlay c m 0 n R).1 else if (sPlay c m 0 n R).1 = -9 then sOfDay (sPlay c m 0 n R).2.1 (sPlay c m 0 n R).2.2 w else -100 - (sPlay c m 0 n R).1
noncomputable def vDay (n : Nat) (R : Nat → Nat → Int32) (la : Nat → Int32) (sz : Nat → Nat) (cl : Nat → Nat → Int32) (k a i m w : Int32) : Int32 := if 0 ≤ k ∧ k ≤ 3 then (if ((0 ≤ a ∧ a ≤ 2) ∧ (0 ≤ m ∧ m ≤ 20)) ∧ ((0 ≤ w ∧ w ≤ 4) ∨ (10 ≤ w ∧ w ≤ 35)) then (if sFas (la (ix k)) a = 0 then (if sHcD (sz (ix k)) i (2 * m) then (if n = 0 then -3 else if sAllA (fun p => cl (ix k) (ix i + p)) (ix m) then sDayV n R (fun p => cl (ix k) (ix i + p)) (ix m) w else -2) else -13) else -10 - sFas (la (ix k)) a) else -2) else -1
noncomputable def fDay (la : Nat → Int32) (sz : Nat → Nat) (k a i m w : Int32) : Int32 := if 0 ≤ k ∧ k ≤ 3 then (if ((0 ≤ a ∧ a ≤ 2) ∧ (0 ≤ m ∧ m ≤ 20)) ∧ ((0 ≤ w ∧ w ≤ 4) ∨ (10 ≤ w ∧ w ≤ 35)) then (if sFas (la (ix k)) a = 0 then (if sHcD (sz (ix k)) i (2 * m) then 0 else 3) else sFas (la (ix k)) a) else 0) else 0
def dayB (V : gV) (ad : Nat → Nat) (E : Nat → va_E) (n : Nat) (R : Nat → Nat → Int32) : Prop := ∃ π R1, bkB V ad E 12 n π R1 ∧ ∀ i, i < n → R1 i = R i
theorem dayB.eq {V : gV} {ad : Nat → Nat} {E E2 : Nat → va_E} {n : Nat} {R : Nat → Nat → Int32} (h : dayB V ad E n R) (hx : ∀ k, 12 ≤ k → k ≤ 22 → E2 k = E k) : dayB V ad E2 n R := by
  obtain ⟨π, R1, hB, hR⟩ := h
  exact ⟨π, R1, hB.eq hx, hR⟩
theorem bkM.dayB {V : gV} {ad : Nat → Nat} {E E2 : Nat → va_E} {n : Nat} {R R' : Nat → Nat → Int32} (h : bkM V ad 12 E E2 n R) (hR : ∀ i, i < n → R i = R' i) : dayB V ad E2 n R' := by
  obtain ⟨⟨π, R1, hB, hR1⟩, -⟩ := h
  exact ⟨π, R1, hB, fun i hi => (hR1 i hi).trans (hR i hi)⟩
theorem sSwap_cong {R R' : Nat → Nat → Int32} {n r : Nat} (h : ∀ i, i < n → R i = R' i) (hr : r + 1 < n) : ∀ i, i < n → sSwap R r i = sSwap R' r i := by
  intro i hi
  unfold sSwap
  rw [h (r + 1) hr, h r (by omega), h i hi]
theorem sDel_cong {R R' : Nat → Nat → Int32} {n r : Nat} (h : ∀ i, i < n → R i = R' i) : ∀ i, i < n - 1 → sDel R r i = sDel R' r i := by
  intro i hi
  unfold sDel
  rw [h i (by omega), h (i + 1) (by omega)]
theorem sNumAt_cong {R R' : Nat → Nat → Int32} {n j : Nat} {v : Int32} (h : ∀ i, i < n → R i = R' i) : ∀ i, i < n → sNumAt R j v i = sNumAt R' j v i := by
  intro i hi
  unfold sNumAt
  rw [h i hi]
