/-! counts, sums and sets over the points and the rules -/
theorem fa_cnt_mono (p : Nat → Bool) {a b : Nat} (h : a ≤ b) : fa_cnt p a ≤ fa_cnt p b := by
  induction b with
  | zero => rw [Nat.le_zero.mp h]; exact Nat.le_refl _
  | succ b ih =>
    rcases Nat.lt_or_ge b a with q | q
    · rw [show a = b + 1 by omega]; exact Nat.le_refl _
    · have := ih q
      simp only [fa_cnt]
      omega
theorem hw99 : ∀ r, r < 7 → (nI r = (-1 : Int32) ↔ r = 99) := by decide
theorem hw99' : ∀ r, r < 7 → (nI r = (-9 : Int32) ↔ r = 99) := by decide
def sX (R : Nat → Nat → Int32) (n : Nat) (y : Nat) : Int32 := (sAn R 99 n 0 (nI y)).1
def sCp (R : Nat → Nat → Int32) (n : Nat) (v : Int32) (y : Nat) : Bool := decide (sX R n y ≠ -9 ∧ v ≤ sX R n y)
theorem sCp_n1 {R : Nat → Nat → Int32} {n : Nat} {v : Int32} {y : Nat} (h : sX R n y = -9) : sCp R n v y = false := decide_eq_false (fun q => q.1 h)
theorem sCp_n2 {R : Nat → Nat → Int32} {n : Nat} {v : Int32} {y : Nat} (h : sX R n y < v) : sCp R n v y = false := decide_eq_false (fun q => (Int32.not_le.mpr h) q.2)
theorem sCp_y {R : Nat → Nat → Int32} {n : Nat} {v : Int32} {y : Nat} (h : ¬ sX R n y = -9) (h2 : ¬ sX R n y < v) : sCp R n v y = true := decide_eq_true ⟨h, Int32.not_lt.mp h2⟩
def sCw (R : Nat → Nat → Int32) (n : Nat) (v : Int32) : Nat := fa_cnt (sCp R n v) 26
def sSum (R : Nat → Nat → Int32) (n : Nat) : Int32 := bx_sum (fun y => if sX R n y = -9 then 0 else sX R n y) 26
def sBg (R : Nat → Nat → Int32) (n y : Nat) : Bool := decide (y = 0 ∨ sW R n (nI y) ≠ sW R n (nI (y - 1)))
def sRuns (R : Nat → Nat → Int32) (n : Nat) : Nat := fa_cnt (sBg R n) 26
def sWon (R : Nat → Nat → Int32) (n : Nat) (r : Int32) : Nat := fa_cnt (fun y => decide (sW R n (nI y) = r)) 26
def sBits (p : Nat → Bool) : Nat → Int32
  | 0 => 0
  | k + 1 => if p k then sBits p k ||| ((1 : Int32) <<< (nI k &&& 31)) else sBits p k
def sShad (R : Nat → Nat → Int32) (n : Nat) : Int32 := sBits (fun r => decide (sWon R n (nI r) = 0)) n
def sNeed (R : Nat → Nat → Int32) (n r : Nat) : Bool := decide (0 < fa_cnt (fun y => decide (sX R n y ≠ (sAn R r n 0 (nI y)).1)) 26)
def sNeeds (R : Nat → Nat → Int32) (n : Nat) : Int32 := sBits (sNeed R n) n
def sFr (p : Nat → Bool) (k : Nat) : Nat → Nat → Nat
  | 0, x => x
  | f + 1, x => if fa_cnt p (x + 1) = k + 1 then x else sFr p k f (x + 1)
def sFrn (p : Nat → Bool) (k x : Nat) : Nat := sFr p k (26 - x) x
theorem sFrn_end {p : Nat → Bool} {k x : Nat} (h : 26 ≤ x) : sFrn p k x = x := by
  unfold sFrn
  rw [Nat.sub_eq_zero_of_le h]
  rfl
theorem sFrn_hit {p : Nat → Bool} {k x : Nat} (h : x < 26) (hx : fa_cnt p (x + 1) = k + 1) : sFrn p k x = x := by
  unfold sFrn
  rw [show 26 - x = (26 - (x + 1)) + 1 by omega]
  exact if_pos hx
theorem sFrn_miss {p : Nat → Bool} {k x : Nat} (h : x < 26) (hx : ¬ fa_cnt p (x + 1) = k + 1) : sFrn p k x = sFrn p k (x + 1) := by
  unfold sFrn
  rw [show 26 - x = (26 - (x + 1)) + 1 by omega]
  exact if_neg hx
/-- what an asking came to, written down -/
def aPost (V : gV) (ad : Nat → Nat) (bb : Nat) (E : Nat → va_E) (F : Int32 × List Int32) (E2 : Nat → va_E) : Prop := exA bb E E2 ∧ ∃ dl, bkA V ad E2 bb (nI F.2.length) F.1 dl ∧ ∀ i, i < F.2.length → dl i = F.2.getD i 0
def aX (V : gV) (ad : Nat → Nat) (bb : Nat) (E E2 : Nat → va_E) : Prop := exA bb E E2 ∧ ∃ dn wo dl, bkA V ad E2 bb dn wo dl
theorem aPost.x {V : gV} {ad : Nat → Nat} {bb : Nat} {E E2 : Nat → va_E} {F : Int32 × List Int32} (h : aPost V ad bb E F E2) : aX V ad bb E E2 := ⟨h.1, _, _, h.2.choose, h.2.choose_spec.1⟩
theorem aX.tr {V : gV} {ad : Nat → Nat} {bb : Nat} {E E2 E3 : Nat → va_E} (h : aX V ad bb E E2) (h2 : aX V ad bb E2 E3) : aX V ad bb E E3 := ⟨h.1.tr h2.1, h2.2⟩
def sC (s : Int32) (pre : List Int32) (q : Int32 × List Int32) : Int32 × List Int32 := if q.2 = [] then (s + q.1, []) else (-9, pre ++ q.2)
theorem sC_hit {s t : Int32} {pre : List Int32} {m : Int32} {q : Int32 × List Int32} : sC s pre (if q.2 = [] then (t + q.1, []) else (-9, m :: q.2)) = sC (s + t) (pre ++ [m]) q := by
  unfold sC
  by_cases h : q.2 = []
  · simp [h, Int32.add_assoc]
  · simp [h]
theorem getD_app {pre : List Int32} {m : Int32} {dl : Nat → Int32} (h : ∀ i, i < pre.length → dl i = pre.getD i 0) : ∀ i, i < (pre ++ [m]).length → upd dl pre.length m i = (pre ++ [m]).getD i 0 := by
  intro i hi
  simp only [List.length_append, List.length_cons, List.length_nil] at hi
  unfold upd
  by_cases hq : i = pre.length
  · subst hq
    simp
  · rw [if_neg hq, h i (by omega)]
    simp only [List.getD_eq_getElem?_getD]
    rw [List.getElem?_append_left (by omega)]
