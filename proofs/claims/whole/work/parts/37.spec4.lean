/-! one rule changed; texts -/
theorem bkB.rule {V : gV} {ad : Nat → Nat} {E : Nat → va_E} {bb n : Nat} {π : Nat → Nat} {R : Nat → Nat → Int32} (h : bkB V ad E bb n π R) {r : Nat} (hr : r < 7) (q : Nat → Int32) : bkB V ad (va_up E (bb + 4 + π r) (rC q)) bb n π (fun i => if i = r then q else R i) := by
  obtain ⟨h0, h1, h2, h3, h4, h5, h6⟩ := h
  have p0 := h4 r hr
  refine ⟨by rw [va_up_ne _ _ (by omega)]; exact h0, by rw [va_up_ne _ _ (by omega)]; exact h1, fun i hi => ?_, h3, h4, h5, h6⟩
  by_cases hir : i = r
  · subst hir
    rw [va_up_self]
    exact congrArg rC (if_pos rfl).symm
  · have hne : π i ≠ π r := fun e => hir (h5 i r hi hr e)
    rw [va_up_ne _ _ (by omega)]
    exact (h2 i hi).trans (congrArg rC (if_neg hir).symm)
def sKd (c : Int32) : Int32 := if c = 66 then 1 else if c = 80 then 0 else if c = 87 then 2 else -9
def sDd (c : Int32) : Int32 := if c = 68 then 1 else if c = 71 then 0 else if c = 74 then 2 else -9
/-- does a TEXT go on with the code at p -/
def sGo (c : Nat → Int32) (p : Nat) : Prop := if p = 0 then c 0 = 113 else if 42 < p then False else if (p - 1) % 6 = 0 then c p = 59 else if (p - 1) % 6 = 1 then sKd (c p) ≠ -9 else if (p - 1) % 6 = 2 then sDd (c p) ≠ -9 else if (p - 1) % 6 = 3 then 49 ≤ c p ∧ c p ≤ 57 else if (p - 1) % 6 = 4 then 97 ≤ c p ∧ c p ≤ 122 else c (p - 1) ≤ c p ∧ c p ≤ 122
noncomputable def sGoD (c : Nat → Int32) (p : Nat) : Bool := @decide (sGo c p) (Classical.propDecidable _)
theorem sGoD_iff {c : Nat → Int32} {p : Nat} : sGoD c p = true ↔ sGo c p := by
  unfold sGoD
  exact @decide_eq_true_iff (sGo c p) (Classical.propDecidable _)
noncomputable def sFf (c : Nat → Int32) (m : Nat) : Nat → Nat → Nat
  | 0, p => p
  | k + 1, p => if sGoD c p then sFf c m k (p + 1) else p
noncomputable def sFfn (c : Nat → Int32) (m p : Nat) : Nat := sFf c m (m - p) p
theorem sFfn_end {c : Nat → Int32} {m p : Nat} (h : m ≤ p) : sFfn c m p = p := by
  unfold sFfn
  rw [Nat.sub_eq_zero_of_le h]
  rfl
theorem sFfn_go {c : Nat → Int32} {m p : Nat} (h : p < m) (hg : sGo c p) : sFfn c m p = sFfn c m (p + 1) := by
  unfold sFfn
  rw [show m - p = (m - (p + 1)) + 1 by omega]
  exact if_pos (sGoD_iff.mpr hg)
theorem sFfn_no {c : Nat → Int32} {m p : Nat} (h : p < m) (hg : ¬ sGo c p) : sFfn c m p = p := by
  unfold sFfn
  rw [show m - p = (m - (p + 1)) + 1 by omega]
  exact if_neg (fun q => hg (sGoD_iff.mp q))
/-- the FIRST FAULT of m codes; -1: they are a TEXT -/
noncomputable def sFault (c : Nat → Int32) (m : Nat) : Int32 := if sFfn c m 0 < m then nI (sFfn c m 0) else if 1 < m ∧ (m - 1) % 6 = 0 then -1 else nI m
def sTx (c : Nat → Int32) (r j : Nat) : Int32 := if j = 0 then sKd (c (6 * r + 2)) else if j = 1 then sDd (c (6 * r + 3)) else if j = 2 then c (6 * r + 4) - 48 else if j = 3 then c (6 * r + 5) - 97 else c (6 * r + 6) - 97
theorem pk_rem6 {a : Nat} (h : a < 100000) : nI a - nI a / 6 * 6 = nI (a % 6) := pk_rem (d := 6) (by omega) (by omega) (by omega)
theorem pk_div6 {a : Nat} (h : a < 100000) : nI a / 6 = nI (a / 6) := pk_div (d := 6) (by omega) (by omega) (by omega)
def sCut (la v : Int32) : Int32 := if la = 0 then v.toInt8.toInt32 else if la = 1 then v.toInt16.toInt32 else v
theorem mx0 {m : Nat} (h : m < 100000) : (if (0 : Int32) < nI m then nI m else (0 : Int32)) = nI m := by
  by_cases h0 : 0 < m
  · exact if_pos ((nlt (a := 0) (by omega) (by omega)).mpr h0)
  · rw [show m = 0 by omega]
    rfl
