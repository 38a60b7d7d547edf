/-! rules that agree below n are alike; texts that are taken; days -/
section CONG
variable {R R' : Nat → Nat → Int32} {n : Nat}
theorem sF_cong {w : Nat} {x : Int32} : ∀ (k r : Nat), (∀ i, i < r + k → R i = R' i) → sF R w x k r = sF R' w x k r
  | 0, r, _ => rfl
  | k + 1, r, h => by
    have ih := sF_cong (w := w) (x := x) k (r + 1) (fun i hi => h i (by omega))
    simp only [sF]
    rw [h r (by omega), ih]
theorem sFn_cong (h : ∀ i, i < n → R i = R' i) {w r : Nat} {x : Int32} (hr : r ≤ n) : sFn R w x n r = sFn R' w x n r := sF_cong _ _ (fun i hi => h i (by omega))
theorem sW_cong (h : ∀ i, i < n → R i = R' i) : sW R n = sW R' n := by
  funext x
  unfold sW
  rw [sFn_cong h (Nat.zero_le n)]
theorem sA_cong {w : Nat} : ∀ (k r : Nat) (x : Int32), (∀ i, i < r + k → R i = R' i) → sA R w k r x = sA R' w k r x
  | 0, r, x, _ => rfl
  | k + 1, r, x, h => by
    have ih := fun y => sA_cong (w := w) k (r + 1) y (fun i hi => h i (by omega))
    simp only [sA]
    rw [h r (by omega), ih, ih]
theorem sAn_cong (h : ∀ i, i < n → R i = R' i) {w r : Nat} {x : Int32} (hr : r ≤ n) : sAn R w n r x = sAn R' w n r x := sA_cong _ _ _ (fun i hi => h i (by omega))
theorem sX_cong (h : ∀ i, i < n → R i = R' i) : sX R n = sX R' n := by
  funext y
  unfold sX
  rw [sAn_cong h (Nat.zero_le n)]
theorem sCw_cong (h : ∀ i, i < n → R i = R' i) (v : Int32) : sCw R n v = sCw R' n v := by
  unfold sCw
  congr 1
  funext y
  unfold sCp
  rw [sX_cong h]
theorem sSum_cong (h : ∀ i, i < n → R i = R' i) : sSum R n = sSum R' n := by
  unfold sSum
  rw [sX_cong h]
theorem sBg_cong (h : ∀ i, i < n → R i = R' i) : sBg R n = sBg R' n := by
  funext y
  unfold sBg
  rw [sW_cong h]
theorem sRuns_cong (h : ∀ i, i < n → R i = R' i) : sRuns R n = sRuns R' n := by
  unfold sRuns
  rw [sBg_cong h]
theorem sRunsN_cong (h : ∀ i, i < n → R i = R' i) : sRunsN R n = sRunsN R' n := by
  unfold sRunsN
  rw [sRuns_cong h]
theorem sWon_cong (h : ∀ i, i < n → R i = R' i) (r : Int32) : sWon R n r = sWon R' n r := by
  unfold sWon
  rw [sW_cong h]
theorem sShad_cong (h : ∀ i, i < n → R i = R' i) : sShad R n = sShad R' n := by
  unfold sShad
  congr 1
  funext r
  rw [sWon_cong h]
theorem sNeed_cong (h : ∀ i, i < n → R i = R' i) : sNeed R n = sNeed R' n := by
  funext r
  unfold sNeed
  rw [sX_cong h]
  congr 2
  congr 1
  funext y
  rw [sAn_cong h (Nat.zero_le n)]
theorem sNeeds_cong (h : ∀ i, i < n → R i = R' i) : sNeeds R n = sNeeds R' n := by
  unfold sNeeds
  rw [sNeed_cong h]
theorem sSo_cong (h : ∀ i, i < n → R i = R' i) (rd : Nat) (rp rw : Nat → Int32) : sSo R n rd rp rw = sSo R' n rd rp rw := by
  unfold sSo
  congr 2
  congr 1
  funext q
  unfold sSp
  rw [sAn_cong h (Nat.zero_le n)]
end CONG
theorem sFf_all (c : Nat → Int32) (m : Nat) : ∀ (k p : Nat), p + k = m → (sFf c m k p < m ∨ (sFf c m k p = m ∧ ∀ q, p ≤ q → q < m → sGo c q))
  | 0, p, h => Or.inr ⟨by simpa [sFf] using h, fun q h1 h2 => absurd h1 (by omega)⟩
  | k + 1, p, h => by
    by_cases hg : sGoD c p = true
    · have e : sFf c m (k + 1) p = sFf c m k (p + 1) := if_pos hg
      rw [e]
      rcases sFf_all c m k (p + 1) (by omega) with q | ⟨q1, q2⟩
      · exact Or.inl q
      · refine Or.inr ⟨q1, fun q h1 h2 => ?_⟩
        by_cases hq : q = p
        · rw [hq]; exact sGoD_iff.mp hg
        · exact q2 q (by omega) h2
    · have e : sFf c m (k + 1) p = p := if_neg hg
      rw [e]
      exact Or.inl (by omega)
/-- a TEXT: q rules, 1 to 7 -/
theorem sFault_ok {c : Nat → Int32} {m : Nat} (hm : m ≤ 60) (h : sFault c m = -1) : (∀ p, p < m → sGo c p) ∧ ∃ q, m = 6 * q + 1 ∧ 1 ≤ q ∧ q ≤ 7 := by
  unfold sFault at h
  have hneg : ∀ t : Nat, t < 100000 → nI t ≠ -1 := fun t ht e => by
    have a := nI_pos (n := t) (by omega)
    rw [e] at a
    exact a (by decide)
  rcases sFf_all c m m 0 (by omega) with q | ⟨q1, q2⟩
  · have e : sFfn c m 0 < m := q
    rw [if_pos e] at h
    exact absurd h (hneg _ (by omega))
  · have e : ¬ sFfn c m 0 < m := by
      have : sFfn c m 0 = m := q1
      omega
    rw [if_neg e] at h
    by_cases hc : 1 < m ∧ (m - 1) % 6 = 0
    · refine ⟨fun p hp => q2 p (Nat.zero_le p) hp, (m - 1) / 6, by omega, by omega, ?_⟩
      by_cases h43 : m ≤ 43
      · omega
      · have hg := q2 43 (by omega) (by omega)
        unfold sGo at hg
        rw [if_neg (by omega), if_pos (by omega)] at hg
        exact absurd hg id
    · rw [if_neg hc] at h
      exact absurd h (hneg _ (by omega))
noncomputable def vRules (la : Nat → Int32) (sz : Nat → Nat) (cl : Nat → Nat → Int32) (k a i m : Int32) : Int32 := if 0 ≤ k ∧ k ≤ 3 then (if 0 ≤ a ∧ a ≤ 2 then (if sFas (la (ix k)) a = 0 then (if m < 0 then -14 else if sHcD (sz (ix k)) i m then (if sFault (fun p => cl (ix k) (ix i + p)) (ix m) = -1 then nI ((ix m - 1) / 6) else -100 - sFault (fun p => cl (ix k) (ix i + p)) (ix m)) else -13) else -10 - sFas (la (ix k)) a) else -2) else -1
noncomputable def fRules (la : Nat → Int32) (sz : Nat → Nat) (k a i m : Int32) : Int32 := if 0 ≤ k ∧ k ≤ 3 then (if 0 ≤ a ∧ a ≤ 2 then (if sFas (la (ix k)) a = 0 then (if m < 0 then 4 else if sHcD (sz (ix k)) i m then 0 else 3) else sFas (la (ix k)) a) else 0) else 0
def bRules (la : Nat → Int32) (sz : Nat → Nat) (cl : Nat → Nat → Int32) (k a i m : Int32) : Prop := (0 ≤ k ∧ k ≤ 3) ∧ (0 ≤ a ∧ a ≤ 2) ∧ sFas (la (ix k)) a = 0 ∧ ¬ m < 0 ∧ sHc (sz (ix k)) i m ∧ sFault (fun p => cl (ix k) (ix i + p)) (ix m) = -1
noncomputable def bRulesD (la : Nat → Int32) (sz : Nat → Nat) (cl : Nat → Nat → Int32) (k a i m : Int32) : Bool := @decide (bRules la sz cl k a i m) (Classical.propDecidable _)
theorem bRulesD_t {la : Nat → Int32} {sz : Nat → Nat} {cl : Nat → Nat → Int32} {k a i m : Int32} (h : bRules la sz cl k a i m) : bRulesD la sz cl k a i m = true := @decide_eq_true _ (Classical.propDecidable _) h
theorem bRulesD_f {la : Nat → Int32} {sz : Nat → Nat} {cl : Nat → Nat → Int32} {k a i m : Int32} (h : ¬ bRules la sz cl k a i m) : bRulesD la sz cl k a i m = false := @decide_eq_false _ (Classical.propDecidable _) h
noncomputable def nRules (n : Nat) (la : Nat → Int32) (sz : Nat → Nat) (cl : Nat → Nat → Int32) (k a i m : Int32) : Nat := if bRulesD la sz cl k a i m then (ix m - 1) / 6 else n
noncomputable def rRules (R : Nat → Nat → Int32) (la : Nat → Int32) (sz : Nat → Nat) (cl : Nat → Nat → Int32) (k a i m : Int32) : Nat → Nat → Int32 := if bRulesD la sz cl k a i m then sTx (fun p => cl (ix k) (ix i + p)) else R
noncomputable def dRules (rd : Nat) (la : Nat → Int32) (sz : Nat → Nat) (cl : Nat → Nat → Int32) (k a i m : Int32) : Nat := if bRulesD la sz cl k a i m then 0 else rd
