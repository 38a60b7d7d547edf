/-! what each call answers, and what it does to the rules -/
abbrev ix (r : Int32) : Nat := r.toNatClampNeg
theorem ix_nI {j : Nat} (h : j < 100000) : ix (nI j) = j := nI_clamp (by omega)
def vOfRule (n : Nat) (R : Nat → Nat → Int32) (r w : Int32) : Int32 := if 0 ≤ r ∧ r < nI n then (if w = 0 then R (ix r) 0 else if w = 1 then R (ix r) 1 else if w = 2 then R (ix r) 2 else if w = 3 then R (ix r) 3 else if w = 4 then R (ix r) 4 else if w = 5 then sWr (R (ix r)) else if w = 6 then nI (sWon R n r) else -2) else -1
def vNumber (n : Nat) (R : Nat → Nat → Int32) (r v : Int32) : Int32 := if 0 ≤ r ∧ r < nI n then (if 1 ≤ v ∧ v ≤ 9 then R (ix r) 2 else -2) else -1
def sNum (q : Nat → Int32) (v : Int32) : Nat → Int32 := fun j => if j = 2 then v else q j
def sKin (q : Nat → Int32) (v : Int32) : Nat → Int32 := fun j => if j = 0 then v else q j
def rNumber (n : Nat) (R : Nat → Nat → Int32) (r v : Int32) : Nat → Nat → Int32 := fun i => if (0 ≤ r ∧ r < nI n) ∧ (1 ≤ v ∧ v ≤ 9) then (if i = ix r then sNum (R i) v else R i) else R i
def okIns (n : Nat) (k kd de nu lo hi : Int32) : Prop := (0 ≤ k ∧ k ≤ nI n) ∧ (0 ≤ kd ∧ kd ≤ 2) ∧ (0 ≤ de ∧ de ≤ 2) ∧ (1 ≤ nu ∧ nu ≤ 9) ∧ (0 ≤ lo ∧ lo ≤ 25) ∧ (lo ≤ hi ∧ hi ≤ 25)
noncomputable def okInsD (n : Nat) (k kd de nu lo hi : Int32) : Bool := @decide (okIns n k kd de nu lo hi) (Classical.propDecidable _)
theorem okInsD_t {n : Nat} {k kd de nu lo hi : Int32} (h : okIns n k kd de nu lo hi) : okInsD n k kd de nu lo hi = true := @decide_eq_true _ (Classical.propDecidable _) h
theorem okInsD_f {n : Nat} {k kd de nu lo hi : Int32} (h : ¬ okIns n k kd de nu lo hi) : okInsD n k kd de nu lo hi = false := @decide_eq_false _ (Classical.propDecidable _) h
noncomputable def vInsert (n : Nat) (k kd de nu lo hi : Int32) : Int32 := if n = 0 then -3 else if okInsD n k kd de nu lo hi then (if n = 7 then -4 else nI (n + 1)) else -2
noncomputable def nInsert (n : Nat) (k kd de nu lo hi : Int32) : Nat := if n = 0 then n else if okInsD n k kd de nu lo hi then (if n = 7 then n else n + 1) else n
def sQ (kd de nu lo hi : Int32) : Nat → Int32 := fun j => if j = 0 then kd else if j = 1 then de else if j = 2 then nu else if j = 3 then lo else hi
noncomputable def rInsert (n : Nat) (R : Nat → Nat → Int32) (k kd de nu lo hi : Int32) : Nat → Nat → Int32 := if n = 0 then R else if okInsD n k kd de nu lo hi then (if n = 7 then R else sIns R (ix k) (sQ kd de nu lo hi)) else R
def vRemove (n : Nat) (r : Int32) : Int32 := if 0 ≤ r ∧ r < nI n then (if n = 1 then -3 else nI (n - 1)) else -1
def nRemove (n : Nat) (r : Int32) : Nat := if 0 ≤ r ∧ r < nI n then (if n = 1 then n else n - 1) else n
def rRemove (n : Nat) (R : Nat → Nat → Int32) (r : Int32) : Nat → Nat → Int32 := if 0 ≤ r ∧ r < nI n then (if n = 1 then R else sDel R (ix r)) else R
def vSwap (n : Nat) (r : Int32) : Int32 := if 0 ≤ r ∧ r < nI n - 1 then r else -1
def rSwap (n : Nat) (R : Nat → Nat → Int32) (r : Int32) : Nat → Nat → Int32 := if 0 ≤ r ∧ r < nI n - 1 then sSwap R (ix r) else R
def vWinner (n : Nat) (R : Nat → Nat → Int32) (x : Int32) : Int32 := if 0 ≤ x ∧ x ≤ 25 then (if n = 0 then -3 else sW R n x) else -2
def vAsk (n : Nat) (R : Nat → Nat → Int32) (x w : Int32) : Int32 := if 0 ≤ x ∧ x ≤ 25 then (if (0 ≤ w ∧ w ≤ 1) ∨ (10 ≤ w ∧ w ≤ 17) then (if n = 0 then -3 else if w = 0 then (sAn R 99 n 0 x).1 else if w = 1 then nI (sAn R 99 n 0 x).2.length else (sAn R 99 n 0 x).2.getD (ix (w - 10)) (-9)) else -2) else -2
def sRunsN (R : Nat → Nat → Int32) (n : Nat) : Nat := if n = 0 then 0 else sRuns R n
def vOfRun (n : Nat) (R : Nat → Nat → Int32) (k w : Int32) : Int32 := if 0 ≤ k ∧ k ≤ nI (sRunsN R n) - 1 then (if w = 0 then nI (sFrn (sBg R n) (ix k) 0) else if w = 1 then nI (sFrn (sBg R n) (ix k + 1) 0) - nI (sFrn (sBg R n) (ix k) 0) else if w = 2 then sW R n (nI (sFrn (sBg R n) (ix k) 0)) else -2) else -1
def vWhole (n : Nat) (R : Nat → Nat → Int32) (w : Int32) : Int32 := if 0 ≤ w ∧ w ≤ 4 then (if n = 0 then -3 else if w = 0 then nI (sRuns R n) else if w = 1 then sShad R n else if w = 2 then sNeeds R n else if w = 3 then 26 - nI (sCw R n 0) else sSum R n) else -2
def vMany (n : Nat) (R : Nat → Nat → Int32) (rd : Nat) (w : Int32) : Int32 := if w = 0 then nI n else if w = 1 then nI (sRunsN R n) else if w = 2 then nI rd else -2
def vReading (n rd : Nat) (x v : Int32) : Int32 := if n = 0 then -3 else if 0 ≤ x ∧ x ≤ 25 then (if (0 ≤ v ∧ v ≤ 200) ∨ v = -9 then (if rd = 8 then -4 else nI rd) else -2) else -2
def bReading (n rd : Nat) (x v : Int32) : Prop := n ≠ 0 ∧ (0 ≤ x ∧ x ≤ 25) ∧ ((0 ≤ v ∧ v ≤ 200) ∨ v = -9) ∧ rd ≠ 8
noncomputable def bReadingD (n rd : Nat) (x v : Int32) : Bool := @decide (bReading n rd x v) (Classical.propDecidable _)
theorem bReadingD_t {n rd : Nat} {x v : Int32} (h : bReading n rd x v) : bReadingD n rd x v = true := @decide_eq_true _ (Classical.propDecidable _) h
theorem bReadingD_f {n rd : Nat} {x v : Int32} (h : ¬ bReading n rd x v) : bReadingD n rd x v = false := @decide_eq_false _ (Classical.propDecidable _) h
def vBack (rd : Nat) (k : Int32) : Int32 := if 0 ≤ k ∧ k ≤ nI rd then nI (rd - ix k) else -2
def dBack (rd : Nat) (k : Int32) : Nat := if 0 ≤ k ∧ k ≤ nI rd then rd - ix k else rd
theorem gIe {i : Int32} {n : Nat} (h0 : 0 ≤ i) (h1 : i ≤ nI n) (hn : n < 100000) : ∃ j : Nat, j ≤ n ∧ i = nI j := by
  obtain ⟨j, hj, e⟩ := gIx (i := i) (n := n + 1) (Int32.not_lt.mpr h0) (by rw [← nI_i1]; exact (fa_lt _ _).mpr (by
    have a := (fa_le _ _).mp h1
    have b : (nI n).toInt = n := nI_toInt (by omega)
    have c : (nI n + 1).toInt = n + 1 := by rw [nI_i1]; exact nI_toInt (by omega)
    omega)) (by omega)
  exact ⟨j, by omega, e⟩
