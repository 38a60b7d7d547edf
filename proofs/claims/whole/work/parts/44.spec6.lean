/-! readings, odds -/
theorem getD_lt {F : List Int32} {i : Nat} (h : i < F.length) (a b : Int32) : F.getD i a = F.getD i b := by
  simp [List.getD_eq_getElem?_getD, h]
theorem getD_ge {F : List Int32} {i : Nat} (h : ¬ i < F.length) (a : Int32) : F.getD i a = a := by
  simp [List.getD_eq_getElem?_getD, h]
def sSp (R : Nat → Nat → Int32) (n : Nat) (rp rw : Nat → Int32) (q : Nat) : Bool := decide ((sAn R 99 n 0 (rp q)).1 ≠ rw q)
theorem sSp_t {R : Nat → Nat → Int32} {n : Nat} {rp rw : Nat → Int32} {q : Nat} (h : ¬ (sAn R 99 n 0 (rp q)).1 = rw q) : sSp R n rp rw q = true := decide_eq_true h
theorem sSp_f {R : Nat → Nat → Int32} {n : Nat} {rp rw : Nat → Int32} {q : Nat} (h : (sAn R 99 n 0 (rp q)).1 = rw q) : sSp R n rp rw q = false := decide_eq_false (fun z => z h)
def sSo (R : Nat → Nat → Int32) (n rd : Nat) (rp rw : Nat → Int32) : Bool := decide (fa_cnt (sSp R n rp rw) rd = 0)
def rK (R : Nat → Nat → Int32) (j : Nat) (v : Int32) : Nat → Nat → Int32 := fun i => if i = j then sKin (R j) v else R i
def rN (R : Nat → Nat → Int32) (j : Nat) (v : Int32) : Nat → Nat → Int32 := fun i => if i = j then sNum (R j) v else R i
theorem rK_at (R : Nat → Nat → Int32) (j : Nat) (v : Int32) : rK R j v j = sKin (R j) v := if_pos rfl
theorem rN_at (R : Nat → Nat → Int32) (j : Nat) (v : Int32) : rN R j v j = sNum (R j) v := if_pos rfl
theorem rK_up (R : Nat → Nat → Int32) (j : Nat) (c v : Int32) : (fun i => if i = j then sKin (R j) v else rK R j c i) = rK R j v := by
  funext i
  unfold rK
  by_cases h : i = j <;> simp [h]
theorem rN_up (R : Nat → Nat → Int32) (j : Nat) (c v : Int32) : (fun i => if i = j then sNum (R j) v else rN R j c i) = rN R j v := by
  funext i
  unfold rN
  by_cases h : i = j <;> simp [h]
theorem sKin_self (q : Nat → Int32) : sKin q (q 0) = q := by
  funext j
  unfold sKin
  by_cases h : j = 0 <;> simp [h]
theorem sNum_self (q : Nat → Int32) : sNum q (q 2) = q := by
  funext j
  unfold sNum
  by_cases h : j = 2 <;> simp [h]
theorem rK_self (R : Nat → Nat → Int32) (j : Nat) : rK R j (R j 0) = R := by
  funext i
  unfold rK
  by_cases h : i = j
  · rw [if_pos h, sKin_self, h]
  · rw [if_neg h]
theorem rN_self (R : Nat → Nat → Int32) (j : Nat) : rN R j (R j 2) = R := by
  funext i
  unfold rN
  by_cases h : i = j
  · rw [if_pos h, sNum_self, h]
  · rw [if_neg h]
def sKs (R : Nat → Nat → Int32) (n rd : Nat) (rp rw : Nat → Int32) (j t : Nat) : Bool := sSo (rK R j (nI t)) n rd rp rw
def sNs (R : Nat → Nat → Int32) (n rd : Nat) (rp rw : Nat → Int32) (j t : Nat) : Bool := if t = 0 then false else sSo (rN R j (nI t)) n rd rp rw
def vKinds (n : Nat) (R : Nat → Nat → Int32) (rd : Nat) (rp rw : Nat → Int32) (r : Int32) : Int32 := if 0 ≤ r ∧ r < nI n then sBits (sKs R n rd rp rw (ix r)) 3 else -1
def vNumbers (n : Nat) (R : Nat → Nat → Int32) (rd : Nat) (rp rw : Nat → Int32) (r : Int32) : Int32 := if 0 ≤ r ∧ r < nI n then sBits (sNs R n rd rp rw (ix r)) 10 else -1
def sLost : Int64 := -9223372036854775808
def vOdds (n : Nat) (R : Nat → Nat → Int32) (v w : Int32) : Int64 := if (0 ≤ v ∧ v ≤ 200) ∧ (0 ≤ w ∧ w ≤ 1) then (if n = 0 then sLost else if w = 0 then lN (sCw R n v / Nat.gcd (sCw R n v) 26) else lN (26 / Nat.gcd (sCw R n v) 26)) else sLost
noncomputable def dReading (n rd : Nat) (x v : Int32) : Nat := if bReadingD n rd x v then rd + 1 else rd
noncomputable def pReading (n rd : Nat) (x v : Int32) (rp : Nat → Int32) : Nat → Int32 := if bReadingD n rd x v then upd rp rd x else rp
noncomputable def wReading (n rd : Nat) (x v : Int32) (rw : Nat → Int32) : Nat → Int32 := if bReadingD n rd x v then upd rw rd v else rw
theorem i32_bmod {z : Int} (h1 : -2147483648 ≤ z) (h2 : z < 2147483648) : z.bmod (2 ^ 32) = z := by
  rw [Int.bmod_def]
  have e : ((2 ^ 32 : Nat) : Int) = 4294967296 := by decide
  rw [e]
  split <;> omega
