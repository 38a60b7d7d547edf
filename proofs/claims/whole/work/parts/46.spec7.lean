/-! telling, sheets -/
theorem pk_remN {a b : Nat} (ha : a < 100000) (h0 : 0 < b) (hb : b < 100000) : nI a - nI a / nI b * nI b = nI (a % b) := pk_rem (by omega) h0 (by omega)
def vTell (n : Nat) (R : Nat → Nat → Int32) (r : Int32) : Int32 := if 0 ≤ r ∧ r < nI n then (if R (ix r) 0 = 1 then R (ix r) 2 + 100 else if R (ix r) 0 = 2 then R (ix r) 2 + 100 + R (ix r) 2 else R (ix r) 2) else -1
def tTell (n : Nat) (R : Nat → Nat → Int32) (r tr : Int32) : Int32 := if 0 ≤ r ∧ r < nI n then (if R (ix r) 0 = 1 then 31 * (31 * tr + 2) + 1 else if R (ix r) 0 = 2 then 31 * (31 * (31 * (31 * tr + 3) + 2) + 1) + 1 else 31 * tr + 1) else tr
def vCite (n : Nat) (R : Nat → Nat → Int32) (r : Int32) : Int32 := if 0 ≤ r ∧ r < nI n then (if R (ix r) 0 = 2 then 60 else R (ix r) 3) else -1
def tCite (n : Nat) (R : Nat → Nat → Int32) (r tr : Int32) : Int32 := if 0 ≤ r ∧ r < nI n then (if R (ix r) 0 = 2 then 31 * tr + 5 else 31 * tr + 4) else tr
def vAs (n : Nat) (R : Nat → Nat → Int32) (r k : Int32) : Int32 := if 0 ≤ r ∧ r < nI n then (if 0 ≤ k ∧ k ≤ 2 then (if k ≤ R (ix r) 0 then 1 else -12) else -2) else -1
def fAs (n : Nat) (R : Nat → Nat → Int32) (r k : Int32) : Int32 := if 0 ≤ r ∧ r < nI n then (if 0 ≤ k ∧ k ≤ 2 then (if k ≤ R (ix r) 0 then 0 else 2) else 0) else 0
def vSheet (k a m : Int32) : Int32 := if 0 ≤ k ∧ k ≤ 3 then (if (0 ≤ a ∧ a ≤ 2) ∧ m ≤ 60 then (if m < 0 then -14 else 1) else -2) else -1
def fSheet (k a m : Int32) : Int32 := if 0 ≤ k ∧ k ≤ 3 then (if (0 ≤ a ∧ a ≤ 2) ∧ m ≤ 60 then (if m < 0 then 4 else 0) else 0) else 0
def bSheet (k a m : Int32) : Prop := (0 ≤ k ∧ k ≤ 3) ∧ ((0 ≤ a ∧ a ≤ 2) ∧ m ≤ 60) ∧ ¬ m < 0
noncomputable def bSheetD (k a m : Int32) : Bool := @decide (bSheet k a m) (Classical.propDecidable _)
theorem bSheetD_t {k a m : Int32} (h : bSheet k a m) : bSheetD k a m = true := @decide_eq_true _ (Classical.propDecidable _) h
theorem bSheetD_f {k a m : Int32} (h : ¬ bSheet k a m) : bSheetD k a m = false := @decide_eq_false _ (Classical.propDecidable _) h
noncomputable def lSheet (la : Nat → Int32) (k a m : Int32) : Nat → Int32 := if bSheetD k a m then va_up la (ix k) a else la
noncomputable def zSheet (sz : Nat → Nat) (k a m : Int32) : Nat → Nat := if bSheetD k a m then va_up sz (ix k) (ix m) else sz
noncomputable def cSheet (cl : Nat → Nat → Int32) (k a m : Int32) : Nat → Nat → Int32 := if bSheetD k a m then va_up cl (ix k) (fun i => if i < ix m then 0 else cl (ix k) i) else cl
def vLose (la : Nat → Int32) (k : Int32) : Int32 := if 0 ≤ k ∧ k ≤ 3 then (if la (ix k) = -1 then 0 else 1) else -1
def lLose (la : Nat → Int32) (k : Int32) : Nat → Int32 := if 0 ≤ k ∧ k ≤ 3 then va_up la (ix k) (-1) else la
def zLose (sz : Nat → Nat) (k : Int32) : Nat → Nat := if 0 ≤ k ∧ k ≤ 3 then va_up sz (ix k) 0 else sz
def vPut (la : Nat → Int32) (sz : Nat → Nat) (k i : Int32) : Int32 := if 0 ≤ k ∧ k ≤ 3 then (if la (ix k) = -1 then -11 else if 0 ≤ i ∧ i < nI (sz (ix k)) then 1 else -13) else -1
def fPut (la : Nat → Int32) (sz : Nat → Nat) (k i : Int32) : Int32 := if 0 ≤ k ∧ k ≤ 3 then (if la (ix k) = -1 then 1 else if 0 ≤ i ∧ i < nI (sz (ix k)) then 0 else 3) else 0
def cPut (la : Nat → Int32) (sz : Nat → Nat) (cl : Nat → Nat → Int32) (k i v : Int32) : Nat → Nat → Int32 := if 0 ≤ k ∧ k ≤ 3 then (if la (ix k) = -1 then cl else if 0 ≤ i ∧ i < nI (sz (ix k)) then va_up cl (ix k) (upd (cl (ix k)) (ix i) (sCut (la (ix k)) v)) else cl) else cl
/-- which fault taking a sheet as a row of a lane comes to -/
def sFas (x a : Int32) : Int32 := if x = -1 then 1 else if x = a then 0 else 2
def vCell (la : Nat → Int32) (sz : Nat → Nat) (cl : Nat → Nat → Int32) (k i a : Int32) : Int64 := if (0 ≤ k ∧ k ≤ 3) ∧ (0 ≤ a ∧ a ≤ 2) then (if sFas (la (ix k)) a = 0 then (if 0 ≤ i ∧ i < nI (sz (ix k)) then (cl (ix k) (ix i)).toInt64 else sLost) else sLost) else sLost
def fCell (la : Nat → Int32) (sz : Nat → Nat) (k i a : Int32) : Int32 := if (0 ≤ k ∧ k ≤ 3) ∧ (0 ≤ a ∧ a ≤ 2) then (if sFas (la (ix k)) a = 0 then (if 0 ≤ i ∧ i < nI (sz (ix k)) then 0 else 3) else sFas (la (ix k)) a) else 0
/-- n cells from i on are there -/
def sHc (m : Nat) (i n : Int32) : Prop := 0 ≤ i ∧ i ≤ nI m ∧ 0 ≤ n ∧ n ≤ nI m - i
theorem sub_small {m : Nat} {i : Int32} (hm : m ≤ 60) (h0 : 0 ≤ i) (h1 : i ≤ nI m) : ∃ j : Nat, j ≤ m ∧ i = nI j ∧ nI m - i = nI (m - j) := by
  obtain ⟨j, hj, rfl⟩ := gIe h0 h1 (by omega)
  exact ⟨j, hj, rfl, pk_sub hj⟩
theorem sHc_nat {m : Nat} {i n : Int32} (hm : m ≤ 60) (h : sHc m i n) : ∃ a b : Nat, i = nI a ∧ n = nI b ∧ a + b ≤ m := by
  obtain ⟨h0, h1, h2, h3⟩ := h
  obtain ⟨j, hj, rfl, e⟩ := sub_small hm h0 h1
  rw [e] at h3
  obtain ⟨b, hb, rfl⟩ := gIe h2 h3 (by omega)
  exact ⟨j, b, rfl, rfl, by omega⟩
theorem sHc_of {m a b : Nat} (hm : m ≤ 60) (h : a + b ≤ m) : sHc m (nI a) (nI b) :=
  ⟨nI_pos' (by omega), (nle (by omega) (by omega)).mpr (by omega), nI_pos' (by omega), by rw [pk_sub (show a ≤ m by omega)]; exact (nle (by omega) (by omega)).mpr (by omega)⟩
theorem sHc1 {m : Nat} {i : Int32} (hm : m ≤ 60) : sHc m i 1 ↔ (0 ≤ i ∧ i < nI m) := by
  constructor
  · intro h
    obtain ⟨a, b, rfl, e, hab⟩ := sHc_nat hm h
    have hb : 1 = b := (neq (a := 1) (by omega) (by omega)).mp e
    exact ⟨nI_pos' (by omega), (nlt (by omega) (by omega)).mpr (by omega)⟩
  · rintro ⟨h0, h1⟩
    obtain ⟨j, hj, rfl⟩ := gIx (Int32.not_lt.mpr h0) h1 (by omega)
    exact sHc_of (b := 1) hm (by omega)
noncomputable def sHcD (m : Nat) (i n : Int32) : Bool := @decide (sHc m i n) (Classical.propDecidable _)
theorem sHcD_t {m : Nat} {i n : Int32} (h : sHc m i n) : sHcD m i n = true := @decide_eq_true _ (Classical.propDecidable _) h
theorem sHcD_f {m : Nat} {i n : Int32} (h : ¬ sHc m i n) : sHcD m i n = false := @decide_eq_false _ (Classical.propDecidable _) h
noncomputable def vCopy (la : Nat → Int32) (sz : Nat → Nat) (k i q j n : Int32) : Int32 := if (0 ≤ k ∧ k ≤ 3) ∧ (0 ≤ q ∧ q ≤ 3) then (if la (ix k) = -1 ∨ la (ix q) = -1 then -11 else if la (ix k) = la (ix q) then (if sHcD (sz (ix k)) i n && sHcD (sz (ix q)) j n then n else -13) else -12) else -1
noncomputable def fCopy (la : Nat → Int32) (sz : Nat → Nat) (k i q j n : Int32) : Int32 := if (0 ≤ k ∧ k ≤ 3) ∧ (0 ≤ q ∧ q ≤ 3) then (if la (ix k) = -1 ∨ la (ix q) = -1 then 1 else if la (ix k) = la (ix q) then (if sHcD (sz (ix k)) i n && sHcD (sz (ix q)) j n then 0 else 3) else 2) else 0
noncomputable def cCopy (la : Nat → Int32) (sz : Nat → Nat) (cl : Nat → Nat → Int32) (k i q j n : Int32) : Nat → Nat → Int32 := if (0 ≤ k ∧ k ≤ 3) ∧ (0 ≤ q ∧ q ≤ 3) then (if la (ix k) = -1 ∨ la (ix q) = -1 then cl else if la (ix k) = la (ix q) then (if sHcD (sz (ix k)) i n && sHcD (sz (ix q)) j n then va_up cl (ix q) (va_cpy (cl (ix k)) (cl (ix q)) (ix i) (ix j) (ix n)) else cl) else cl) else cl
