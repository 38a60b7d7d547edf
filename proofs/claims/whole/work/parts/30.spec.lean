/-! what is asked, as functions: rules R i j (rule i's number j: kind, deed, number, low, high), n of them -/
theorem nle {a b : Nat} (ha : a < 100000) (hb : b < 100000) : nI a ≤ nI b ↔ a ≤ b := nI_leI (by omega) (by omega)
theorem nlt {a b : Nat} (ha : a < 100000) (hb : b < 100000) : nI a < nI b ↔ a < b := nI_ltI (by omega) (by omega)
theorem neq {a b : Nat} (ha : a < 100000) (hb : b < 100000) : nI a = nI b ↔ a = b := nI_eq (by omega) (by omega)
theorem nI_inc (a : Nat) : nI a + Int32.ofInt 1 = nI (a + 1) := nI_1 a
theorem nI_dec (a : Nat) : nI (a + 1) + Int32.ofInt (-1) = nI a := pk_m1 a
theorem nI_i1 (a : Nat) : nI a + 1 = nI (a + 1) := nI_1 a
/-- the first rule from r on, that isn't w, and has x; n: none -/
def sF (R : Nat → Nat → Int32) (w : Nat) (x : Int32) : Nat → Nat → Nat
  | 0, r => r
  | k + 1, r => if r ≠ w ∧ sHas (R r) x then r else sF R w x k (r + 1)
def sFn (R : Nat → Nat → Int32) (w : Nat) (x : Int32) (n r : Nat) : Nat := sF R w x (n - r) r
theorem sFn_end {R : Nat → Nat → Int32} {w : Nat} {x : Int32} {n r : Nat} (h : n ≤ r) : sFn R w x n r = r := by
  unfold sFn
  rw [Nat.sub_eq_zero_of_le h]
  rfl
theorem sFn_hit {R : Nat → Nat → Int32} {w : Nat} {x : Int32} {n r : Nat} (h : r < n) (hw : r ≠ w) (hx : sHas (R r) x) : sFn R w x n r = r := by
  unfold sFn
  rw [show n - r = (n - (r + 1)) + 1 by omega]
  exact if_pos ⟨hw, hx⟩
theorem sFn_miss {R : Nat → Nat → Int32} {w : Nat} {x : Int32} {n r : Nat} (h : r < n) (hx : ¬ (r ≠ w ∧ sHas (R r) x)) : sFn R w x n r = sFn R w x n (r + 1) := by
  unfold sFn
  rw [show n - r = (n - (r + 1)) + 1 by omega]
  exact if_neg hx
theorem sF_le (R : Nat → Nat → Int32) (w : Nat) (x : Int32) : ∀ k r, r ≤ sF R w x k r ∧ sF R w x k r ≤ r + k
  | 0, r => ⟨Nat.le_refl _, Nat.le_refl _⟩
  | k + 1, r => by
    simp only [sF]
    split
    · omega
    · have := sF_le R w x k (r + 1)
      omega
theorem sFn_le {R : Nat → Nat → Int32} {w : Nat} {x : Int32} {n r : Nat} (h : r ≤ n) : r ≤ sFn R w x n r ∧ sFn R w x n r ≤ n := by
  have := sF_le R w x (n - r) r
  unfold sFn
  omega
/-- WINNER -/
def sW (R : Nat → Nat → Int32) (n : Nat) (x : Int32) : Int32 := if sFn R 99 x n 0 < n then nI (sFn R 99 x n 0) else -9
/-- ASKING: what it is worth (-9: nothing), and whose the denials are ([]: it isn't denied) -/
def sA (R : Nat → Nat → Int32) (w : Nat) : Nat → Nat → Int32 → Int32 × List Int32
  | 0, _, _ => (-9, [7])
  | k + 1, r, x => if r ≠ w ∧ sHas (R r) x then (if R r 1 = 0 then (sWr (R r), []) else if R r 1 = 1 then (-9, [nI r]) else (if (sA R w k (r + 1) (x + R r 2)).2 = [] then (sWr (R r) + (sA R w k (r + 1) (x + R r 2)).1, []) else (-9, nI r :: (sA R w k (r + 1) (x + R r 2)).2))) else sA R w k (r + 1) x
def sAn (R : Nat → Nat → Int32) (w n r : Nat) (x : Int32) : Int32 × List Int32 := sA R w (n - r) r x
theorem sAn_end {R : Nat → Nat → Int32} {w n r : Nat} {x : Int32} (h : n ≤ r) : sAn R w n r x = (-9, [7]) := by
  unfold sAn
  rw [Nat.sub_eq_zero_of_le h]
  rfl
theorem sAn_miss {R : Nat → Nat → Int32} {w n r : Nat} {x : Int32} (h : r < n) (hx : ¬ (r ≠ w ∧ sHas (R r) x)) : sAn R w n r x = sAn R w n (r + 1) x := by
  unfold sAn
  rw [show n - r = (n - (r + 1)) + 1 by omega]
  exact if_neg hx
theorem sAn_hit {R : Nat → Nat → Int32} {w n r : Nat} {x : Int32} (h : r < n) (hx : r ≠ w ∧ sHas (R r) x) : sAn R w n r x = (if R r 1 = 0 then (sWr (R r), []) else if R r 1 = 1 then (-9, [nI r]) else (if (sAn R w n (r + 1) (x + R r 2)).2 = [] then (sWr (R r) + (sAn R w n (r + 1) (x + R r 2)).1, []) else (-9, nI r :: (sAn R w n (r + 1) (x + R r 2)).2))) := by
  unfold sAn
  rw [show n - r = (n - (r + 1)) + 1 by omega]
  exact if_pos hx
theorem sA_len (R : Nat → Nat → Int32) (w : Nat) : ∀ k r x, (sA R w k r x).2.length ≤ k + 1
  | 0, r, x => by simp [sA]
  | k + 1, r, x => by
    have h1 := sA_len R w k (r + 1) (x + R r 2)
    have h2 := sA_len R w k (r + 1) x
    simp only [sA]
    split
    · split
      · simp
      · split
        · simp
        · split
          · simp
          · simp only [List.length_cons]
            omega
    · omega
theorem sAn_len {R : Nat → Nat → Int32} {w n r : Nat} {x : Int32} : (sAn R w n r x).2.length ≤ n - r + 1 := sA_len R w (n - r) r x
theorem sA_none (R : Nat → Nat → Int32) (w : Nat) : ∀ k r x, (sA R w k r x).2 ≠ [] → (sA R w k r x).1 = -9
  | 0, r, x, _ => rfl
  | k + 1, r, x, h => by
    have h2 := sA_none R w k (r + 1) x
    simp only [sA] at h ⊢
    split
    · rename_i c
      rw [if_pos c] at h
      split
      · rename_i c2
        rw [if_pos c2] at h
        exact absurd rfl h
      · rename_i c2
        rw [if_neg c2] at h
        split
        · rfl
        · rename_i c3
          rw [if_neg c3] at h
          split
          · rename_i c4
            rw [if_pos c4] at h
            exact absurd rfl h
          · rfl
    · rename_i c
      rw [if_neg c] at h
      exact h2 h
/-! the book at bb: itself, its array of rules, its asking, whose array; the rules from bb + 4 on, in an order π -/
def bkB (V : gV) (ad : Nat → Nat) (E : Nat → va_E) (bb n : Nat) (π : Nat → Nat) (R : Nat → Nat → Int32) : Prop :=
  E bb = .inr (1, [.ref (ad (bb + 1)), .ref (ad (bb + 2)), .int (nI n)]) ∧ E (bb + 1) = gRl V 7 (fun i => some (ad (bb + 4 + π i))) ∧ (∀ i, i < 7 → E (bb + 4 + π i) = rC (R i)) ∧ n ≤ 7 ∧ (∀ i, i < 7 → π i < 7) ∧ (∀ i j, i < 7 → j < 7 → π i = π j → i = j) ∧ bb + 10 < 44
def bkA (V : gV) (ad : Nat → Nat) (E : Nat → va_E) (bb : Nat) (dn wo : Int32) (dl : Nat → Int32) : Prop :=
  E (bb + 2) = .inr (0, [.ref (ad (bb + 3)), .int dn, .int wo]) ∧ E (bb + 3) = gI V 8 dl
/-- all but the asking stays -/
def exA (bb : Nat) (E E2 : Nat → va_E) : Prop := ∀ k, k ≠ bb + 2 → k ≠ bb + 3 → E2 k = E k
theorem exA.rf {bb : Nat} {E : Nat → va_E} : exA bb E E := fun _ _ _ => rfl
theorem exA.tr {bb : Nat} {E E2 E3 : Nat → va_E} (h : exA bb E E2) (h2 : exA bb E2 E3) : exA bb E E3 := fun k a b => (h2 k a b).trans (h k a b)
theorem bkB.ex {V : gV} {ad : Nat → Nat} {E E2 : Nat → va_E} {bb n : Nat} {π : Nat → Nat} {R : Nat → Nat → Int32} (h : bkB V ad E bb n π R) (hx : exA bb E E2) : bkB V ad E2 bb n π R := by
  obtain ⟨h0, h1, h2, h3, h4, h5, h6⟩ := h
  exact ⟨(hx _ (by omega) (by omega)).trans h0, (hx _ (by omega) (by omega)).trans h1, fun i hi => (hx _ (by omega) (by omega)).trans (h2 i hi), h3, h4, h5, h6⟩
