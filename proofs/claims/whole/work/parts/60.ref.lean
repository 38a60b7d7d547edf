/-! the reference's state -/
abbrev mO (ad : Nat → Nat) (fa tr ru at1 rr dn wo rd : Int32) : va_E := .inr (5, [.int fa, .int tr, .ref (ad 35), .ref (ad 36), .ref (ad 37), .int ru, .ref (ad 38), .int at1, .int rr, .ref (ad 39), .ref (ad 40), .int dn, .int wo, .ref (ad 41), .int rd, .ref (ad 42), .ref (ad 43)])
def pR (pa : Nat → Int32) : Nat → Nat → Int32 := fun i j => pa (5 * i + j)
def mK (V : gV) (ad : Nat → Nat) (E : Nat → va_E) (fa tr at1 rr rd : Int32) (n : Nat) (pa : Nat → Int32) (dn wo : Int32) (dl : Nat → Int32) : Prop := E 34 = mO ad fa tr (nI n) at1 rr dn wo rd ∧ E 38 = gI V 35 pa ∧ E 40 = gI V 8 dl ∧ n ≤ 7
def exM (E E2 : Nat → va_E) : Prop := ∀ k, k ≠ 34 → k ≠ 40 → E2 k = E k
theorem exM.rf {E : Nat → va_E} : exM E E := fun _ _ _ => rfl
theorem exM.tr {E E2 E3 : Nat → va_E} (h : exM E E2) (h2 : exM E2 E3) : exM E E3 := fun k a b => (h2 k a b).trans (h k a b)
/-- a rule as it may be -/
def rOk (q : Nat → Int32) : Prop := (q 0 = 0 ∨ q 0 = 1 ∨ q 0 = 2) ∧ (q 1 = 0 ∨ q 1 = 1 ∨ q 1 = 2) ∧ (1 ≤ q 2 ∧ q 2 ≤ 9)
theorem i32_add {x y : Int32} (h1 : -2147483648 ≤ x.toInt + y.toInt) (h2 : x.toInt + y.toInt < 2147483648) : (x + y).toInt = x.toInt + y.toInt := by
  rw [Int32.toInt_add]
  exact i32_bmod h1 h2
theorem i32_mul {x y : Int32} (h1 : -2147483648 ≤ x.toInt * y.toInt) (h2 : x.toInt * y.toInt < 2147483648) : (x * y).toInt = x.toInt * y.toInt := by
  rw [Int32.toInt_mul]
  exact i32_bmod h1 h2
theorem sWr_pos {q : Nat → Int32} (h : rOk q) : 1 ≤ (sWr q).toInt ∧ (sWr q).toInt ≤ 18 := by
  obtain ⟨-, -, h1, h2⟩ := h
  have a := (fa_le _ _).mp h1
  have b := (fa_le _ _).mp h2
  rw [iT_1] at a
  rw [iT_9] at b
  unfold sWr
  split
  · rw [i32_add (by rw [iT_1]; omega) (by rw [iT_1]; omega), iT_1]
    omega
  · split
    · rw [i32_mul (by rw [iT_2]; omega) (by rw [iT_2]; omega), iT_2]
      omega
    · omega
theorem sA_pos {R : Nat → Nat → Int32} {w : Nat} : ∀ (k r : Nat) (x : Int32), k ≤ 7 → (∀ i, r ≤ i → i < r + k → rOk (R i)) → (sA R w k r x).2 = [] → 1 ≤ (sA R w k r x).1.toInt ∧ (sA R w k r x).1.toInt ≤ 18 * k
  | 0, r, x, _, _, h => by simp [sA] at h
  | k + 1, r, x, hk, ho, h => by
    have ih := fun y => sA_pos (w := w) k (r + 1) y (by omega) (fun i a b => ho i (by omega) (by omega))
    have hw := sWr_pos (ho r (by omega) (by omega))
    simp only [sA] at h ⊢
    by_cases c1 : r ≠ w ∧ sHas (R r) x
    · rw [if_pos c1] at h ⊢
      by_cases c2 : R r 1 = 0
      · rw [if_pos c2]
        show 1 ≤ (sWr (R r)).toInt ∧ (sWr (R r)).toInt ≤ _
        omega
      · rw [if_neg c2] at h ⊢
        by_cases c3 : R r 1 = 1
        · rw [if_pos c3] at h
          exact absurd h (List.cons_ne_nil _ _)
        · rw [if_neg c3] at h ⊢
          by_cases c4 : (sA R w k (r + 1) (x + R r 2)).2 = []
          · rw [if_pos c4]
            have q := ih _ c4
            show 1 ≤ (sWr (R r) + (sA R w k (r + 1) (x + R r 2)).1).toInt ∧ (sWr (R r) + (sA R w k (r + 1) (x + R r 2)).1).toInt ≤ _
            rw [i32_add (by omega) (by omega)]
            omega
          · rw [if_neg c4] at h
            exact absurd h (List.cons_ne_nil _ _)
    · rw [if_neg c1] at h ⊢
      have q := ih _ h
      exact ⟨q.1, by omega⟩
theorem sX_iff {R : Nat → Nat → Int32} {n : Nat} (hn : n ≤ 7) (ho : ∀ i, i < n → rOk (R i)) (x : Int32) : (sAn R 99 n 0 x).1 = -9 ↔ (sAn R 99 n 0 x).2 ≠ [] := by
  constructor
  · intro h e
    have q := sA_pos (w := 99) (n - 0) 0 x (by omega) (fun i a b => ho i (by omega)) e
    have e2 : (sA R 99 (n - 0) 0 x).1 = -9 := h
    rw [e2, iTm9] at q
    omega
  · intro h
    exact sA_none R 99 _ _ _ h
theorem sX_nn {R : Nat → Nat → Int32} {n : Nat} (hn : n ≤ 7) (ho : ∀ i, i < n → rOk (R i)) (x : Int32) (h : (sAn R 99 n 0 x).2 = []) : 0 ≤ (sAn R 99 n 0 x).1 := by
  have q := sA_pos (w := 99) (n - 0) 0 x (by omega) (fun i a b => ho i (by omega)) h
  rw [fa_le, iT_0]
  have e : (sA R 99 (n - 0) 0 x).1 = (sAn R 99 n 0 x).1 := rfl
  rw [e] at q
  omega
theorem sFn_spec (R : Nat → Nat → Int32) (w : Nat) (x : Int32) (n : Nat) : ∀ (k r : Nat), r + k = n → (sFn R w x n r = n ∨ (sFn R w x n r < n ∧ sFn R w x n r ≠ w ∧ sHas (R (sFn R w x n r)) x)) ∧ sAn R w n r x = sAn R w n (sFn R w x n r) x
  | 0, r, h => by
    rw [sFn_end (show n ≤ r by omega)]
    exact ⟨Or.inl (by omega), rfl⟩
  | k + 1, r, h => by
    by_cases c : r ≠ w ∧ sHas (R r) x
    · rw [sFn_hit (by omega) c.1 c.2]
      exact ⟨Or.inr ⟨by omega, c.1, c.2⟩, rfl⟩
    · rw [sFn_miss (by omega) c, sAn_miss (by omega) c]
      exact sFn_spec R w x n k (r + 1) (by omega)
theorem fa_cnt_compl (p q : Nat → Bool) : ∀ n, (∀ k, k < n → q k = !(p k)) → fa_cnt p n + fa_cnt q n = n
  | 0, _ => rfl
  | n + 1, h => by
    have ih := fa_cnt_compl p q n (fun k hk => h k (by omega))
    simp only [fa_cnt]
    rw [h n (by omega)]
    cases p n <;> simp <;> omega
def aPM (V : gV) (ad : Nat → Nat) (E : Nat → va_E) (fa tr at1 rr rd : Int32) (n : Nat) (pa : Nat → Int32) (F : Int32 × List Int32) (E2 : Nat → va_E) : Prop := exM E E2 ∧ ∃ dl, mK V ad E2 fa tr at1 rr rd n pa (nI F.2.length) F.1 dl ∧ ∀ i, i < F.2.length → dl i = F.2.getD i 0
def mX (V : gV) (ad : Nat → Nat) (E : Nat → va_E) (fa tr at1 rr rd : Int32) (n : Nat) (pa : Nat → Int32) (E2 : Nat → va_E) : Prop := exM E E2 ∧ ∃ dn wo dl, mK V ad E2 fa tr at1 rr rd n pa dn wo dl
theorem aPM.x {V : gV} {ad : Nat → Nat} {E E2 : Nat → va_E} {fa tr at1 rr rd : Int32} {n : Nat} {pa : Nat → Int32} {F : Int32 × List Int32} (h : aPM V ad E fa tr at1 rr rd n pa F E2) : mX V ad E fa tr at1 rr rd n pa E2 := ⟨h.1, _, _, h.2.choose, h.2.choose_spec.1⟩
theorem mX.tr {V : gV} {ad : Nat → Nat} {E E2 E3 : Nat → va_E} {fa tr at1 rr rd : Int32} {n : Nat} {pa : Nat → Int32} (h : mX V ad E fa tr at1 rr rd n pa E2) (h2 : mX V ad E2 fa tr at1 rr rd n pa E3) : mX V ad E fa tr at1 rr rd n pa E3 := ⟨h.1.tr h2.1, h2.2⟩
def sDn (R : Nat → Nat → Int32) (n y : Nat) : Bool := decide ((sAn R 99 n 0 (nI y)).2 ≠ [])
theorem sDn_cw {R : Nat → Nat → Int32} {n : Nat} (hn : n ≤ 7) (ho : ∀ i, i < n → rOk (R i)) : nI (fa_cnt (sDn R n) 26) = 26 - nI (sCw R n 0) := by
  have h := fa_cnt_compl (sDn R n) (sCp R n 0) 26 (fun y hy => by
    unfold sDn sCp sX
    by_cases e : (sAn R 99 n 0 (nI y)).2 = []
    · have a : ¬ (sAn R 99 n 0 (nI y)).1 = -9 := fun q => (sX_iff hn ho (nI y)).mp q e
      have b := sX_nn hn ho (nI y) e
      rw [decide_eq_true (show (sAn R 99 n 0 (nI y)).1 ≠ -9 ∧ 0 ≤ (sAn R 99 n 0 (nI y)).1 from ⟨a, b⟩), decide_eq_false (fun q => q e)]
      rfl
    · have a := (sX_iff hn ho (nI y)).mpr e
      rw [decide_eq_false (fun q : (sAn R 99 n 0 (nI y)).1 ≠ -9 ∧ 0 ≤ (sAn R 99 n 0 (nI y)).1 => q.1 a), decide_eq_true (show (sAn R 99 n 0 (nI y)).2 ≠ [] from e)]
      rfl)
  have e : sCw R n 0 = fa_cnt (sCp R n 0) 26 := rfl
  rw [show (26 : Int32) = nI 26 from rfl, e, pk_sub (by omega)]
  congr 1
  omega
theorem or_z (x : Int32) : x ||| 0 = x := by simp
theorem or_idem (x b : Int32) : (x ||| b) ||| b = x ||| b := by rw [Int32.or_assoc]; simp
section CW
variable {R R' : Nat → Nat → Int32} {n : Nat}
theorem sHas_cw {q q' : Nat → Int32} (h : ∀ j, j < 5 → q j = q' j) (x : Int32) : sHas q x ↔ sHas q' x := by
  unfold sHas
  rw [h 3 (by omega), h 4 (by omega)]
theorem sWr_cw {q q' : Nat → Int32} (h : ∀ j, j < 5 → q j = q' j) : sWr q = sWr q' := by
  unfold sWr
  rw [h 0 (by omega), h 2 (by omega)]
theorem sF_cw {w : Nat} {x : Int32} : ∀ (k r : Nat), (∀ i, i < r + k → ∀ j, j < 5 → R i j = R' i j) → sF R w x k r = sF R' w x k r
  | 0, r, _ => rfl
  | k + 1, r, h => by
    have ih := sF_cw (w := w) (x := x) k (r + 1) (fun i hi => h i (by omega))
    have hq := sHas_cw (h r (by omega)) x
    simp only [sF]
    by_cases c : r ≠ w ∧ sHas (R r) x
    · rw [if_pos c, if_pos ⟨c.1, hq.mp c.2⟩]
    · rw [if_neg c, if_neg (fun z => c ⟨z.1, hq.mpr z.2⟩), ih]
theorem sFn_cw (h : ∀ i, i < n → ∀ j, j < 5 → R i j = R' i j) {w r : Nat} {x : Int32} (hr : r ≤ n) : sFn R w x n r = sFn R' w x n r := sF_cw _ _ (fun i hi => h i (by omega))
theorem sA_cw {w : Nat} : ∀ (k r : Nat) (x : Int32), (∀ i, i < r + k → ∀ j, j < 5 → R i j = R' i j) → sA R w k r x = sA R' w k r x
  | 0, r, x, _ => rfl
  | k + 1, r, x, h => by
    have ih := fun y => sA_cw (w := w) k (r + 1) y (fun i hi => h i (by omega))
    have hq := h r (by omega)
    have hw := sWr_cw hq
    have hh := sHas_cw hq x
    simp only [sA]
    by_cases c : r ≠ w ∧ sHas (R r) x
    · rw [if_pos c, if_pos (show r ≠ w ∧ sHas (R' r) x from ⟨c.1, hh.mp c.2⟩), hq 1 (by omega), hq 2 (by omega), hw, ih]
    · rw [if_neg c, if_neg (show ¬ (r ≠ w ∧ sHas (R' r) x) from fun z => c ⟨z.1, hh.mpr z.2⟩), ih]
theorem sAn_cw (h : ∀ i, i < n → ∀ j, j < 5 → R i j = R' i j) {w r : Nat} {x : Int32} (hr : r ≤ n) : sAn R w n r x = sAn R' w n r x := sA_cw _ _ _ (fun i hi => h i (by omega))
theorem sW_cw (h : ∀ i, i < n → ∀ j, j < 5 → R i j = R' i j) : sW R n = sW R' n := by
  funext x
  unfold sW
  rw [sFn_cw h (Nat.zero_le n)]
theorem sX_cw (h : ∀ i, i < n → ∀ j, j < 5 → R i j = R' i j) : sX R n = sX R' n := by
  funext y
  unfold sX
  rw [sAn_cw h (Nat.zero_le n)]
theorem sCw_cw (h : ∀ i, i < n → ∀ j, j < 5 → R i j = R' i j) (v : Int32) : sCw R n v = sCw R' n v := by
  unfold sCw
  congr 1
  funext y
  unfold sCp
  rw [sX_cw h]
theorem sSum_cw (h : ∀ i, i < n → ∀ j, j < 5 → R i j = R' i j) : sSum R n = sSum R' n := by
  unfold sSum
  rw [sX_cw h]
theorem sBg_cw (h : ∀ i, i < n → ∀ j, j < 5 → R i j = R' i j) : sBg R n = sBg R' n := by
  funext y
  unfold sBg
  rw [sW_cw h]
theorem sRuns_cw (h : ∀ i, i < n → ∀ j, j < 5 → R i j = R' i j) : sRuns R n = sRuns R' n := by
  unfold sRuns
  rw [sBg_cw h]
theorem sRunsN_cw (h : ∀ i, i < n → ∀ j, j < 5 → R i j = R' i j) : sRunsN R n = sRunsN R' n := by
  unfold sRunsN
  rw [sRuns_cw h]
theorem sWon_cw (h : ∀ i, i < n → ∀ j, j < 5 → R i j = R' i j) (r : Int32) : sWon R n r = sWon R' n r := by
  unfold sWon
  rw [sW_cw h]
theorem sShad_cw (h : ∀ i, i < n → ∀ j, j < 5 → R i j = R' i j) : sShad R n = sShad R' n := by
  unfold sShad
  congr 1
  funext r
  rw [sWon_cw h]
theorem sNeed_cw (h : ∀ i, i < n → ∀ j, j < 5 → R i j = R' i j) : sNeed R n = sNeed R' n := by
  funext r
  unfold sNeed
  rw [sX_cw h]
  congr 2
  congr 1
  funext y
  rw [sAn_cw h (Nat.zero_le n)]
theorem sNeeds_cw (h : ∀ i, i < n → ∀ j, j < 5 → R i j = R' i j) : sNeeds R n = sNeeds R' n := by
  unfold sNeeds
  rw [sNeed_cw h]
theorem sSo_cw (h : ∀ i, i < n → ∀ j, j < 5 → R i j = R' i j) (rd : Nat) (rp rw : Nat → Int32) : sSo R n rd rp rw = sSo R' n rd rp rw := by
  unfold sSo
  congr 2
  congr 1
  funext q
  unfold sSp
  rw [sAn_cw h (Nat.zero_le n)]
end CW
