/-! the reference's cells whole; what it has in common with the class -/
def mC (V : gV) (ad : Nat → Nat) (E : Nat → va_E) (fa tr at1 rr dn wo rd : Int32) (n : Nat) (so sl ce pa rz dl ke p2 w2 : Nat → Int32) : Prop := E 34 = mO ad fa tr (nI n) at1 rr dn wo rd ∧ E 35 = gI V 4 so ∧ E 36 = gI V 4 sl ∧ E 37 = gI V 240 ce ∧ E 38 = gI V 35 pa ∧ E 39 = gI V 35 rz ∧ E 40 = gI V 8 dl ∧ E 41 = gI V 35 ke ∧ E 42 = gI V 8 p2 ∧ E 43 = gI V 8 w2 ∧ n ≤ 7
def frM (E E2 : Nat → va_E) : Prop := ∀ k, k < 34 → E2 k = E k
theorem frM.rf {E : Nat → va_E} : frM E E := fun _ _ => rfl
theorem frM.tr {E E2 E3 : Nat → va_E} (h : frM E E2) (h2 : frM E2 E3) : frM E E3 := fun k hk => (h2 k hk).trans (h k hk)
theorem frM.up {E : Nat → va_E} {k : Nat} {c : va_E} (h : 34 ≤ k) : frM E (va_up E k c) := fun q hq => va_up_ne _ _ (by omega)
theorem frM.ex {E E2 : Nat → va_E} (h : exM E E2) : frM E E2 := fun q hq => h q (by omega) (by omega)
section MC
variable {V : gV} {ad : Nat → Nat} {E E2 : Nat → va_E} {fa tr at1 rr dn wo rd : Int32} {n : Nat} {so sl ce pa rz dl ke p2 w2 : Nat → Int32}
theorem mC.k (h : mC V ad E fa tr at1 rr dn wo rd n so sl ce pa rz dl ke p2 w2) : mK V ad E fa tr at1 rr rd n pa dn wo dl := by
  obtain ⟨m0, g35, g36, g37, g38, g39, g40, g41, g42, g43, m3⟩ := h
  exact ⟨m0, g38, g40, m3⟩
theorem mC.ex {dn2 wo2 : Int32} {dl2 : Nat → Int32} (h : mC V ad E fa tr at1 rr dn wo rd n so sl ce pa rz dl ke p2 w2) (hx : exM E E2) (hM : mK V ad E2 fa tr at1 rr rd n pa dn2 wo2 dl2) : mC V ad E2 fa tr at1 rr dn2 wo2 rd n so sl ce pa rz dl2 ke p2 w2 := by
  obtain ⟨m0, g35, g36, g37, g38, g39, g40, g41, g42, g43, m3⟩ := h
  obtain ⟨q0, q1, q2, q3⟩ := hM
  exact ⟨q0, (hx _ (by omega) (by omega)).trans g35, (hx _ (by omega) (by omega)).trans g36, (hx _ (by omega) (by omega)).trans g37, q1, (hx _ (by omega) (by omega)).trans g39, q2, (hx _ (by omega) (by omega)).trans g41, (hx _ (by omega) (by omega)).trans g42, (hx _ (by omega) (by omega)).trans g43, m3⟩
theorem mC.o {fa2 tr2 at2 rr2 dn2 wo2 rd2 : Int32} {n2 : Nat} (h : mC V ad E fa tr at1 rr dn wo rd n so sl ce pa rz dl ke p2 w2) (hn : n2 ≤ 7) : mC V ad (va_up E 34 (mO ad fa2 tr2 (nI n2) at2 rr2 dn2 wo2 rd2)) fa2 tr2 at2 rr2 dn2 wo2 rd2 n2 so sl ce pa rz dl ke p2 w2 := by
  obtain ⟨m0, g35, g36, g37, g38, g39, g40, g41, g42, g43, m3⟩ := h
  exact ⟨va_up_self _ _ _, (va_up_ne _ _ (by omega)).trans g35, (va_up_ne _ _ (by omega)).trans g36, (va_up_ne _ _ (by omega)).trans g37, (va_up_ne _ _ (by omega)).trans g38, (va_up_ne _ _ (by omega)).trans g39, (va_up_ne _ _ (by omega)).trans g40, (va_up_ne _ _ (by omega)).trans g41, (va_up_ne _ _ (by omega)).trans g42, (va_up_ne _ _ (by omega)).trans g43, hn⟩
theorem mC.s_so (h : mC V ad E fa tr at1 rr dn wo rd n so sl ce pa rz dl ke p2 w2) (son : Nat → Int32) : mC V ad (va_up E 35 (gI V 4 son)) fa tr at1 rr dn wo rd n son sl ce pa rz dl ke p2 w2 := by
  obtain ⟨m0, g35, g36, g37, g38, g39, g40, g41, g42, g43, m3⟩ := h
  exact ⟨(va_up_ne _ _ (by omega)).trans m0, va_up_self _ _ _, (va_up_ne _ _ (by omega)).trans g36, (va_up_ne _ _ (by omega)).trans g37, (va_up_ne _ _ (by omega)).trans g38, (va_up_ne _ _ (by omega)).trans g39, (va_up_ne _ _ (by omega)).trans g40, (va_up_ne _ _ (by omega)).trans g41, (va_up_ne _ _ (by omega)).trans g42, (va_up_ne _ _ (by omega)).trans g43, m3⟩
theorem mC.s_sl (h : mC V ad E fa tr at1 rr dn wo rd n so sl ce pa rz dl ke p2 w2) (sln : Nat → Int32) : mC V ad (va_up E 36 (gI V 4 sln)) fa tr at1 rr dn wo rd n so sln ce pa rz dl ke p2 w2 := by
  obtain ⟨m0, g35, g36, g37, g38, g39, g40, g41, g42, g43, m3⟩ := h
  exact ⟨(va_up_ne _ _ (by omega)).trans m0, (va_up_ne _ _ (by omega)).trans g35, va_up_self _ _ _, (va_up_ne _ _ (by omega)).trans g37, (va_up_ne _ _ (by omega)).trans g38, (va_up_ne _ _ (by omega)).trans g39, (va_up_ne _ _ (by omega)).trans g40, (va_up_ne _ _ (by omega)).trans g41, (va_up_ne _ _ (by omega)).trans g42, (va_up_ne _ _ (by omega)).trans g43, m3⟩
theorem mC.s_ce (h : mC V ad E fa tr at1 rr dn wo rd n so sl ce pa rz dl ke p2 w2) (cen : Nat → Int32) : mC V ad (va_up E 37 (gI V 240 cen)) fa tr at1 rr dn wo rd n so sl cen pa rz dl ke p2 w2 := by
  obtain ⟨m0, g35, g36, g37, g38, g39, g40, g41, g42, g43, m3⟩ := h
  exact ⟨(va_up_ne _ _ (by omega)).trans m0, (va_up_ne _ _ (by omega)).trans g35, (va_up_ne _ _ (by omega)).trans g36, va_up_self _ _ _, (va_up_ne _ _ (by omega)).trans g38, (va_up_ne _ _ (by omega)).trans g39, (va_up_ne _ _ (by omega)).trans g40, (va_up_ne _ _ (by omega)).trans g41, (va_up_ne _ _ (by omega)).trans g42, (va_up_ne _ _ (by omega)).trans g43, m3⟩
theorem mC.s_pa (h : mC V ad E fa tr at1 rr dn wo rd n so sl ce pa rz dl ke p2 w2) (pan : Nat → Int32) : mC V ad (va_up E 38 (gI V 35 pan)) fa tr at1 rr dn wo rd n so sl ce pan rz dl ke p2 w2 := by
  obtain ⟨m0, g35, g36, g37, g38, g39, g40, g41, g42, g43, m3⟩ := h
  exact ⟨(va_up_ne _ _ (by omega)).trans m0, (va_up_ne _ _ (by omega)).trans g35, (va_up_ne _ _ (by omega)).trans g36, (va_up_ne _ _ (by omega)).trans g37, va_up_self _ _ _, (va_up_ne _ _ (by omega)).trans g39, (va_up_ne _ _ (by omega)).trans g40, (va_up_ne _ _ (by omega)).trans g41, (va_up_ne _ _ (by omega)).trans g42, (va_up_ne _ _ (by omega)).trans g43, m3⟩
theorem mC.s_rz (h : mC V ad E fa tr at1 rr dn wo rd n so sl ce pa rz dl ke p2 w2) (rzn : Nat → Int32) : mC V ad (va_up E 39 (gI V 35 rzn)) fa tr at1 rr dn wo rd n so sl ce pa rzn dl ke p2 w2 := by
  obtain ⟨m0, g35, g36, g37, g38, g39, g40, g41, g42, g43, m3⟩ := h
  exact ⟨(va_up_ne _ _ (by omega)).trans m0, (va_up_ne _ _ (by omega)).trans g35, (va_up_ne _ _ (by omega)).trans g36, (va_up_ne _ _ (by omega)).trans g37, (va_up_ne _ _ (by omega)).trans g38, va_up_self _ _ _, (va_up_ne _ _ (by omega)).trans g40, (va_up_ne _ _ (by omega)).trans g41, (va_up_ne _ _ (by omega)).trans g42, (va_up_ne _ _ (by omega)).trans g43, m3⟩
theorem mC.s_dl (h : mC V ad E fa tr at1 rr dn wo rd n so sl ce pa rz dl ke p2 w2) (dln : Nat → Int32) : mC V ad (va_up E 40 (gI V 8 dln)) fa tr at1 rr dn wo rd n so sl ce pa rz dln ke p2 w2 := by
  obtain ⟨m0, g35, g36, g37, g38, g39, g40, g41, g42, g43, m3⟩ := h
  exact ⟨(va_up_ne _ _ (by omega)).trans m0, (va_up_ne _ _ (by omega)).trans g35, (va_up_ne _ _ (by omega)).trans g36, (va_up_ne _ _ (by omega)).trans g37, (va_up_ne _ _ (by omega)).trans g38, (va_up_ne _ _ (by omega)).trans g39, va_up_self _ _ _, (va_up_ne _ _ (by omega)).trans g41, (va_up_ne _ _ (by omega)).trans g42, (va_up_ne _ _ (by omega)).trans g43, m3⟩
theorem mC.s_ke (h : mC V ad E fa tr at1 rr dn wo rd n so sl ce pa rz dl ke p2 w2) (ken : Nat → Int32) : mC V ad (va_up E 41 (gI V 35 ken)) fa tr at1 rr dn wo rd n so sl ce pa rz dl ken p2 w2 := by
  obtain ⟨m0, g35, g36, g37, g38, g39, g40, g41, g42, g43, m3⟩ := h
  exact ⟨(va_up_ne _ _ (by omega)).trans m0, (va_up_ne _ _ (by omega)).trans g35, (va_up_ne _ _ (by omega)).trans g36, (va_up_ne _ _ (by omega)).trans g37, (va_up_ne _ _ (by omega)).trans g38, (va_up_ne _ _ (by omega)).trans g39, (va_up_ne _ _ (by omega)).trans g40, va_up_self _ _ _, (va_up_ne _ _ (by omega)).trans g42, (va_up_ne _ _ (by omega)).trans g43, m3⟩
theorem mC.s_p2 (h : mC V ad E fa tr at1 rr dn wo rd n so sl ce pa rz dl ke p2 w2) (p2n : Nat → Int32) : mC V ad (va_up E 42 (gI V 8 p2n)) fa tr at1 rr dn wo rd n so sl ce pa rz dl ke p2n w2 := by
  obtain ⟨m0, g35, g36, g37, g38, g39, g40, g41, g42, g43, m3⟩ := h
  exact ⟨(va_up_ne _ _ (by omega)).trans m0, (va_up_ne _ _ (by omega)).trans g35, (va_up_ne _ _ (by omega)).trans g36, (va_up_ne _ _ (by omega)).trans g37, (va_up_ne _ _ (by omega)).trans g38, (va_up_ne _ _ (by omega)).trans g39, (va_up_ne _ _ (by omega)).trans g40, (va_up_ne _ _ (by omega)).trans g41, va_up_self _ _ _, (va_up_ne _ _ (by omega)).trans g43, m3⟩
theorem mC.s_w2 (h : mC V ad E fa tr at1 rr dn wo rd n so sl ce pa rz dl ke p2 w2) (w2n : Nat → Int32) : mC V ad (va_up E 43 (gI V 8 w2n)) fa tr at1 rr dn wo rd n so sl ce pa rz dl ke p2 w2n := by
  obtain ⟨m0, g35, g36, g37, g38, g39, g40, g41, g42, g43, m3⟩ := h
  exact ⟨(va_up_ne _ _ (by omega)).trans m0, (va_up_ne _ _ (by omega)).trans g35, (va_up_ne _ _ (by omega)).trans g36, (va_up_ne _ _ (by omega)).trans g37, (va_up_ne _ _ (by omega)).trans g38, (va_up_ne _ _ (by omega)).trans g39, (va_up_ne _ _ (by omega)).trans g40, (va_up_ne _ _ (by omega)).trans g41, (va_up_ne _ _ (by omega)).trans g42, va_up_self _ _ _, m3⟩
end MC
/-- the reference's cells say the same as S -/
def mR (V : gV) (ad : Nat → Nat) (E : Nat → va_E) : cS → Prop
  | (n, R, rd, rp, rw, tr, fa, la, sz, cl) => ∃ (at1 rr dn wo : Int32) (so sl ce pa rz dl ke p2 w2 : Nat → Int32), mC V ad E fa tr at1 rr dn wo (nI rd) n so sl ce pa rz dl ke p2 w2 ∧ rd ≤ 8 ∧ (∀ i, i < n → ∀ j, j < 5 → pR pa i j = R i j) ∧ (∀ q, q < rd → p2 q = rp q ∧ w2 q = rw q) ∧ (∀ s, s < 4 → so s = (if la s = -1 then -9 else la s)) ∧ (∀ s, s < 4 → ¬ la s = -1 → sl s = nI (sz s) ∧ ∀ i, i < sz s → ce (60 * s + i) = cl s i) ∧ (∀ s, s < 4 → sz s ≤ 60)
def sOk (n : Nat) (R : Nat → Nat → Int32) : Prop := ∀ i, i < n → rOk (R i)
theorem rOk_cw {q q' : Nat → Int32} (h : ∀ j, j < 5 → q j = q' j) (ho : rOk q') : rOk q := by
  unfold rOk at *
  rw [h 0 (by omega), h 1 (by omega), h 2 (by omega)]
  exact ho
theorem vOfRule_t {n : Nat} {R : Nat → Nat → Int32} {j t : Nat} (hj : j < n) (hn : n ≤ 7) (ht : t ≤ 4) : vOfRule n R (nI j) (nI t) = R j t := by
  have c : 0 ≤ nI j ∧ nI j < nI n := ⟨nI_pos' (by omega), (nlt (by omega) (by omega)).mpr hj⟩
  unfold vOfRule
  rw [if_pos c, ix_nI (by omega)]
  rcases (show t = 0 ∨ t = 1 ∨ t = 2 ∨ t = 3 ∨ t = 4 by omega) with rfl | rfl | rfl | rfl | rfl <;> rfl
