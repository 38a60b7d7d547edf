/-! the class's state: rules (n, R), readings (rd, rp, rw), trace, fault, sheets (lane la, size sz, cells cl) -/
abbrev cS : Type := Nat × (Nat → Nat → Int32) × Nat × (Nat → Int32) × (Nat → Int32) × Int32 × Int32 × (Nat → Int32) × (Nat → Nat) × (Nat → Nat → Int32)
abbrev oC (ad : Nat → Nat) (rd tr fa : Int32) : va_E := .inr (4, [.ref (ad 1), .ref (ad 12), .ref (ad 23), .ref (ad 24), .ref (ad 25), .int rd, .int tr, .int fa])
def cR (V : gV) (ad : Nat → Nat) (E : Nat → va_E) : cS → Prop
  | (n, R, rd, rp, rw, tr, fa, la, sz, cl) => E 0 = oC ad (nI rd) tr fa ∧ (∃ π, bkB V ad E 1 n π R) ∧ (∃ dn wo dl, bkA V ad E 1 dn wo dl) ∧ (∃ n2 π2 R2, bkB V ad E 12 n2 π2 R2) ∧ (∃ dn wo dl, bkA V ad E 12 dn wo dl) ∧ E 23 = gRw V 4 (fun i => some (ad (26 + 2 * i))) ∧ E 24 = gI V 8 rp ∧ E 25 = gI V 8 rw ∧ (∀ s, s < 4 → E (26 + 2 * s) = wC ad (26 + 2 * s) (la s) (nI (sz s)) ∧ E (26 + 2 * s + 1) = gI V 60 (cl s) ∧ sz s ≤ 60) ∧ rd ≤ 8
def fr (E E2 : Nat → va_E) : Prop := ∀ k, 34 ≤ k → E2 k = E k
theorem fr.rf {E : Nat → va_E} : fr E E := fun _ _ => rfl
theorem fr.tr {E E2 E3 : Nat → va_E} (h : fr E E2) (h2 : fr E2 E3) : fr E E3 := fun k hk => (h2 k hk).trans (h k hk)
theorem fr.up {E : Nat → va_E} {k : Nat} {c : va_E} (h : k < 34) : fr E (va_up E k c) := fun q hq => va_up_ne _ _ (by omega)
theorem fr.aX {V : gV} {ad : Nat → Nat} {E E2 : Nat → va_E} {bb : Nat} (h : aX V ad bb E E2) (hb : bb + 10 < 34) : fr E E2 := fun q hq => h.1 q (by omega) (by omega)
theorem fr.bk {V : gV} {ad : Nat → Nat} {E E2 : Nat → va_E} {bb n : Nat} {R : Nat → Nat → Int32} (h : bkM V ad bb E E2 n R) (hb : bb + 10 < 34) : fr E E2 := fun q hq => h.2.2.2 q (by omega)
theorem bkB.eq {V : gV} {ad : Nat → Nat} {E E2 : Nat → va_E} {bb n : Nat} {π : Nat → Nat} {R : Nat → Nat → Int32} (h : bkB V ad E bb n π R) (hx : ∀ k, bb ≤ k → k ≤ bb + 10 → E2 k = E k) : bkB V ad E2 bb n π R := by
  obtain ⟨h0, h1, h2, h3, h4, h5, h6⟩ := h
  exact ⟨(hx _ (by omega) (by omega)).trans h0, (hx _ (by omega) (by omega)).trans h1, fun i hi => (hx _ (by omega) (by have := h4 i hi; omega)).trans (h2 i hi), h3, h4, h5, h6⟩
theorem bkA.eq {V : gV} {ad : Nat → Nat} {E E2 : Nat → va_E} {bb : Nat} {dn wo : Int32} {dl : Nat → Int32} (h : bkA V ad E bb dn wo dl) (h2 : E2 (bb + 2) = E (bb + 2)) (h3 : E2 (bb + 3) = E (bb + 3)) : bkA V ad E2 bb dn wo dl := ⟨h2.trans h.1, h3.trans h.2⟩
section CR
variable {V : gV} {ad : Nat → Nat} {E E2 : Nat → va_E} {n rd : Nat} {R : Nat → Nat → Int32} {rp rw : Nat → Int32} {tr fa : Int32} {la : Nat → Int32} {sz : Nat → Nat} {cl : Nat → Nat → Int32}
theorem cR.sc {rd2 : Nat} {tr2 fa2 : Int32} (h : cR V ad E (n, R, rd, rp, rw, tr, fa, la, sz, cl)) (hr : rd2 ≤ 8) : cR V ad (va_up E 0 (oC ad (nI rd2) tr2 fa2)) (n, R, rd2, rp, rw, tr2, fa2, la, sz, cl) := by
  obtain ⟨h0, ⟨π, hB⟩, ⟨dn, wo, dl, hA⟩, ⟨n2, π2, R2, hB2⟩, ⟨dn2, wo2, dl2, hA2⟩, h3, h4, h5, h6, h7⟩ := h
  have hx : ∀ k, 0 < k → (va_up E 0 (oC ad (nI rd2) tr2 fa2)) k = E k := fun k hk => va_up_ne _ _ (by omega)
  exact ⟨va_up_self _ _ _, ⟨π, hB.eq fun k a b => hx k (by omega)⟩, ⟨dn, wo, dl, hA.eq (hx _ (by omega)) (hx _ (by omega))⟩, ⟨n2, π2, R2, hB2.eq fun k a b => hx k (by omega)⟩, ⟨dn2, wo2, dl2, hA2.eq (hx _ (by omega)) (hx _ (by omega))⟩, (hx _ (by omega)).trans h3, (hx _ (by omega)).trans h4, (hx _ (by omega)).trans h5, fun s hs => ⟨(hx _ (by omega)).trans (h6 s hs).1, (hx _ (by omega)).trans (h6 s hs).2.1, (h6 s hs).2.2⟩, hr⟩
theorem cR.ask (h : cR V ad E (n, R, rd, rp, rw, tr, fa, la, sz, cl)) (hX : aX V ad 1 E E2) : cR V ad E2 (n, R, rd, rp, rw, tr, fa, la, sz, cl) := by
  obtain ⟨h0, ⟨π, hB⟩, -, ⟨n2, π2, R2, hB2⟩, ⟨dn2, wo2, dl2, hA2⟩, h3, h4, h5, h6, h7⟩ := h
  have hx : ∀ k, k < 3 ∨ 4 < k → E2 k = E k := fun k hk => hX.1 k (by omega) (by omega)
  exact ⟨(hx _ (by omega)).trans h0, ⟨π, hB.ex hX.1⟩, hX.2, ⟨n2, π2, R2, hB2.eq fun k a b => hx k (by omega)⟩, ⟨dn2, wo2, dl2, hA2.eq (hx _ (by omega)) (hx _ (by omega))⟩, (hx _ (by omega)).trans h3, (hx _ (by omega)).trans h4, (hx _ (by omega)).trans h5, fun s hs => ⟨(hx _ (by omega)).trans (h6 s hs).1, (hx _ (by omega)).trans (h6 s hs).2.1, (h6 s hs).2.2⟩, h7⟩
theorem cR.askD (h : cR V ad E (n, R, rd, rp, rw, tr, fa, la, sz, cl)) (hX : aX V ad 12 E E2) : cR V ad E2 (n, R, rd, rp, rw, tr, fa, la, sz, cl) := by
  obtain ⟨h0, ⟨π, hB⟩, ⟨dn2, wo2, dl2, hA2⟩, ⟨n2, π2, R2, hB2⟩, -, h3, h4, h5, h6, h7⟩ := h
  have hx : ∀ k, k < 14 ∨ 15 < k → E2 k = E k := fun k hk => hX.1 k (by omega) (by omega)
  exact ⟨(hx _ (by omega)).trans h0, ⟨π, hB.eq fun k a b => hx k (by omega)⟩, ⟨dn2, wo2, dl2, hA2.eq (hx _ (by omega)) (hx _ (by omega))⟩, ⟨n2, π2, R2, hB2.ex hX.1⟩, hX.2, (hx _ (by omega)).trans h3, (hx _ (by omega)).trans h4, (hx _ (by omega)).trans h5, fun s hs => ⟨(hx _ (by omega)).trans (h6 s hs).1, (hx _ (by omega)).trans (h6 s hs).2.1, (h6 s hs).2.2⟩, h7⟩
theorem cR.bk {m : Nat} {Rn : Nat → Nat → Int32} (h : cR V ad E (n, R, rd, rp, rw, tr, fa, la, sz, cl)) (hM : bkM V ad 1 E E2 m Rn) : ∃ R', cR V ad E2 (m, R', rd, rp, rw, tr, fa, la, sz, cl) ∧ ∀ i, i < m → R' i = Rn i := by
  obtain ⟨h0, -, ⟨dn, wo, dl, hA⟩, ⟨n2, π2, R2, hB2⟩, ⟨dn2, wo2, dl2, hA2⟩, h3, h4, h5, h6, h7⟩ := h
  obtain ⟨⟨π', R', hB', hR'⟩, a2, a3, hB⟩ := hM
  have hx : ∀ k, k < 1 ∨ 11 < k → E2 k = E k := fun k hk => hB k (by omega)
  exact ⟨R', ⟨(hx _ (by omega)).trans h0, ⟨π', hB'⟩, ⟨dn, wo, dl, hA.eq a2 a3⟩, ⟨n2, π2, R2, hB2.eq fun k a b => hx k (by omega)⟩, ⟨dn2, wo2, dl2, hA2.eq (hx _ (by omega)) (hx _ (by omega))⟩, (hx _ (by omega)).trans h3, (hx _ (by omega)).trans h4, (hx _ (by omega)).trans h5, fun s hs => ⟨(hx _ (by omega)).trans (h6 s hs).1, (hx _ (by omega)).trans (h6 s hs).2.1, (h6 s hs).2.2⟩, h7⟩, hR'⟩
theorem cR.bkD {m : Nat} {Rn : Nat → Nat → Int32} (h : cR V ad E (n, R, rd, rp, rw, tr, fa, la, sz, cl)) (hM : bkM V ad 12 E E2 m Rn) : cR V ad E2 (n, R, rd, rp, rw, tr, fa, la, sz, cl) := by
  obtain ⟨h0, ⟨π, hB⟩, ⟨dn, wo, dl, hA⟩, -, ⟨dn2, wo2, dl2, hA2⟩, h3, h4, h5, h6, h7⟩ := h
  obtain ⟨⟨π', R', hB', hR'⟩, a2, a3, hx0⟩ := hM
  have hx : ∀ k, k < 12 ∨ 22 < k → E2 k = E k := fun k hk => hx0 k (by omega)
  exact ⟨(hx _ (by omega)).trans h0, ⟨π, hB.eq fun k a b => hx k (by omega)⟩, ⟨dn, wo, dl, hA.eq (hx _ (by omega)) (hx _ (by omega))⟩, ⟨m, π', R', hB'⟩, ⟨dn2, wo2, dl2, hA2.eq a2 a3⟩, (hx _ (by omega)).trans h3, (hx _ (by omega)).trans h4, (hx _ (by omega)).trans h5, fun s hs => ⟨(hx _ (by omega)).trans (h6 s hs).1, (hx _ (by omega)).trans (h6 s hs).2.1, (h6 s hs).2.2⟩, h7⟩
theorem cR.rule {π : Nat → Nat} {r : Nat} (h : cR V ad E (n, R, rd, rp, rw, tr, fa, la, sz, cl)) (hB : bkB V ad E 1 n π R) (hr : r < 7) (q : Nat → Int32) : cR V ad (va_up E (1 + 4 + π r) (rC q)) (n, fun i => if i = r then q else R i, rd, rp, rw, tr, fa, la, sz, cl) := by
  obtain ⟨h0, -, ⟨dn, wo, dl, hA⟩, ⟨n2, π2, R2, hB2⟩, ⟨dn2, wo2, dl2, hA2⟩, h3, h4, h5, h6, h7⟩ := h
  have hp := hB.2.2.2.2.1 r hr
  have hx : ∀ k, k < 5 ∨ 11 < k → (va_up E (1 + 4 + π r) (rC q)) k = E k := fun k hk => va_up_ne _ _ (by omega)
  exact ⟨(hx _ (by omega)).trans h0, ⟨π, hB.rule hr q⟩, ⟨dn, wo, dl, hA.eq (hx _ (by omega)) (hx _ (by omega))⟩, ⟨n2, π2, R2, hB2.eq fun k a b => hx k (by omega)⟩, ⟨dn2, wo2, dl2, hA2.eq (hx _ (by omega)) (hx _ (by omega))⟩, (hx _ (by omega)).trans h3, (hx _ (by omega)).trans h4, (hx _ (by omega)).trans h5, fun s hs => ⟨(hx _ (by omega)).trans (h6 s hs).1, (hx _ (by omega)).trans (h6 s hs).2.1, (h6 s hs).2.2⟩, h7⟩
theorem cR.out (h : cR V ad E (n, R, rd, rp, rw, tr, fa, la, sz, cl)) {rp2 rw2 : Nat → Int32} {la2 : Nat → Int32} {sz2 : Nat → Nat} {cl2 : Nat → Nat → Int32} (hx : ∀ k, k < 24 → E2 k = E k) (h4 : E2 24 = gI V 8 rp2) (h5 : E2 25 = gI V 8 rw2) (h6 : ∀ s, s < 4 → E2 (26 + 2 * s) = wC ad (26 + 2 * s) (la2 s) (nI (sz2 s)) ∧ E2 (26 + 2 * s + 1) = gI V 60 (cl2 s) ∧ sz2 s ≤ 60) : cR V ad E2 (n, R, rd, rp2, rw2, tr, fa, la2, sz2, cl2) := by
  obtain ⟨h0, ⟨π, hB⟩, ⟨dn, wo, dl, hA⟩, ⟨n2, π2, R2, hB2⟩, ⟨dn2, wo2, dl2, hA2⟩, h3, -, -, -, h7⟩ := h
  exact ⟨(hx _ (by omega)).trans h0, ⟨π, hB.eq fun k a b => hx k (by omega)⟩, ⟨dn, wo, dl, hA.eq (hx _ (by omega)) (hx _ (by omega))⟩, ⟨n2, π2, R2, hB2.eq fun k a b => hx k (by omega)⟩, ⟨dn2, wo2, dl2, hA2.eq (hx _ (by omega)) (hx _ (by omega))⟩, (hx _ (by omega)).trans h3, h4, h5, h6, h7⟩
/-- one sheet's cells written -/
theorem cR.cells {s : Nat} (h : cR V ad E (n, R, rd, rp, rw, tr, fa, la, sz, cl)) (hs : s < 4) (c : Nat → Int32) : cR V ad (va_up E (26 + 2 * s + 1) (gI V 60 c)) (n, R, rd, rp, rw, tr, fa, la, sz, va_up cl s c) := by
  obtain ⟨-, -, -, -, -, -, h4, h5, h6, -⟩ := id h
  refine h.out (fun k hk => va_up_ne _ _ (by omega)) (by rw [va_up_ne _ _ (by omega)]; exact h4) (by rw [va_up_ne _ _ (by omega)]; exact h5) (fun t ht => ⟨by rw [va_up_ne _ _ (by omega)]; exact (h6 t ht).1, ?_, (h6 t ht).2.2⟩)
  by_cases hts : t = s
  · subst hts
    rw [va_up_self, va_up_self]
  · rw [va_up_ne _ _ (by omega), va_up_ne _ _ hts]
    exact (h6 t ht).2.1
/-- one sheet's lane and size -/
theorem cR.row {s m : Nat} {a : Int32} (h : cR V ad E (n, R, rd, rp, rw, tr, fa, la, sz, cl)) (hs : s < 4) (hm : m ≤ 60) : cR V ad (va_up E (26 + 2 * s) (wC ad (26 + 2 * s) a (nI m))) (n, R, rd, rp, rw, tr, fa, va_up la s a, va_up sz s m, cl) := by
  obtain ⟨-, -, -, -, -, -, h4, h5, h6, -⟩ := id h
  refine h.out (fun k hk => va_up_ne _ _ (by omega)) (by rw [va_up_ne _ _ (by omega)]; exact h4) (by rw [va_up_ne _ _ (by omega)]; exact h5) (fun t ht => ?_)
  by_cases hts : t = s
  · subst hts
    rw [va_up_self, va_up_self, va_up_self, va_up_ne _ _ (by omega)]
    exact ⟨rfl, (h6 t ht).2.1, hm⟩
  · have q := h6 t ht
    rw [va_up_ne la _ hts, va_up_ne sz _ hts]
    exact ⟨(va_up_ne _ _ (by omega)).trans q.1, (va_up_ne _ _ (by omega)).trans q.2.1, q.2.2⟩
end CR
