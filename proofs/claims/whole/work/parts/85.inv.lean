/-! what the law keeps between calls -/
section INV
variable {V : gV} {ad : Nat → Nat} {E E2 : Nat → va_E} {n rd : Nat} {R R2 : Nat → Nat → Int32} {rp rw : Nat → Int32} {tr fa : Int32} {la : Nat → Int32} {sz : Nat → Nat} {cl : Nat → Nat → Int32}
theorem cR.eqv (h : cR V ad E (n, R, rd, rp, rw, tr, fa, la, sz, cl)) (hx : ∀ k, k < 34 → E2 k = E k) : cR V ad E2 (n, R, rd, rp, rw, tr, fa, la, sz, cl) := by
  obtain ⟨h0, ⟨π, hB⟩, ⟨dn, wo, dl, hA⟩, ⟨n2, π2, R2, hB2⟩, ⟨dn2, wo2, dl2, hA2⟩, h3, h4, h5, h6, h7⟩ := h
  exact ⟨(hx _ (by omega)).trans h0, ⟨π, hB.eq fun k a b => hx k (by omega)⟩, ⟨dn, wo, dl, hA.eq (hx _ (by omega)) (hx _ (by omega))⟩, ⟨n2, π2, R2, hB2.eq fun k a b => hx k (by omega)⟩, ⟨dn2, wo2, dl2, hA2.eq (hx _ (by omega)) (hx _ (by omega))⟩, (hx _ (by omega)).trans h3, (hx _ (by omega)).trans h4, (hx _ (by omega)).trans h5, fun s hs => ⟨(hx _ (by omega)).trans (h6 s hs).1, (hx _ (by omega)).trans (h6 s hs).2.1, (h6 s hs).2.2⟩, h7⟩
theorem mR.eqv (h : mR V ad E (n, R, rd, rp, rw, tr, fa, la, sz, cl)) (hx : ∀ k, 34 ≤ k → E2 k = E k) : mR V ad E2 (n, R, rd, rp, rw, tr, fa, la, sz, cl) := by
  obtain ⟨at1, rr, dn, wo, so, sl, ce, pa, rz, dl, ke, p2, w2, ⟨m0, g35, g36, g37, g38, g39, g40, g41, g42, g43, m3⟩, hrest⟩ := h
  exact ⟨at1, rr, dn, wo, so, sl, ce, pa, rz, dl, ke, p2, w2, ⟨(hx _ (by omega)).trans m0, (hx _ (by omega)).trans g35, (hx _ (by omega)).trans g36, (hx _ (by omega)).trans g37, (hx _ (by omega)).trans g38, (hx _ (by omega)).trans g39, (hx _ (by omega)).trans g40, (hx _ (by omega)).trans g41, (hx _ (by omega)).trans g42, (hx _ (by omega)).trans g43, m3⟩, hrest⟩
theorem mR.ru (h : mR V ad E (n, R, rd, rp, rw, tr, fa, la, sz, cl)) (hr : ∀ i, i < n → R2 i = R i) : mR V ad E (n, R2, rd, rp, rw, tr, fa, la, sz, cl) := by
  obtain ⟨at1, rr, dn, wo, so, sl, ce, pa, rz, dl, ke, p2, w2, hC, h8, hag, hrest⟩ := h
  exact ⟨at1, rr, dn, wo, so, sl, ce, pa, rz, dl, ke, p2, w2, hC, h8, fun i hi j hj => by rw [hr i hi]; exact hag i hi j hj, hrest⟩
theorem sOk.ru (h : sOk n R) (hr : ∀ i, i < n → R2 i = R i) : sOk n R2 := fun i hi => by
  rw [hr i hi]
  exact h i hi
theorem cR.n7 (h : cR V ad E (n, R, rd, rp, rw, tr, fa, la, sz, cl)) : n ≤ 7 := h.2.1.choose_spec.2.2.2.1
theorem sOk.number (h : sOk n R) (r v : Int32) : sOk n (rNumber n R r v) := by
  intro i hi
  unfold rNumber
  by_cases c : (0 ≤ r ∧ r < nI n) ∧ (1 ≤ v ∧ v ≤ 9)
  · rw [if_pos c]
    split
    · exact sNum_ok (h i hi) c.2
    · exact h i hi
  · rw [if_neg c]
    exact h i hi
theorem sOk.swap (h : sOk n R) (hn : n ≤ 7) (r : Int32) : sOk n (rSwap n R r) := by
  unfold rSwap
  by_cases c : 0 ≤ r ∧ r < nI n - 1
  · rw [if_pos c]
    by_cases hz : n = 0
    · subst hz
      exact fun i hi => absurd hi (Nat.not_lt_zero i)
    · rw [show nI n - 1 = nI (n - 1) from pk_sub (b := 1) (by omega)] at c
      obtain ⟨j, hj, rfl⟩ := gIx (Int32.not_lt.mpr c.1) c.2 (by omega)
      rw [ix_nI (by omega)]
      exact sSwap_ok h (by omega)
  · rw [if_neg c]
    exact h
theorem sOk.remove (h : sOk n R) (r : Int32) : sOk (nRemove n r) (rRemove n R r) := by
  unfold nRemove rRemove
  by_cases c : 0 ≤ r ∧ r < nI n
  · rw [if_pos c, if_pos c]
    by_cases c1 : n = 1
    · rw [if_pos c1, if_pos c1]
      exact h
    · rw [if_neg c1, if_neg c1]
      exact sDel_ok h
  · rw [if_neg c, if_neg c]
    exact h
theorem i3 {x : Int32} (h : 0 ≤ x ∧ x ≤ 2) : x = 0 ∨ x = 1 ∨ x = 2 := by
  obtain ⟨j, hj, rfl⟩ := gIe (n := 2) h.1 h.2 (by omega)
  rcases (show j = 0 ∨ j = 1 ∨ j = 2 by omega) with rfl | rfl | rfl
  · exact Or.inl rfl
  · exact Or.inr (Or.inl rfl)
  · exact Or.inr (Or.inr rfl)
theorem sOk.insert (h : sOk n R) (hn : n ≤ 7) (k kd de nu lo hi : Int32) : sOk (nInsert n k kd de nu lo hi) (rInsert n R k kd de nu lo hi) := by
  unfold nInsert rInsert
  by_cases c0 : n = 0
  · rw [if_pos c0, if_pos c0]
    exact h
  · rw [if_neg c0, if_neg c0]
    by_cases c1 : okIns n k kd de nu lo hi
    · rw [okInsD_t c1, if_pos rfl, if_pos rfl]
      by_cases c2 : n = 7
      · rw [if_pos c2, if_pos c2]
        exact h
      · rw [if_neg c2, if_neg c2]
        obtain ⟨ck, ckd, cde, cnu, clo, chi⟩ := c1
        obtain ⟨j, hj, rfl⟩ := gIe ck.1 ck.2 (by omega)
        rw [ix_nI (by omega)]
        intro i hi2
        unfold sIns
        split
        · exact h i (by omega)
        · split
          · exact ⟨i3 ckd, i3 cde, cnu⟩
          · exact h (i - 1) (by omega)
    · rw [okInsD_f c1]
      exact h
theorem sKd_ok {c : Int32} (h : sKd c ≠ -9) : sKd c = 0 ∨ sKd c = 1 ∨ sKd c = 2 := by
  unfold sKd at h ⊢
  by_cases h1 : c = 66
  · rw [if_pos h1]; exact Or.inr (Or.inl rfl)
  · rw [if_neg h1] at h ⊢
    by_cases h2 : c = 80
    · rw [if_pos h2]; exact Or.inl rfl
    · rw [if_neg h2] at h ⊢
      by_cases h3 : c = 87
      · rw [if_pos h3]; exact Or.inr (Or.inr rfl)
      · rw [if_neg h3] at h; exact absurd rfl h
theorem sDd_ok {c : Int32} (h : sDd c ≠ -9) : sDd c = 0 ∨ sDd c = 1 ∨ sDd c = 2 := by
  unfold sDd at h ⊢
  by_cases h1 : c = 68
  · rw [if_pos h1]; exact Or.inr (Or.inl rfl)
  · rw [if_neg h1] at h ⊢
    by_cases h2 : c = 71
    · rw [if_pos h2]; exact Or.inl rfl
    · rw [if_neg h2] at h ⊢
      by_cases h3 : c = 74
      · rw [if_pos h3]; exact Or.inr (Or.inr rfl)
      · rw [if_neg h3] at h; exact absurd rfl h
theorem nu_ok {c : Int32} (h : 49 ≤ c ∧ c ≤ 57) : 1 ≤ c - 48 ∧ c - 48 ≤ 9 := by
  obtain ⟨j, hj, rfl⟩ := gIe (n := 57) (Int32.le_trans (by decide) h.1) h.2 (by omega)
  have a := (nle (a := 49) (by omega) (by omega)).mp h.1
  rw [show nI j - 48 = nI (j - 48) from pk_sub (b := 48) (by omega)]
  exact ⟨(nle (a := 1) (by omega) (by omega)).mpr (by omega), (nle (b := 9) (by omega) (by omega)).mpr (by omega)⟩
theorem sTx_ok {c : Nat → Int32} {m r : Nat} (hg : ∀ p, p < m → sGo c p) (h : 6 * r + 6 < m) (hr : r < 7) : rOk (sTx c r) := by
  refine ⟨?_, ?_, ?_⟩
  · exact sKd_ok ((sGo_2 hr).mp (hg _ (by omega)))
  · exact sDd_ok ((sGo_3 hr).mp (hg _ (by omega)))
  · exact nu_ok ((sGo_4 hr).mp (hg _ (by omega)))
theorem sOk.rules (h : sOk n R) (hsz : ∀ s, s < 4 → sz s ≤ 60) (k a i m : Int32) : sOk (nRules n la sz cl k a i m) (rRules R la sz cl k a i m) := by
  unfold nRules rRules
  by_cases c : bRules la sz cl k a i m
  · rw [bRulesD_t c, if_pos rfl, if_pos rfl]
    obtain ⟨ck, ca, c1, c2, c3, c4⟩ := c
    obtain ⟨j, hj, rfl⟩ := gIe (n := 3) ck.1 ck.2 (by omega)
    rw [ix_nI (by omega)] at c3
    obtain ⟨a0, b0, rfl, rfl, hab⟩ := sHc_nat (hsz j (by omega)) c3
    have hs := hsz j (by omega)
    rw [ix_nI (j := b0) (by omega)] at c4 ⊢
    obtain ⟨hg, q, hq, hq1, hq7⟩ := sFault_ok (by omega) c4
    intro i hi
    exact sTx_ok hg (by omega) (by omega)
  · rw [bRulesD_f c]
    exact h
theorem lOk.lose (h : lOk la) (k : Int32) : lOk (lLose la k) := by
  intro s hs
  unfold lLose
  by_cases c : 0 ≤ k ∧ k ≤ 3
  · rw [if_pos c]
    unfold va_up
    split
    · exact Or.inl rfl
    · exact h s hs
  · rw [if_neg c]
    exact h s hs
theorem lOk.sheet (h : lOk la) (k a m : Int32) : lOk (lSheet la k a m) := by
  intro s hs
  unfold lSheet
  by_cases c : bSheet k a m
  · rw [bSheetD_t c, if_pos rfl]
    unfold va_up
    split
    · exact Or.inr (i3 c.2.1.1)
    · exact h s hs
  · rw [bSheetD_f c]
    exact h s hs
theorem cR.s60 (h : cR V ad E (n, R, rd, rp, rw, tr, fa, la, sz, cl)) : ∀ s, s < 4 → sz s ≤ 60 := fun s hs => (h.2.2.2.2.2.2.2.2.1 s hs).2.2
/-- the invariant -/
def lI (V : gV) (ad : Nat → Nat) (E : Nat → va_E) : Prop := ∃ (n : Nat) (R : Nat → Nat → Int32) (rd : Nat) (rp rw : Nat → Int32) (tr fa : Int32) (la : Nat → Int32) (sz : Nat → Nat) (cl : Nat → Nat → Int32), cR V ad E (n, R, rd, rp, rw, tr, fa, la, sz, cl) ∧ mR V ad E (n, R, rd, rp, rw, tr, fa, la, sz, cl) ∧ sOk n R ∧ lOk la
end INV
section GLAW
variable {l : Launch} {rm : Room} {K : gX} {V : gV} {cc : ByteArray} {nL : Nat} {own : String} {ret : Option FieldType} {nm : String} {Q : State → Prop} {ad : Nat → Nat} {N cells slots pc : Nat} {lv : List (Nat × Value)} {st : List Value} {E : Nat → va_E}
/-- the script, read -/
def lX (K : gX) (V : gV) (b L : Nat) (xs : Nat → Int32) : Prop := va_X b L xs (gs K) (gs K).heap ∧ b < (gs K).heap.size ∧ ¬ V.2.2 ≤ b
theorem G_sld {b L j : Nat} {xs : Nat → Int32} {i : Int32} (hk : gOk l rm K V cc nL own ret nm) (hX : lX K V b L xs) (hd : decode cc pc = .ok (.iaload, 1)) (hi : i = nI j) (hj : j < L) (hL : L < 100000) (kk : G K V nL Q ad N cells slots (pc + 1) lv (.int (xs j) :: st) E) : G K V nL Q ad N cells slots pc lv (.int i :: .ref b :: st) E := by
  obtain ⟨hl0, hR, hx, hb, hml, hown, hts, hr, hnm, hlk, hK, hbs, hns⟩ := hk
  subst hi
  intro H locs ls hP hz hS hl
  refine va_sld hx hb hX.1 hX.2.1 hX.2.2 hS (vp_in_nI hj (by omega)) hd ?_
  rw [nI_clamp (by omega)]
  exact kk H locs ls hP hz hS hl
theorem G_slen {b L : Nat} {xs : Nat → Int32} (hk : gOk l rm K V cc nL own ret nm) (hX : lX K V b L xs) (hd : decode cc pc = .ok (.arraylength, 1)) (kk : G K V nL Q ad N cells slots (pc + 1) lv (.int (nI L) :: st) E) : G K V nL Q ad N cells slots pc lv (.ref b :: st) E := by
  obtain ⟨hl0, hR, hx, hb, hml, hown, hts, hr, hnm, hlk, hK, hbs, hns⟩ := hk
  intro H locs ls hP hz hS hl
  exact va_slen hx hb hX.1 hX.2.1 hX.2.2 hS hd (kk H locs ls hP hz hS hl)
end GLAW
theorem lg_cmp_self (x : Int64) : lg_cmp x x = 0 := by
  unfold lg_cmp
  simp
