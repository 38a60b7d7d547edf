set_option maxHeartbeats 4000000 in
set_option maxRecDepth 100000 in
theorem c_X5_cell (l : Launch) (V : gV) (ad : Nat → Nat) (E : Nat → va_E) (n rd : Nat) (R : Nat → Nat → Int32) (rp rw : Nat → Int32) (tr fa : Int32) (la : Nat → Int32) (sz : Nat → Nat) (cl : Nat → Nat → Int32) (hC : cR V ad E (n, R, rd, rp, rw, tr, fa, la, sz, cl)) (k i a : Int32) : Ct l V ad 44 44 yX5_cell cX5_cell 5 (some .long) { frames := 2, cells := 0, slots := 0, locals := 42 } [.ref (ad 0), .int k, .int i, .int a] E (pJ ad (fun z E2 => z = vCell la sz cl k i a ∧ cR V ad E2 (n, R, rd, rp, rw, tr, fCell la sz k i a, la, sz, cl) ∧ fr E E2)) := by
  refine gCt mX5_cell (Nat.le_of_ble_eq_true rfl) ?_
  intro K hk
  obtain ⟨h0, ⟨π, hB⟩, ⟨dn, wo, dl, hA⟩, ⟨n2, π2, R2, hB2⟩, ⟨dn2, wo2, dl2, hA2⟩, h3, h4, h5, h6, h7⟩ := id hC
  obtain ⟨b0, b1, b2, b3, b4, b5, -⟩ := id hB
  obtain ⟨a0, a1⟩ := id hA
  have hn0 : nI n = 0 ↔ n = 0 := neq (b := 0) (by omega) (by omega)
  refine G_aload_n (i := 0) hk dX5_cell_0 rfl rfl ?_
  refine G_iconst (v := 0) hk dX5_cell_1 (by decide) ?_
  refine G_put hk fX5_35 iX5_7 dX5_cell_2 (by assumption) (Nat.le_of_ble_eq_true rfl) (by first | decide | omega) ?_
  refine G_E (E2 := va_up E 0 (oC ad (nI rd) tr 0)) rfl ?_
  have hC1 := hC.sc (tr2 := tr) (fa2 := 0) h7
  have f1 : fr E (va_up E 0 (oC ad (nI rd) tr 0)) := fr.up (by omega)
  generalize va_up E 0 (oC ad (nI rd) tr 0) = E1 at hC1 f1 ⊢
  clear h0 hB hA hB2 hA2 h3 h4 h5 h6 b0 b1 b2 b4 b5 a0 a1 hC
  obtain ⟨h0, ⟨π, hB⟩, ⟨dn, wo, dl, hA⟩, ⟨n2, π2, R2, hB2⟩, ⟨dn2, wo2, dl2, hA2⟩, h3, h4, h5, h6, h7⟩ := id hC1
  obtain ⟨b0, b1, b2, b3, b4, b5, -⟩ := id hB
  refine G_iload_n (i := 1) hk dX5_cell_5 rfl rfl ?_
  refine G_cSi hk (c_X5_isSheet l V ad E1 k) mX5_isSheet sX5_isSheet kX5_39 dX5_cell_6 rfl (by decide) (by decide) rfl (Nat.le_of_ble_eq_true rfl) (fun r_6 E_6 h_6 => ?_)
  obtain ⟨rfl, rfl⟩ := h_6
  refine G_if_eq (tgt := 21) hk dX5_cell_9 (by decide) (fun c_9 => ?_) (fun c_9 => ?_)
  · try simp only [gB_ne, gB_eq, Decidable.not_not] at c_9
    refine G_ldc2 (v := sLost) hk jcX5_186 dX5_cell_21 ?_
    refine G_lret hk dX5_cell_24 ?_
    first | exact ⟨by unfold vCell; rw [if_neg (fun z => c_9 z.1)], by unfold fCell; rw [if_neg (fun z => c_9 z.1)]; exact hC1, f1⟩ | exact ⟨by unfold vCell; rw [if_neg (fun z => c_18 z.2)], by unfold fCell; rw [if_neg (fun z => c_18 z.2)]; exact hC1, f1⟩
  · try simp only [gB_ne, gB_eq, Decidable.not_not] at c_9
    refine G_iload_n (i := 3) hk dX5_cell_12 rfl rfl ?_
    refine G_iconst (v := 0) hk dX5_cell_13 (by decide) ?_
    refine G_iconst (v := 2) hk dX5_cell_14 (by decide) ?_
    refine G_cSi hk (c_X5_isIn l V ad E1 a 0 2) mX5_isIn sX5_isIn kX5_43 dX5_cell_15 rfl (by decide) (by decide) rfl (Nat.le_of_ble_eq_true rfl) (fun r_15 E_15 h_15 => ?_)
    obtain ⟨rfl, rfl⟩ := h_15
    refine G_if_ne (tgt := 25) hk dX5_cell_18 (by decide) (fun c_18 => ?_) (fun c_18 => ?_)
    · try simp only [gB_ne, gB_eq, Decidable.not_not] at c_18
      obtain ⟨j, hj, rfl⟩ := gIe (n := 3) c_9.1 c_9.2 (by omega)
      have hixj : ix (nI j) = j := ix_nI (by omega)
      obtain ⟨s0j, s1j, s2j⟩ := h6 j (by omega)
      have hc1 : sHc (sz j) i 1 ↔ (0 ≤ i ∧ i < nI (sz j)) := sHc1 s2j
      refine G_aload_n (i := 0) hk dX5_cell_25 rfl rfl ?_
      refine G_get hk fX5_23 dX5_cell_26 (by assumption) (by rfl) (by first | decide | omega) ?_
      refine G_iload_n (i := 1) hk dX5_cell_29 rfl rfl ?_
      refine G_aaldRwX (j := j) hk dX5_cell_30 (by assumption) rfl (by omega) (by decide) (by rfl) (by first | decide | omega) ?_
      refine G_astore hk dX5_cell_31 (by decide) rfl ?_
      refine G_aload_n (i := 0) hk dX5_cell_33 rfl rfl ?_
      refine G_aload hk dX5_cell_34 rfl ?_
      refine G_iload_n (i := 3) hk dX5_cell_36 rfl rfl ?_
      refine G_cVi hk (c_X2_faultAs l V ad E1 (26 + 2 * j) (by omega) (la j) (nI (sz j)) a s0j) mX2_faultAs vX2_faultAs kX5_47 dX5_cell_37 (by assumption) (by rfl) (by first | decide | omega) rfl (by decide) (by decide) rfl (Nat.le_of_ble_eq_true rfl) (fun r_37 E_37 h_37 => ?_)
      obtain ⟨rfl, e37⟩ := h_37
      have e37 : r_37 = sFas (la j) a := e37
      subst e37
      refine G_put hk fX5_35 iX5_7 dX5_cell_40 (by assumption) (Nat.le_of_ble_eq_true rfl) (by first | decide | omega) ?_
      refine G_E (E2 := va_up E1 0 (oC ad (nI rd) tr (sFas (la j) a))) rfl ?_
      have hC2 := hC1.sc (tr2 := tr) (fa2 := sFas (la j) a) h7
      have f2 := f1.tr (fr.up (k := 0) (c := oC ad (nI rd) tr (sFas (la j) a)) (by omega))
      generalize va_up E1 0 (oC ad (nI rd) tr (sFas (la j) a)) = E2 at hC2 f2 ⊢
      clear h0 hB hA hB2 hA2 h3 h4 h5 h6 b0 b1 b2 b4 b5 s0j s1j
      obtain ⟨h0, -, -, -, -, h3, h4, h5, h6, h7⟩ := id hC2
      obtain ⟨s0j, s1j, s2j⟩ := h6 j (by omega)
      refine G_aload_n (i := 0) hk dX5_cell_43 rfl rfl ?_
      refine G_get hk fX5_35 dX5_cell_44 (by assumption) (by rfl) (by first | decide | omega) ?_
      refine G_if_ne (tgt := 65) hk dX5_cell_47 (by decide) (fun c_47 => ?_) (fun c_47 => ?_)
      · try simp only [gB_ne, gB_eq, Decidable.not_not] at c_47
        refine G_aload_n (i := 0) hk dX5_cell_65 rfl rfl ?_
        refine G_get hk fX5_35 dX5_cell_66 (by assumption) (by rfl) (by first | decide | omega) ?_
        refine G_if_ne (tgt := 82) hk dX5_cell_69 (by decide) (fun c_69 => ?_) (fun c_69 => ?_)
        · try simp only [gB_ne, gB_eq, Decidable.not_not] at c_69
          refine G_ldc2 (v := sLost) hk jcX5_186 dX5_cell_82 ?_
          refine G_lret hk dX5_cell_85 ?_
          exact ⟨by unfold vCell; rw [hixj, if_pos ⟨c_9, c_18⟩, if_neg c_47], by unfold fCell; rw [hixj, if_pos ⟨c_9, c_18⟩, if_neg c_47]; exact hC2, f2⟩
        · try simp only [gB_ne, gB_eq, Decidable.not_not] at c_69
          exact absurd c_69 c_47
      · try simp only [gB_ne, gB_eq, Decidable.not_not] at c_47
        have c_47 : sFas (la j) a = 0 := by first | exact c_47 | exact Decidable.not_not.mp c_47
        refine G_aload hk dX5_cell_50 rfl ?_
        refine G_iload_n (i := 2) hk dX5_cell_52 rfl rfl ?_
        refine G_iconst (v := 1) hk dX5_cell_53 (by decide) ?_
        refine G_cVi hk (c_X2_hasCells l V ad E2 (26 + 2 * j) (by omega) (la j) (nI (sz j)) i 1 s0j) mX2_hasCells vX2_hasCells kX5_54 dX5_cell_54 (by assumption) (by rfl) (by first | decide | omega) rfl (by decide) (by decide) rfl (Nat.le_of_ble_eq_true rfl) (fun r_54 E_54 h_54 => ?_)
        obtain ⟨rfl, rfl⟩ := h_54
        refine G_if_ne (tgt := 65) hk dX5_cell_57 (by decide) (fun c_57 => ?_) (fun c_57 => ?_)
        · try simp only [gB_ne, gB_eq, Decidable.not_not] at c_57
          have hi := hc1.mp c_57
          obtain ⟨t, ht, rfl⟩ := gIx (Int32.not_lt.mpr hi.1) hi.2 (by omega)
          have hixt : ix (nI t) = t := ix_nI (by omega)
          refine G_aload_n (i := 0) hk dX5_cell_65 rfl rfl ?_
          refine G_get hk fX5_35 dX5_cell_66 (by assumption) (by rfl) (by first | decide | omega) ?_
          refine G_if_ne (tgt := 82) hk dX5_cell_69 (by decide) (fun c_69 => ?_) (fun c_69 => ?_)
          · try simp only [gB_ne, gB_eq, Decidable.not_not] at c_69
            exact absurd c_47 c_69
          · try simp only [gB_ne, gB_eq, Decidable.not_not] at c_69
            refine G_aload hk dX5_cell_72 rfl ?_
            refine G_iload_n (i := 2) hk dX5_cell_74 rfl rfl ?_
            refine G_cVi hk (c_X2_read l V ad E2 (26 + 2 * j) (by omega) (la j) (sz j) s2j (cl j) s0j s1j t ht) mX2_read vX2_read kX5_208 dX5_cell_75 (by assumption) (by rfl) (by first | decide | omega) rfl (by decide) (by decide) rfl (Nat.le_of_ble_eq_true rfl) (fun r_75 E_75 h_75 => ?_)
            obtain ⟨rfl, rfl⟩ := h_75
            refine G_i2l hk dX5_cell_78 ?_
            refine G_goto (tgt := 85) hk dX5_cell_79 (by decide) ?_
            refine G_lret hk dX5_cell_85 ?_
            exact ⟨by unfold vCell; rw [hixj, if_pos ⟨c_9, c_18⟩, if_pos c_47, hixt, if_pos hi], by unfold fCell; rw [hixj, if_pos ⟨c_9, c_18⟩, if_pos c_47, if_pos hi]; rw [c_47] at hC2; exact hC2, f2⟩
        · try simp only [gB_ne, gB_eq, Decidable.not_not] at c_57
          have hi : ¬ (0 ≤ i ∧ i < nI (sz j)) := fun z => c_57 (hc1.mpr z)
          refine G_aload_n (i := 0) hk dX5_cell_60 rfl rfl ?_
          refine G_iconst (v := 3) hk dX5_cell_61 (by decide) ?_
          refine G_put hk fX5_35 iX5_7 dX5_cell_62 (by assumption) (Nat.le_of_ble_eq_true rfl) (by first | decide | omega) ?_
          refine G_E (E2 := va_up E2 0 (oC ad (nI rd) tr 3)) rfl ?_
          have hC3 := hC2.sc (tr2 := tr) (fa2 := 3) h7
          have f3 := f2.tr (fr.up (k := 0) (c := oC ad (nI rd) tr 3) (by omega))
          have z0 := va_up_self E2 0 (oC ad (nI rd) tr 3)
          refine G_aload_n (i := 0) hk dX5_cell_65 rfl rfl ?_
          refine G_get hk fX5_35 dX5_cell_66 (by assumption) (by rfl) (by first | decide | omega) ?_
          refine G_if_ne (tgt := 82) hk dX5_cell_69 (by decide) (fun c_69 => ?_) (fun c_69 => ?_)
          · try simp only [gB_ne, gB_eq, Decidable.not_not] at c_69
            refine G_ldc2 (v := sLost) hk jcX5_186 dX5_cell_82 ?_
            refine G_lret hk dX5_cell_85 ?_
            exact ⟨by unfold vCell; rw [hixj, if_pos ⟨c_9, c_18⟩, if_pos c_47, if_neg hi], by unfold fCell; rw [hixj, if_pos ⟨c_9, c_18⟩, if_pos c_47, if_neg hi]; exact hC3, f3⟩
          · try simp only [gB_ne, gB_eq, Decidable.not_not] at c_69
            exact absurd c_69 (by decide)
    · try simp only [gB_ne, gB_eq, Decidable.not_not] at c_18
      refine G_ldc2 (v := sLost) hk jcX5_186 dX5_cell_21 ?_
      refine G_lret hk dX5_cell_24 ?_
      first | exact ⟨by unfold vCell; rw [if_neg (fun z => c_9 z.1)], by unfold fCell; rw [if_neg (fun z => c_9 z.1)]; exact hC1, f1⟩ | exact ⟨by unfold vCell; rw [if_neg (fun z => c_18 z.2)], by unfold fCell; rw [if_neg (fun z => c_18 z.2)]; exact hC1, f1⟩

set_option maxHeartbeats 4000000 in
set_option maxRecDepth 100000 in
theorem c_X5_copy (l : Launch) (V : gV) (ad : Nat → Nat) (E : Nat → va_E) (n rd : Nat) (R : Nat → Nat → Int32) (rp rw : Nat → Int32) (tr fa : Int32) (la : Nat → Int32) (sz : Nat → Nat) (cl : Nat → Nat → Int32) (hC : cR V ad E (n, R, rd, rp, rw, tr, fa, la, sz, cl)) (k i q jj m : Int32) : Ct l V ad 44 44 yX5_copy cX5_copy 8 (some .int) { frames := 2, cells := 0, slots := 0, locals := 60 } [.ref (ad 0), .int k, .int i, .int q, .int jj, .int m] E (pI ad (fun v E2 => v = vCopy la sz k i q jj m ∧ cR V ad E2 (n, R, rd, rp, rw, tr, fCopy la sz k i q jj m, la, sz, cCopy la sz cl k i q jj m) ∧ fr E E2)) := by
  refine gCt mX5_copy (Nat.le_of_ble_eq_true rfl) ?_
  intro K hk
  obtain ⟨h0, ⟨π, hB⟩, ⟨dn, wo, dl, hA⟩, ⟨n2, π2, R2, hB2⟩, ⟨dn2, wo2, dl2, hA2⟩, h3, h4, h5, h6, h7⟩ := id hC
  obtain ⟨b0, b1, b2, b3, b4, b5, -⟩ := id hB
  obtain ⟨a0, a1⟩ := id hA
  have hn0 : nI n = 0 ↔ n = 0 := neq (b := 0) (by omega) (by omega)
  refine G_aload_n (i := 0) hk dX5_copy_0 rfl rfl ?_
  refine G_iconst (v := 0) hk dX5_copy_1 (by decide) ?_
  refine G_put hk fX5_35 iX5_7 dX5_copy_2 (by assumption) (Nat.le_of_ble_eq_true rfl) (by first | decide | omega) ?_
  refine G_E (E2 := va_up E 0 (oC ad (nI rd) tr 0)) rfl ?_
  have hC1 := hC.sc (tr2 := tr) (fa2 := 0) h7
  have f1 : fr E (va_up E 0 (oC ad (nI rd) tr 0)) := fr.up (by omega)
  generalize va_up E 0 (oC ad (nI rd) tr 0) = E1 at hC1 f1 ⊢
  clear h0 hB hA hB2 hA2 h3 h4 h5 h6 b0 b1 b2 b4 b5 a0 a1 hC
  obtain ⟨h0, ⟨π, hB⟩, ⟨dn, wo, dl, hA⟩, ⟨n2, π2, R2, hB2⟩, ⟨dn2, wo2, dl2, hA2⟩, h3, h4, h5, h6, h7⟩ := id hC1
  obtain ⟨b0, b1, b2, b3, b4, b5, -⟩ := id hB
  refine G_iload_n (i := 1) hk dX5_copy_5 rfl rfl ?_
  refine G_cSi hk (c_X5_isSheet l V ad E1 k) mX5_isSheet sX5_isSheet kX5_39 dX5_copy_6 rfl (by decide) (by decide) rfl (Nat.le_of_ble_eq_true rfl) (fun r_6 E_6 h_6 => ?_)
  obtain ⟨rfl, rfl⟩ := h_6
  refine G_if_eq (tgt := 19) hk dX5_copy_9 (by decide) (fun c_9 => ?_) (fun c_9 => ?_)
  · try simp only [gB_ne, gB_eq, Decidable.not_not] at c_9
    refine G_iconst (v := (-1)) hk dX5_copy_19 (by decide) ?_
    refine G_iret hk dX5_copy_20 ?_
    first | exact ⟨by unfold vCopy; rw [if_neg (fun z => c_9 z.1)], by unfold fCopy cCopy; rw [if_neg (fun z => c_9 z.1), if_neg (fun z => c_9 z.1)]; exact hC1, f1⟩ | exact ⟨by unfold vCopy; rw [if_neg (fun z => c_16 z.2)], by unfold fCopy cCopy; rw [if_neg (fun z => c_16 z.2), if_neg (fun z => c_16 z.2)]; exact hC1, f1⟩
  · try simp only [gB_ne, gB_eq, Decidable.not_not] at c_9
    refine G_iload_n (i := 3) hk dX5_copy_12 rfl rfl ?_
    refine G_cSi hk (c_X5_isSheet l V ad E1 q) mX5_isSheet sX5_isSheet kX5_39 dX5_copy_13 rfl (by decide) (by decide) rfl (Nat.le_of_ble_eq_true rfl) (fun r_13 E_13 h_13 => ?_)
    obtain ⟨rfl, rfl⟩ := h_13
    refine G_if_ne (tgt := 21) hk dX5_copy_16 (by decide) (fun c_16 => ?_) (fun c_16 => ?_)
    · try simp only [gB_ne, gB_eq, Decidable.not_not] at c_16
      obtain ⟨j, hj, rfl⟩ := gIe (n := 3) c_9.1 c_9.2 (by omega)
      have hixj : ix (nI j) = j := ix_nI (by omega)
      obtain ⟨s0j, s1j, s2j⟩ := h6 j (by omega)
      obtain ⟨t, ht, rfl⟩ := gIe (n := 3) c_16.1 c_16.2 (by omega)
      have hixt : ix (nI t) = t := ix_nI (by omega)
      obtain ⟨s0t, s1t, s2t⟩ := h6 t (by omega)
      have hkq : (0 ≤ nI j ∧ nI j ≤ 3) ∧ (0 ≤ nI t ∧ nI t ≤ 3) := ⟨c_9, c_16⟩
      refine G_aload_n (i := 0) hk dX5_copy_21 rfl rfl ?_
      refine G_get hk fX5_23 dX5_copy_22 (by assumption) (by rfl) (by first | decide | omega) ?_
      refine G_iload_n (i := 1) hk dX5_copy_25 rfl rfl ?_
      refine G_aaldRwX (j := j) hk dX5_copy_26 (by assumption) rfl (by omega) (by decide) (by rfl) (by first | decide | omega) ?_
      refine G_astore hk dX5_copy_27 (by decide) rfl ?_
      refine G_aload_n (i := 0) hk dX5_copy_29 rfl rfl ?_
      refine G_get hk fX5_23 dX5_copy_30 (by assumption) (by rfl) (by first | decide | omega) ?_
      refine G_iload_n (i := 3) hk dX5_copy_33 rfl rfl ?_
      refine G_aaldRwX (j := t) hk dX5_copy_34 (by assumption) rfl (by omega) (by decide) (by rfl) (by first | decide | omega) ?_
      refine G_astore hk dX5_copy_35 (by decide) rfl ?_
      refine G_aload hk dX5_copy_37 rfl ?_
      refine G_cVi hk (c_X2_isNothing l V ad E1 (26 + 2 * j) (by omega) (la j) (nI (sz j)) s0j) mX2_isNothing vX2_isNothing kX5_199 dX5_copy_39 (by assumption) (by rfl) (by first | decide | omega) rfl (by decide) (by decide) rfl (Nat.le_of_ble_eq_true rfl) (fun r_39 E_39 h_39 => ?_)
      obtain ⟨rfl, rfl⟩ := h_39
      refine G_if_ne (tgt := 53) hk dX5_copy_42 (by decide) (fun c_42 => ?_) (fun c_42 => ?_)
      · try simp only [gB_ne, gB_eq, Decidable.not_not] at c_42
        have hnn : la j = -1 ∨ la t = -1 := Or.inl c_42
        refine G_aload_n (i := 0) hk dX5_copy_53 rfl rfl ?_
        refine G_iconst (v := 1) hk dX5_copy_54 (by decide) ?_
        refine G_cVi hk (c_X5_faulted l V ad E1 n rd R rp rw tr 0 la sz cl hC1 1) mX5_faulted vX5_faulted kX5_51 dX5_copy_55 (by assumption) (by rfl) (by first | decide | omega) rfl (by decide) (by decide) rfl (Nat.le_of_ble_eq_true rfl) (fun r_55 E_55 h_55 => ?_)
        obtain ⟨rfl, hCf, xf⟩ := h_55
        refine G_iret hk dX5_copy_58 ?_
        exact ⟨by unfold vCopy; rw [hixj, hixt, if_pos hkq, if_pos hnn]; rfl, by unfold fCopy cCopy; rw [hixj, hixt, if_pos hkq, if_pos hkq, if_pos hnn, if_pos hnn]; exact hCf, f1.tr xf⟩
      · try simp only [gB_ne, gB_eq, Decidable.not_not] at c_42
        refine G_aload hk dX5_copy_45 rfl ?_
        refine G_cVi hk (c_X2_isNothing l V ad E1 (26 + 2 * t) (by omega) (la t) (nI (sz t)) s0t) mX2_isNothing vX2_isNothing kX5_199 dX5_copy_47 (by assumption) (by rfl) (by first | decide | omega) rfl (by decide) (by decide) rfl (Nat.le_of_ble_eq_true rfl) (fun r_47 E_47 h_47 => ?_)
        obtain ⟨rfl, rfl⟩ := h_47
        refine G_if_eq (tgt := 59) hk dX5_copy_50 (by decide) (fun c_50 => ?_) (fun c_50 => ?_)
        · try simp only [gB_ne, gB_eq, Decidable.not_not] at c_50
          have hnn : ¬ (la j = -1 ∨ la t = -1) := fun z => z.elim c_42 c_50
          refine G_aload hk dX5_copy_59 rfl ?_
          refine G_get hk fX5_211 dX5_copy_61 (by assumption) (by rfl) (by first | decide | omega) ?_
          refine G_aload hk dX5_copy_64 rfl ?_
          refine G_get hk fX5_211 dX5_copy_66 (by assumption) (by rfl) (by first | decide | omega) ?_
          refine G_icmp_eq (tgt := 78) hk dX5_copy_69 (by decide) (fun c_69 => ?_) (fun c_69 => ?_)
          · try simp only [gB_ne, gB_eq, Decidable.not_not] at c_69
            refine G_aload hk dX5_copy_78 rfl ?_
            refine G_iload_n (i := 2) hk dX5_copy_80 rfl rfl ?_
            refine G_iload hk dX5_copy_81 rfl ?_
            refine G_cVi hk (c_X2_hasCells l V ad E1 (26 + 2 * j) (by omega) (la j) (nI (sz j)) i m s0j) mX2_hasCells vX2_hasCells kX5_54 dX5_copy_83 (by assumption) (by rfl) (by first | decide | omega) rfl (by decide) (by decide) rfl (Nat.le_of_ble_eq_true rfl) (fun r_83 E_83 h_83 => ?_)
            obtain ⟨rfl, rfl⟩ := h_83
            refine G_if_eq (tgt := 101) hk dX5_copy_86 (by decide) (fun c_86 => ?_) (fun c_86 => ?_)
            · try simp only [gB_ne, gB_eq, Decidable.not_not] at c_86
              have hno : (sHcD (sz j) i m && sHcD (sz t) jj m) = false := by rw [sHcD_f c_86]; rfl
              refine G_aload_n (i := 0) hk dX5_copy_101 rfl rfl ?_
              refine G_iconst (v := 3) hk dX5_copy_102 (by decide) ?_
              refine G_cVi hk (c_X5_faulted l V ad E1 n rd R rp rw tr 0 la sz cl hC1 3) mX5_faulted vX5_faulted kX5_51 dX5_copy_103 (by assumption) (by rfl) (by first | decide | omega) rfl (by decide) (by decide) rfl (Nat.le_of_ble_eq_true rfl) (fun r_103 E_103 h_103 => ?_)
              obtain ⟨rfl, hCf, xf⟩ := h_103
              refine G_iret hk dX5_copy_106 ?_
              exact ⟨by unfold vCopy; rw [hixj, hixt, if_pos hkq, if_neg hnn, if_pos c_69, hno]; rfl, by unfold fCopy cCopy; rw [hixj, hixt, if_pos hkq, if_pos hkq, if_neg hnn, if_neg hnn, if_pos c_69, if_pos c_69, hno]; exact hCf, f1.tr xf⟩
            · try simp only [gB_ne, gB_eq, Decidable.not_not] at c_86
              refine G_aload hk dX5_copy_89 rfl ?_
              refine G_iload hk dX5_copy_91 rfl ?_
              refine G_iload hk dX5_copy_93 rfl ?_
              refine G_cVi hk (c_X2_hasCells l V ad E1 (26 + 2 * t) (by omega) (la t) (nI (sz t)) jj m s0t) mX2_hasCells vX2_hasCells kX5_54 dX5_copy_95 (by assumption) (by rfl) (by first | decide | omega) rfl (by decide) (by decide) rfl (Nat.le_of_ble_eq_true rfl) (fun r_95 E_95 h_95 => ?_)
              obtain ⟨rfl, rfl⟩ := h_95
              refine G_if_ne (tgt := 107) hk dX5_copy_98 (by decide) (fun c_98 => ?_) (fun c_98 => ?_)
              · try simp only [gB_ne, gB_eq, Decidable.not_not] at c_98
                have hyes : (sHcD (sz j) i m && sHcD (sz t) jj m) = true := by rw [sHcD_t c_86, sHcD_t (m := sz t) c_98]; rfl
                obtain ⟨a1', b1', rfl, rfl, hab1⟩ := sHc_nat s2j c_86
                obtain ⟨a2', b2', rfl, e2', hab2⟩ := sHc_nat s2t c_98
                have hbb : b1' = b2' := (neq (by omega) (by omega)).mp e2'
                subst hbb
                refine G_aload hk dX5_copy_107 rfl ?_
                refine G_get hk fX5_214 dX5_copy_109 (by assumption) (by rfl) (by first | decide | omega) ?_
                refine G_iload_n (i := 2) hk dX5_copy_112 rfl rfl ?_
                refine G_aload hk dX5_copy_113 rfl ?_
                refine G_get hk fX5_214 dX5_copy_115 (by assumption) (by rfl) (by first | decide | omega) ?_
                refine G_iload hk dX5_copy_118 rfl ?_
                refine G_iload hk dX5_copy_120 rfl ?_
                refine G_copyi (k0 := 26 + 2 * j + 1) (k1 := 26 + 2 * t + 1) hk jkX5_217 dX5_copy_122 s1j s1t (nI_pos (by omega)) (nI_pos (by omega)) (nI_pos (by omega)) (by rw [nI_clamp (by omega), nI_clamp (by omega)]; omega) (by rw [nI_clamp (by omega), nI_clamp (by omega)]; omega) (by omega) (by omega) (by decide) (by decide) ?_
                refine G_iload hk dX5_copy_125 rfl ?_
                refine G_iret hk dX5_copy_127 ?_
                refine ⟨by unfold vCopy; rw [hixj, hixt, if_pos hkq, if_neg hnn, if_pos c_69, hyes]; rfl, ?_, f1.tr (fr.up (by omega))⟩
                unfold fCopy cCopy
                rw [hixj, hixt, if_pos hkq, if_pos hkq, if_neg hnn, if_neg hnn, if_pos c_69, if_pos c_69, hyes, if_pos rfl, if_pos rfl]
                exact hC1.cells (by omega) _
              · try simp only [gB_ne, gB_eq, Decidable.not_not] at c_98
                have hno : (sHcD (sz j) i m && sHcD (sz t) jj m) = false := by rw [sHcD_f (m := sz t) c_98, Bool.and_false]
                refine G_aload_n (i := 0) hk dX5_copy_101 rfl rfl ?_
                refine G_iconst (v := 3) hk dX5_copy_102 (by decide) ?_
                refine G_cVi hk (c_X5_faulted l V ad E1 n rd R rp rw tr 0 la sz cl hC1 3) mX5_faulted vX5_faulted kX5_51 dX5_copy_103 (by assumption) (by rfl) (by first | decide | omega) rfl (by decide) (by decide) rfl (Nat.le_of_ble_eq_true rfl) (fun r_103 E_103 h_103 => ?_)
                obtain ⟨rfl, hCf, xf⟩ := h_103
                refine G_iret hk dX5_copy_106 ?_
                exact ⟨by unfold vCopy; rw [hixj, hixt, if_pos hkq, if_neg hnn, if_pos c_69, hno]; rfl, by unfold fCopy cCopy; rw [hixj, hixt, if_pos hkq, if_pos hkq, if_neg hnn, if_neg hnn, if_pos c_69, if_pos c_69, hno]; exact hCf, f1.tr xf⟩
          · try simp only [gB_ne, gB_eq, Decidable.not_not] at c_69
            have c_69 : ¬ la j = la t := c_69
            refine G_aload_n (i := 0) hk dX5_copy_72 rfl rfl ?_
            refine G_iconst (v := 2) hk dX5_copy_73 (by decide) ?_
            refine G_cVi hk (c_X5_faulted l V ad E1 n rd R rp rw tr 0 la sz cl hC1 2) mX5_faulted vX5_faulted kX5_51 dX5_copy_74 (by assumption) (by rfl) (by first | decide | omega) rfl (by decide) (by decide) rfl (Nat.le_of_ble_eq_true rfl) (fun r_74 E_74 h_74 => ?_)
            obtain ⟨rfl, hCf, xf⟩ := h_74
            refine G_iret hk dX5_copy_77 ?_
            exact ⟨by unfold vCopy; rw [hixj, hixt, if_pos hkq, if_neg hnn, if_neg c_69]; rfl, by unfold fCopy cCopy; rw [hixj, hixt, if_pos hkq, if_pos hkq, if_neg hnn, if_neg hnn, if_neg c_69, if_neg c_69]; exact hCf, f1.tr xf⟩
        · try simp only [gB_ne, gB_eq, Decidable.not_not] at c_50
          have hnn : la j = -1 ∨ la t = -1 := Or.inr (by first | exact c_50 | exact Decidable.not_not.mp c_50)
          refine G_aload_n (i := 0) hk dX5_copy_53 rfl rfl ?_
          refine G_iconst (v := 1) hk dX5_copy_54 (by decide) ?_
          refine G_cVi hk (c_X5_faulted l V ad E1 n rd R rp rw tr 0 la sz cl hC1 1) mX5_faulted vX5_faulted kX5_51 dX5_copy_55 (by assumption) (by rfl) (by first | decide | omega) rfl (by decide) (by decide) rfl (Nat.le_of_ble_eq_true rfl) (fun r_55 E_55 h_55 => ?_)
          obtain ⟨rfl, hCf, xf⟩ := h_55
          refine G_iret hk dX5_copy_58 ?_
          exact ⟨by unfold vCopy; rw [hixj, hixt, if_pos hkq, if_pos hnn]; rfl, by unfold fCopy cCopy; rw [hixj, hixt, if_pos hkq, if_pos hkq, if_pos hnn, if_pos hnn]; exact hCf, f1.tr xf⟩
    · try simp only [gB_ne, gB_eq, Decidable.not_not] at c_16
      refine G_iconst (v := (-1)) hk dX5_copy_19 (by decide) ?_
      refine G_iret hk dX5_copy_20 ?_
      first | exact ⟨by unfold vCopy; rw [if_neg (fun z => c_9 z.1)], by unfold fCopy cCopy; rw [if_neg (fun z => c_9 z.1), if_neg (fun z => c_9 z.1)]; exact hC1, f1⟩ | exact ⟨by unfold vCopy; rw [if_neg (fun z => c_16 z.2)], by unfold fCopy cCopy; rw [if_neg (fun z => c_16 z.2), if_neg (fun z => c_16 z.2)]; exact hC1, f1⟩

set_option maxHeartbeats 4000000 in
set_option maxRecDepth 100000 in
theorem c_X5_rules (l : Launch) (V : gV) (ad : Nat → Nat) (E : Nat → va_E) (n rd : Nat) (R : Nat → Nat → Int32) (rp rw : Nat → Int32) (tr fa : Int32) (la : Nat → Int32) (sz : Nat → Nat) (cl : Nat → Nat → Int32) (hC : cR V ad E (n, R, rd, rp, rw, tr, fa, la, sz, cl)) (k a i m : Int32) : Ct l V ad 44 44 yX5_rules cX5_rules 8 (some .int) { frames := 3, cells := 0, slots := 0, locals := 85 } [.ref (ad 0), .int k, .int a, .int i, .int m] E (pI ad (fun v E2 => v = vRules la sz cl k a i m ∧ (∃ R2, cR V ad E2 (nRules n la sz cl k a i m, R2, dRules rd la sz cl k a i m, rp, rw, tr, fRules la sz k a i m, la, sz, cl) ∧ ∀ i0, i0 < nRules n la sz cl k a i m → R2 i0 = rRules R la sz cl k a i m i0) ∧ fr E E2)) := by
  refine gCt mX5_rules (Nat.le_of_ble_eq_true rfl) ?_
  intro K hk
  obtain ⟨h0, ⟨π, hB⟩, ⟨dn, wo, dl, hA⟩, ⟨n2, π2, R2, hB2⟩, ⟨dn2, wo2, dl2, hA2⟩, h3, h4, h5, h6, h7⟩ := id hC
  obtain ⟨b0, b1, b2, b3, b4, b5, -⟩ := id hB
  obtain ⟨a0, a1⟩ := id hA
  have hn0 : nI n = 0 ↔ n = 0 := neq (b := 0) (by omega) (by omega)
  refine G_aload_n (i := 0) hk dX5_rules_0 rfl rfl ?_
  refine G_iconst (v := 0) hk dX5_rules_1 (by decide) ?_
  refine G_put hk fX5_35 iX5_7 dX5_rules_2 (by assumption) (Nat.le_of_ble_eq_true rfl) (by first | decide | omega) ?_
  refine G_E (E2 := va_up E 0 (oC ad (nI rd) tr 0)) rfl ?_
  have hC1 := hC.sc (tr2 := tr) (fa2 := 0) h7
  have f1 : fr E (va_up E 0 (oC ad (nI rd) tr 0)) := fr.up (by omega)
  generalize va_up E 0 (oC ad (nI rd) tr 0) = E1 at hC1 f1 ⊢
  clear h0 hB hA hB2 hA2 h3 h4 h5 h6 b0 b1 b2 b4 b5 a0 a1 hC
  obtain ⟨h0, ⟨π, hB⟩, ⟨dn, wo, dl, hA⟩, ⟨n2, π2, R2, hB2⟩, ⟨dn2, wo2, dl2, hA2⟩, h3, h4, h5, h6, h7⟩ := id hC1
  obtain ⟨b0, b1, b2, b3, b4, b5, -⟩ := id hB
  refine G_iload_n (i := 1) hk dX5_rules_5 rfl rfl ?_
  refine G_cSi hk (c_X5_isSheet l V ad E1 k) mX5_isSheet sX5_isSheet kX5_39 dX5_rules_6 rfl (by decide) (by decide) rfl (Nat.le_of_ble_eq_true rfl) (fun r_6 E_6 h_6 => ?_)
  obtain ⟨rfl, rfl⟩ := h_6
  refine G_if_ne (tgt := 14) hk dX5_rules_9 (by decide) (fun c_9 => ?_) (fun c_9 => ?_)
  · try simp only [gB_ne, gB_eq, Decidable.not_not] at c_9
    obtain ⟨j, hj, rfl⟩ := gIe (n := 3) c_9.1 c_9.2 (by omega)
    have hixj : ix (nI j) = j := ix_nI (by omega)
    obtain ⟨s0j, s1j, s2j⟩ := h6 j (by omega)
    refine G_iload_n (i := 2) hk dX5_rules_14 rfl rfl ?_
    refine G_iconst (v := 0) hk dX5_rules_15 (by decide) ?_
    refine G_iconst (v := 2) hk dX5_rules_16 (by decide) ?_
    refine G_cSi hk (c_X5_isIn l V ad E1 a 0 2) mX5_isIn sX5_isIn kX5_43 dX5_rules_17 rfl (by decide) (by decide) rfl (Nat.le_of_ble_eq_true rfl) (fun r_17 E_17 h_17 => ?_)
    obtain ⟨rfl, rfl⟩ := h_17
    refine G_if_ne (tgt := 26) hk dX5_rules_20 (by decide) (fun c_20 => ?_) (fun c_20 => ?_)
    · try simp only [gB_ne, gB_eq, Decidable.not_not] at c_20
      refine G_aload_n (i := 0) hk dX5_rules_26 rfl rfl ?_
      refine G_get hk fX5_23 dX5_rules_27 (by assumption) (by rfl) (by first | decide | omega) ?_
      refine G_iload_n (i := 1) hk dX5_rules_30 rfl rfl ?_
      refine G_aaldRwX (j := j) hk dX5_rules_31 (by assumption) rfl (by omega) (by decide) (by rfl) (by first | decide | omega) ?_
      refine G_astore hk dX5_rules_32 (by decide) rfl ?_
      refine G_aload hk dX5_rules_34 rfl ?_
      refine G_iload_n (i := 2) hk dX5_rules_36 rfl rfl ?_
      refine G_cVi hk (c_X2_faultAs l V ad E1 (26 + 2 * j) (by omega) (la j) (nI (sz j)) a s0j) mX2_faultAs vX2_faultAs kX5_47 dX5_rules_37 (by assumption) (by rfl) (by first | decide | omega) rfl (by decide) (by decide) rfl (Nat.le_of_ble_eq_true rfl) (fun r_37 E_37 h_37 => ?_)
      obtain ⟨rfl, e37⟩ := h_37
      have e37 : r_37 = sFas (la j) a := e37
      subst e37
      refine G_istore hk dX5_rules_40 (by decide) rfl ?_
      refine G_iload hk dX5_rules_42 rfl ?_
      refine G_if_eq (tgt := 54) hk dX5_rules_44 (by decide) (fun c_44 => ?_) (fun c_44 => ?_)
      · try simp only [gB_ne, gB_eq, Decidable.not_not] at c_44
        skip
        refine G_iload hk dX5_rules_54 rfl ?_
        refine G_if_ge (tgt := 65) hk dX5_rules_56 (by decide) (fun c_56 => ?_) (fun c_56 => ?_)
        · try simp only [gB_ne, gB_eq, Decidable.not_not] at c_56
          have hm0 : ¬ m < 0 := Int32.not_lt.mpr c_56
          refine G_aload hk dX5_rules_65 rfl ?_
          refine G_iload_n (i := 3) hk dX5_rules_67 rfl rfl ?_
          refine G_iload hk dX5_rules_68 rfl ?_
          refine G_cVi hk (c_X2_hasCells l V ad E1 (26 + 2 * j) (by omega) (la j) (nI (sz j)) i m s0j) mX2_hasCells vX2_hasCells kX5_54 dX5_rules_70 (by assumption) (by rfl) (by first | decide | omega) rfl (by decide) (by decide) rfl (Nat.le_of_ble_eq_true rfl) (fun r_70 E_70 h_70 => ?_)
          obtain ⟨rfl, rfl⟩ := h_70
          refine G_if_ne (tgt := 82) hk dX5_rules_73 (by decide) (fun c_73 => ?_) (fun c_73 => ?_)
          · try simp only [gB_ne, gB_eq, Decidable.not_not] at c_73
            have hcc : sHc (sz j) i m := c_73
            obtain ⟨a', b', rfl, rfl, hab⟩ := sHc_nat s2j hcc
            have hixa : ix (nI a') = a' := ix_nI (by omega)
            have hixb : ix (nI b') = b' := ix_nI (by omega)
            refine G_aload hk dX5_rules_82 rfl ?_
            refine G_iload_n (i := 3) hk dX5_rules_84 rfl rfl ?_
            refine G_iload hk dX5_rules_85 rfl ?_
            refine G_cSi hk (c_X4_firstFault l V ad E1 (26 + 2 * j) (by omega) (la j) (sz j) s2j (cl j) s0j s1j a' b' hab) mX4_firstFault sX4_firstFault kX5_58 dX5_rules_87 rfl (by decide) (by decide) rfl (Nat.le_of_ble_eq_true rfl) (fun r_87 E_87 h_87 => ?_)
            obtain ⟨rfl, rfl⟩ := h_87
            refine G_istore hk dX5_rules_90 (by decide) rfl ?_
            refine G_iload hk dX5_rules_92 rfl ?_
            refine G_iconst (v := (-1)) hk dX5_rules_94 (by decide) ?_
            refine G_icmp_eq (tgt := 104) hk dX5_rules_95 (by decide) (fun c_95 => ?_) (fun c_95 => ?_)
            · try simp only [gB_ne, gB_eq, Decidable.not_not] at c_95
              obtain ⟨-, q, rfl, hq1, hq7⟩ := sFault_ok (by omega) c_95
              have hok : bRules la sz cl (nI j) a (nI a') (nI (6 * q + 1)) := ⟨c_9, c_20, by rw [hixj]; exact c_44, hm0, by rw [hixj]; exact hcc, by rw [hixj, hixa, hixb]; exact c_95⟩
              have hq6 : (6 * q + 1 - 1) / 6 = q := by omega
              refine G_aload hk dX5_rules_104 rfl ?_
              refine G_iload_n (i := 3) hk dX5_rules_106 rfl rfl ?_
              refine G_iload hk dX5_rules_107 rfl ?_
              refine G_aload_n (i := 0) hk dX5_rules_109 rfl rfl ?_
              refine G_get hk fX5_12 dX5_rules_110 (by assumption) (by rfl) (by first | decide | omega) ?_
              refine G_cSv hk (c_X4_take l V ad E1 (26 + 2 * j) (by omega) (by omega) (la j) (sz j) s2j (cl j) s0j s1j a' q hab hq7 n π R hB) mX4_take sX4_take kX5_64 dX5_rules_113 rfl (by decide) (by decide) rfl (Nat.le_of_ble_eq_true rfl) (fun E_113 h_113 => ?_)
              have hM := h_113
              obtain ⟨R2', hC2, hR2⟩ := hC1.bk h_113
              have f2 := f1.tr (fr.bk hM (by omega))
              have z0 := hC2.1
              refine G_aload_n (i := 0) hk dX5_rules_116 rfl rfl ?_
              refine G_iconst (v := 0) hk dX5_rules_117 (by decide) ?_
              refine G_put hk fX5_68 iX5_5 dX5_rules_118 (by assumption) (Nat.le_of_ble_eq_true rfl) (by first | decide | omega) ?_
              refine G_E (E2 := va_up E_113 0 (oC ad (nI 0) tr 0)) rfl ?_
              have hC3 := hC2.sc (rd2 := 0) (tr2 := tr) (fa2 := 0) (by omega)
              have f3 := f2.tr (fr.up (k := 0) (c := oC ad (nI 0) tr 0) (by omega))
              generalize va_up E_113 0 (oC ad (nI 0) tr 0) = E3 at hC3 f3 ⊢
              obtain ⟨z0, ⟨π', gB'⟩, -⟩ := id hC3
              have e0 := gB'.1
              refine G_aload_n (i := 0) hk dX5_rules_121 rfl rfl ?_
              refine G_get hk fX5_12 dX5_rules_122 (by assumption) (by rfl) (by first | decide | omega) ?_
              refine G_get hk fX5_71 dX5_rules_125 (by assumption) (by rfl) (by first | decide | omega) ?_
              refine G_iret hk dX5_rules_128 ?_
              refine ⟨by unfold vRules; rw [hixj, hixa, hixb, if_pos c_9, if_pos c_20, if_pos c_44, if_neg hm0, sHcD_t hcc, if_pos rfl, if_pos c_95, hq6], ⟨R2', ?_, fun i0 hi0 => ?_⟩, f3⟩
              · unfold fRules nRules dRules
                rw [bRulesD_t hok, hixj, hixb, if_pos c_9, if_pos c_20, if_pos c_44, if_neg hm0, sHcD_t hcc, if_pos rfl, if_pos rfl, if_pos rfl, hq6]
                exact hC3
              · unfold nRules at hi0
                rw [bRulesD_t hok, if_pos rfl, hixb, hq6] at hi0
                unfold rRules
                rw [bRulesD_t hok, if_pos rfl, hixj, hixa]
                exact hR2 i0 hi0
            · try simp only [gB_ne, gB_eq, Decidable.not_not] at c_95
              refine G_bipush (v := (-100)) hk dX5_rules_98 (by decide) ?_
              refine G_iload hk dX5_rules_100 rfl ?_
              refine G_isub hk dX5_rules_102 ?_
              refine G_iret hk dX5_rules_103 ?_
              exact ⟨by unfold vRules; rw [hixj, hixa, hixb, if_pos c_9, if_pos c_20, if_pos c_44, if_neg hm0, sHcD_t hcc, if_pos rfl, if_neg c_95], ⟨R, by unfold fRules nRules dRules; rw [bRulesD_f (fun z => c_95 (by have z1 := z.2.2.2.2.2; rw [hixj, hixa, hixb] at z1; exact z1))]; rw [hixj, if_pos c_9, if_pos c_20, if_pos c_44, if_neg hm0, sHcD_t hcc]; exact hC1, fun i0 hi0 => by unfold rRules; rw [bRulesD_f (fun z => c_95 (by have z1 := z.2.2.2.2.2; rw [hixj, hixa, hixb] at z1; exact z1))]; rfl⟩, f1⟩
          · try simp only [gB_ne, gB_eq, Decidable.not_not] at c_73
            have hcc : ¬ sHc (sz j) i m := c_73
            refine G_aload_n (i := 0) hk dX5_rules_76 rfl rfl ?_
            refine G_iconst (v := 3) hk dX5_rules_77 (by decide) ?_
            refine G_cVi hk (c_X5_faulted l V ad E1 n rd R rp rw tr 0 la sz cl hC1 3) mX5_faulted vX5_faulted kX5_51 dX5_rules_78 (by assumption) (by rfl) (by first | decide | omega) rfl (by decide) (by decide) rfl (Nat.le_of_ble_eq_true rfl) (fun r_78 E_78 h_78 => ?_)
            obtain ⟨rfl, hCf, xf⟩ := h_78
            refine G_iret hk dX5_rules_81 ?_
            exact ⟨by unfold vRules; rw [hixj, if_pos c_9, if_pos c_20, if_pos c_44, if_neg hm0, sHcD_f hcc]; rfl, ⟨R, by unfold fRules nRules dRules; rw [bRulesD_f (fun z => hcc (hixj ▸ z.2.2.2.2.1))]; rw [hixj, if_pos c_9, if_pos c_20, if_pos c_44, if_neg hm0, sHcD_f hcc]; exact hCf, fun i0 hi0 => by unfold rRules; rw [bRulesD_f (fun z => hcc (hixj ▸ z.2.2.2.2.1))]; rfl⟩, f1.tr xf⟩
        · try simp only [gB_ne, gB_eq, Decidable.not_not] at c_56
          have hm0 : m < 0 := Int32.not_le.mp c_56
          refine G_aload_n (i := 0) hk dX5_rules_59 rfl rfl ?_
          refine G_iconst (v := 4) hk dX5_rules_60 (by decide) ?_
          refine G_cVi hk (c_X5_faulted l V ad E1 n rd R rp rw tr 0 la sz cl hC1 4) mX5_faulted vX5_faulted kX5_51 dX5_rules_61 (by assumption) (by rfl) (by first | decide | omega) rfl (by decide) (by decide) rfl (Nat.le_of_ble_eq_true rfl) (fun r_61 E_61 h_61 => ?_)
          obtain ⟨rfl, hCf, xf⟩ := h_61
          refine G_iret hk dX5_rules_64 ?_
          exact ⟨by unfold vRules; rw [hixj, if_pos c_9, if_pos c_20, if_pos c_44, if_pos hm0]; rfl, ⟨R, by unfold fRules nRules dRules; rw [bRulesD_f (fun z => z.2.2.2.1 hm0)]; rw [hixj, if_pos c_9, if_pos c_20, if_pos c_44, if_pos hm0]; exact hCf, fun i0 hi0 => by unfold rRules; rw [bRulesD_f (fun z => z.2.2.2.1 hm0)]; rfl⟩, f1.tr xf⟩
      · try simp only [gB_ne, gB_eq, Decidable.not_not] at c_44
        refine G_aload_n (i := 0) hk dX5_rules_47 rfl rfl ?_
        refine G_iload hk dX5_rules_48 rfl ?_
        refine G_cVi hk (c_X5_faulted l V ad E1 n rd R rp rw tr 0 la sz cl hC1 _) mX5_faulted vX5_faulted kX5_51 dX5_rules_50 (by assumption) (by rfl) (by first | decide | omega) rfl (by decide) (by decide) rfl (Nat.le_of_ble_eq_true rfl) (fun r_50 E_50 h_50 => ?_)
        obtain ⟨rfl, hCf, xf⟩ := h_50
        refine G_iret hk dX5_rules_53 ?_
        exact ⟨by unfold vRules; rw [hixj, if_pos c_9, if_pos c_20, if_neg c_44], ⟨R, by unfold fRules nRules dRules; rw [bRulesD_f (fun z => c_44 (hixj ▸ z.2.2.1))]; rw [hixj, if_pos c_9, if_pos c_20, if_neg c_44]; exact hCf, fun i0 hi0 => by unfold rRules; rw [bRulesD_f (fun z => c_44 (hixj ▸ z.2.2.1))]; rfl⟩, f1.tr xf⟩
    · try simp only [gB_ne, gB_eq, Decidable.not_not] at c_20
      refine G_bipush (v := (-2)) hk dX5_rules_23 (by decide) ?_
      refine G_iret hk dX5_rules_25 ?_
      exact ⟨by unfold vRules; rw [if_pos c_9, if_neg c_20], ⟨R, by unfold fRules nRules dRules; rw [bRulesD_f (fun z => c_20 z.2.1)]; rw [if_pos c_9, if_neg c_20]; exact hC1, fun i0 hi0 => by unfold rRules; rw [bRulesD_f (fun z => c_20 z.2.1)]; rfl⟩, f1⟩
  · try simp only [gB_ne, gB_eq, Decidable.not_not] at c_9
    refine G_iconst (v := (-1)) hk dX5_rules_12 (by decide) ?_
    refine G_iret hk dX5_rules_13 ?_
    exact ⟨by unfold vRules; rw [if_neg c_9], ⟨R, by unfold fRules nRules dRules; rw [bRulesD_f (fun z => c_9 z.1)]; rw [if_neg c_9]; exact hC1, fun i0 hi0 => by unfold rRules; rw [bRulesD_f (fun z => c_9 z.1)]; rfl⟩, f1⟩
