set_option maxHeartbeats 4000000 in
set_option maxRecDepth 100000 in
theorem c_X5_playDay (l : Launch) (V : gV) (ad : Nat → Nat) (E : Nat → va_E) (n rd : Nat) (R : Nat → Nat → Int32) (rp rw : Nat → Int32) (tr fa : Int32) (la : Nat → Int32) (sz : Nat → Nat) (cl : Nat → Nat → Int32) (hC : cR V ad E (n, R, rd, rp, rw, tr, fa, la, sz, cl)) (nd : Nat) (Rd : Nat → Nat → Int32) (hD : dayB V ad E nd Rd) (j : Nat) (hj : j < 4) (i m : Nat) (him : i + 2 * m ≤ sz j) : Ct l V ad 44 44 yX5_playDay cX5_playDay 5 (some .int) { frames := 3, cells := 0, slots := 0, locals := 66 } [.ref (ad 0), .ref (ad (26 + 2 * j)), .int (nI i), .int (nI m)] E (pI ad (fun v E2 => v = (sPlay (fun a => cl j (i + a)) m 0 nd Rd).1 ∧ cR V ad E2 (n, R, rd, rp, rw, tr, fa, la, sz, cl) ∧ fr E E2 ∧ dayB V ad E2 (sPlay (fun a => cl j (i + a)) m 0 nd Rd).2.1 (sPlay (fun a => cl j (i + a)) m 0 nd Rd).2.2)) := by
  refine gCt mX5_playDay (Nat.le_of_ble_eq_true rfl) ?_
  intro K hk
  refine G_iconst (v := 0) hk dX5_playDay_0 (by decide) ?_
  refine G_istore hk dX5_playDay_1 (by decide) rfl ?_
  exact G_lv (by exact And.intro rfl (And.intro rfl (And.intro rfl (And.intro rfl (And.intro rfl (trivial)))))) (lp_X5_playDay hk E n rd R rp rw tr fa la sz cl j hj i m him _ m 0 nd Rd E (by omega) hC fr.rf hD rfl)

set_option maxHeartbeats 4000000 in
set_option maxRecDepth 100000 in
theorem c_X5_ofDay (l : Launch) (V : gV) (ad : Nat → Nat) (E : Nat → va_E) (n rd : Nat) (R : Nat → Nat → Int32) (rp rw : Nat → Int32) (tr fa : Int32) (la : Nat → Int32) (sz : Nat → Nat) (cl : Nat → Nat → Int32) (hC : cR V ad E (n, R, rd, rp, rw, tr, fa, la, sz, cl)) (nd : Nat) (Rd : Nat → Nat → Int32) (hD : dayB V ad E nd Rd) (w : Int32) : Ct l V ad 44 44 yX5_ofDay cX5_ofDay 2 (some .int) { frames := 5, cells := 0, slots := 0, locals := 114 } [.ref (ad 0), .int w] E (pI ad (fun v E2 => v = sOfDay nd Rd w ∧ cR V ad E2 (n, R, rd, rp, rw, tr, fa, la, sz, cl) ∧ fr E E2)) := by
  refine gCt mX5_ofDay (Nat.le_of_ble_eq_true rfl) ?_
  intro K hk
  obtain ⟨h0, ⟨π, hB⟩, ⟨dn, wo, dl, hA⟩, ⟨n2, π2, R2, hB2⟩, ⟨dn2, wo2, dl2, hA2⟩, h3, h4, h5, h6, h7⟩ := id hC
  obtain ⟨b0, b1, b2, b3, b4, b5, -⟩ := id hB
  obtain ⟨a0, a1⟩ := id hA
  have hn0 : nI n = 0 ↔ n = 0 := neq (b := 0) (by omega) (by omega)
  obtain ⟨πd, R1, hBd, hR1⟩ := id hD
  obtain ⟨d0, d1, d2, d3, d4, d5, -⟩ := id hBd
  refine G_iload_n (i := 1) hk dX5_ofDay_0 rfl rfl ?_
  by_cases q1_0 : w = 0
  · skip
    refine G_tbl (off := 35) (tgt := 36) 0 hk dX5_ofDay_1 (by rw [q1_0]; decide) (by decide) (by decide) (by rfl) (by decide) ?_
    refine G_aload_n (i := 0) hk dX5_ofDay_36 rfl rfl ?_
    refine G_get hk fX5_18 dX5_ofDay_37 (by assumption) (by rfl) (by first | decide | omega) ?_
    refine G_cVi hk (c_X1_countDenied l V ad E 12 nd πd R1 hBd dn2 wo2 dl2 hA2) mX1_countDenied vX1_countDenied kX5_176 dX5_ofDay_40 (by assumption) (by rfl) (by first | decide | omega) rfl (by decide) (by decide) rfl (Nat.le_of_ble_eq_true rfl) (fun r_40 E_40 h_40 => ?_)
    obtain ⟨rfl, hX⟩ := h_40
    refine G_iret hk dX5_ofDay_43 ?_
    exact ⟨by unfold sOfDay; rw [if_pos q1_0, sCw_cong hR1], hC.askD hX, fr.aX hX (by omega)⟩
  · skip
    by_cases q1_1 : w = 1
    · skip
      refine G_tbl (off := 67) (tgt := 68) 1 hk dX5_ofDay_1 (by rw [q1_1]; decide) (by decide) (by decide) (by rfl) (by decide) ?_
      refine G_aload_n (i := 0) hk dX5_ofDay_68 rfl rfl ?_
      refine G_get hk fX5_18 dX5_ofDay_69 (by assumption) (by rfl) (by first | decide | omega) ?_
      refine G_iload_n (i := 1) hk dX5_ofDay_72 rfl rfl ?_
      refine G_bipush (v := 10) hk dX5_ofDay_73 (by decide) ?_
      refine G_isub hk dX5_ofDay_75 ?_
      refine G_iconst (v := (-1)) hk dX5_ofDay_76 (by decide) ?_
      refine G_cVi hk (c_X1_worthOf l V ad E 12 nd πd R1 hBd dn2 wo2 dl2 hA2 99 (-1) hw99 (w - 10)) mX1_worthOf vX1_worthOf kX5_242 dX5_ofDay_77 (by assumption) (by rfl) (by first | decide | omega) rfl (by decide) (by decide) rfl (Nat.le_of_ble_eq_true rfl) (fun r_77 E_77 h_77 => ?_)
      obtain ⟨rfl, hp⟩ := h_77
      have hX := hp.x
      refine G_iret hk dX5_ofDay_80 ?_
      have w0 : ¬ w = 0 := q1_0
      have w2 : ¬ w = 2 := by rw [q1_1]; decide
      have w3 : ¬ w = 3 := by rw [q1_1]; decide
      have w4 : ¬ w = 4 := by rw [q1_1]; decide
      exact ⟨by unfold sOfDay; rw [if_neg w0, if_neg w2, if_neg w3, if_neg w4, sAn_cong hR1 (Nat.zero_le _)], hC.askD hX, fr.aX hX (by omega)⟩
    · skip
      by_cases q1_2 : w = 2
      · skip
        refine G_tbl (off := 43) (tgt := 44) 2 hk dX5_ofDay_1 (by rw [q1_2]; decide) (by decide) (by decide) (by rfl) (by decide) ?_
        refine G_aload_n (i := 0) hk dX5_ofDay_44 rfl rfl ?_
        refine G_get hk fX5_18 dX5_ofDay_45 (by assumption) (by rfl) (by first | decide | omega) ?_
        refine G_cVi hk (c_X1_shadowed l V ad E 12 nd πd R1 hBd) mX1_shadowed vX1_shadowed kX5_170 dX5_ofDay_48 (by assumption) (by rfl) (by first | decide | omega) rfl (by decide) (by decide) rfl (Nat.le_of_ble_eq_true rfl) (fun r_48 E_48 h_48 => ?_)
        obtain ⟨rfl, rfl⟩ := h_48
        refine G_iret hk dX5_ofDay_51 ?_
        exact ⟨by unfold sOfDay; rw [if_neg q1_0, if_pos q1_2, sShad_cong hR1], hC, fr.rf⟩
      · skip
        by_cases q1_3 : w = 3
        · skip
          refine G_tbl (off := 51) (tgt := 52) 3 hk dX5_ofDay_1 (by rw [q1_3]; decide) (by decide) (by decide) (by rfl) (by decide) ?_
          refine G_aload_n (i := 0) hk dX5_ofDay_52 rfl rfl ?_
          refine G_get hk fX5_18 dX5_ofDay_53 (by assumption) (by rfl) (by first | decide | omega) ?_
          refine G_cVi hk (c_X1_countRuns l V ad E 12 nd πd R1 hBd) mX1_countRuns vX1_countRuns kX5_167 dX5_ofDay_56 (by assumption) (by rfl) (by first | decide | omega) rfl (by decide) (by decide) rfl (Nat.le_of_ble_eq_true rfl) (fun r_56 E_56 h_56 => ?_)
          obtain ⟨rfl, rfl⟩ := h_56
          refine G_iret hk dX5_ofDay_59 ?_
          exact ⟨by unfold sOfDay; rw [if_neg q1_0, if_neg q1_2, if_pos q1_3, sRuns_cong hR1], hC, fr.rf⟩
        · skip
          by_cases q1_4 : w = 4
          · skip
            refine G_tbl (off := 59) (tgt := 60) 4 hk dX5_ofDay_1 (by rw [q1_4]; decide) (by decide) (by decide) (by rfl) (by decide) ?_
            refine G_aload_n (i := 0) hk dX5_ofDay_60 rfl rfl ?_
            refine G_get hk fX5_18 dX5_ofDay_61 (by assumption) (by rfl) (by first | decide | omega) ?_
            refine G_cVi hk (c_X1_worthTogether l V ad E 12 nd πd R1 hBd dn2 wo2 dl2 hA2) mX1_worthTogether vX1_worthTogether kX5_179 dX5_ofDay_64 (by assumption) (by rfl) (by first | decide | omega) rfl (by decide) (by decide) rfl (Nat.le_of_ble_eq_true rfl) (fun r_64 E_64 h_64 => ?_)
            obtain ⟨rfl, hX⟩ := h_64
            refine G_iret hk dX5_ofDay_67 ?_
            exact ⟨by unfold sOfDay; rw [if_neg q1_0, if_neg q1_2, if_neg q1_3, if_pos q1_4, sSum_cong hR1], hC.askD hX, fr.aX hX (by omega)⟩
          · skip
            refine G_tableOut (tgt := 68) hk dX5_ofDay_1 (by have a_0 := lv_neT (a := 0) q1_0 (by decide); have a_1 := lv_neT (a := 1) q1_1 (by decide); have a_2 := lv_neT (a := 2) q1_2 (by decide); have a_3 := lv_neT (a := 3) q1_3 (by decide); have a_4 := lv_neT (a := 4) q1_4 (by decide); omega) (by decide) ?_
            refine G_aload_n (i := 0) hk dX5_ofDay_68 rfl rfl ?_
            refine G_get hk fX5_18 dX5_ofDay_69 (by assumption) (by rfl) (by first | decide | omega) ?_
            refine G_iload_n (i := 1) hk dX5_ofDay_72 rfl rfl ?_
            refine G_bipush (v := 10) hk dX5_ofDay_73 (by decide) ?_
            refine G_isub hk dX5_ofDay_75 ?_
            refine G_iconst (v := (-1)) hk dX5_ofDay_76 (by decide) ?_
            refine G_cVi hk (c_X1_worthOf l V ad E 12 nd πd R1 hBd dn2 wo2 dl2 hA2 99 (-1) hw99 (w - 10)) mX1_worthOf vX1_worthOf kX5_242 dX5_ofDay_77 (by assumption) (by rfl) (by first | decide | omega) rfl (by decide) (by decide) rfl (Nat.le_of_ble_eq_true rfl) (fun r_77 E_77 h_77 => ?_)
            obtain ⟨rfl, hp⟩ := h_77
            have hX := hp.x
            refine G_iret hk dX5_ofDay_80 ?_
            have w0 : ¬ w = 0 := q1_0
            have w2 : ¬ w = 2 := q1_2
            have w3 : ¬ w = 3 := q1_3
            have w4 : ¬ w = 4 := q1_4
            exact ⟨by unfold sOfDay; rw [if_neg w0, if_neg w2, if_neg w3, if_neg w4, sAn_cong hR1 (Nat.zero_le _)], hC.askD hX, fr.aX hX (by omega)⟩

set_option maxHeartbeats 4000000 in
set_option maxRecDepth 100000 in
theorem c_X5_day (l : Launch) (V : gV) (ad : Nat → Nat) (E : Nat → va_E) (n rd : Nat) (R : Nat → Nat → Int32) (rp rw : Nat → Int32) (tr fa : Int32) (la : Nat → Int32) (sz : Nat → Nat) (cl : Nat → Nat → Int32) (hC : cR V ad E (n, R, rd, rp, rw, tr, fa, la, sz, cl)) (k a i m w : Int32) : Ct l V ad 44 44 yX5_day cX5_day 9 (some .int) { frames := 6, cells := 0, slots := 0, locals := 135 } [.ref (ad 0), .int k, .int a, .int i, .int m, .int w] E (pI ad (fun v E2 => v = vDay n R la sz cl k a i m w ∧ cR V ad E2 (n, R, rd, rp, rw, tr, fDay la sz k a i m w, la, sz, cl) ∧ fr E E2)) := by
  refine gCt mX5_day (Nat.le_of_ble_eq_true rfl) ?_
  intro K hk
  obtain ⟨h0, ⟨π, hB⟩, ⟨dn, wo, dl, hA⟩, ⟨n2, π2, R2, hB2⟩, ⟨dn2, wo2, dl2, hA2⟩, h3, h4, h5, h6, h7⟩ := id hC
  obtain ⟨b0, b1, b2, b3, b4, b5, -⟩ := id hB
  obtain ⟨a0, a1⟩ := id hA
  have hn0 : nI n = 0 ↔ n = 0 := neq (b := 0) (by omega) (by omega)
  refine G_aload_n (i := 0) hk dX5_day_0 rfl rfl ?_
  refine G_iconst (v := 0) hk dX5_day_1 (by decide) ?_
  refine G_put hk fX5_35 iX5_7 dX5_day_2 (by assumption) (Nat.le_of_ble_eq_true rfl) (by first | decide | omega) ?_
  refine G_E (E2 := va_up E 0 (oC ad (nI rd) tr 0)) rfl ?_
  have hC1 := hC.sc (tr2 := tr) (fa2 := 0) h7
  have f1 : fr E (va_up E 0 (oC ad (nI rd) tr 0)) := fr.up (by omega)
  generalize va_up E 0 (oC ad (nI rd) tr 0) = E1 at hC1 f1 ⊢
  clear h0 hB hA hB2 hA2 h3 h4 h5 h6 b0 b1 b2 b4 b5 a0 a1 hC
  obtain ⟨h0, ⟨π, hB⟩, ⟨dn, wo, dl, hA⟩, ⟨n2, π2, R2, hB2⟩, ⟨dn2, wo2, dl2, hA2⟩, h3, h4, h5, h6, h7⟩ := id hC1
  obtain ⟨b0, b1, b2, b3, b4, b5, -⟩ := id hB
  refine G_iload_n (i := 1) hk dX5_day_5 rfl rfl ?_
  refine G_cSi hk (c_X5_isSheet l V ad E1 k) mX5_isSheet sX5_isSheet kX5_39 dX5_day_6 rfl (by decide) (by decide) rfl (Nat.le_of_ble_eq_true rfl) (fun r_6 E_6 h_6 => ?_)
  obtain ⟨rfl, rfl⟩ := h_6
  refine G_if_ne (tgt := 14) hk dX5_day_9 (by decide) (fun c_9 => ?_) (fun c_9 => ?_)
  · try simp only [gB_ne, gB_eq, Decidable.not_not] at c_9
    obtain ⟨j, hj, rfl⟩ := gIe (n := 3) c_9.1 c_9.2 (by omega)
    have hixj : ix (nI j) = j := ix_nI (by omega)
    obtain ⟨s0j, s1j, s2j⟩ := h6 j (by omega)
    refine G_iload_n (i := 2) hk dX5_day_14 rfl rfl ?_
    refine G_iconst (v := 0) hk dX5_day_15 (by decide) ?_
    refine G_iconst (v := 2) hk dX5_day_16 (by decide) ?_
    refine G_cSi hk (c_X5_isIn l V ad E1 a 0 2) mX5_isIn sX5_isIn kX5_43 dX5_day_17 rfl (by decide) (by decide) rfl (Nat.le_of_ble_eq_true rfl) (fun r_17 E_17 h_17 => ?_)
    obtain ⟨rfl, rfl⟩ := h_17
    refine G_if_eq (tgt := 34) hk dX5_day_20 (by decide) (fun c_20 => ?_) (fun c_20 => ?_)
    · try simp only [gB_ne, gB_eq, Decidable.not_not] at c_20
      refine G_bipush (v := (-2)) hk dX5_day_34 (by decide) ?_
      refine G_iret hk dX5_day_36 ?_
      exact ⟨by unfold vDay; rw [if_pos c_9, if_neg (fun z => c_20 z.1.1)], by unfold fDay; rw [if_pos c_9, if_neg (fun z => c_20 z.1.1)]; exact hC1, f1⟩
    · try simp only [gB_ne, gB_eq, Decidable.not_not] at c_20
      refine G_iload hk dX5_day_23 rfl ?_
      refine G_iconst (v := 0) hk dX5_day_25 (by decide) ?_
      refine G_bipush (v := 20) hk dX5_day_26 (by decide) ?_
      refine G_cSi hk (c_X5_isIn l V ad E1 m 0 20) mX5_isIn sX5_isIn kX5_43 dX5_day_28 rfl (by decide) (by decide) rfl (Nat.le_of_ble_eq_true rfl) (fun r_28 E_28 h_28 => ?_)
      obtain ⟨rfl, rfl⟩ := h_28
      refine G_if_ne (tgt := 37) hk dX5_day_31 (by decide) (fun c_31 => ?_) (fun c_31 => ?_)
      · try simp only [gB_ne, gB_eq, Decidable.not_not] at c_31
        refine G_iload hk dX5_day_37 rfl ?_
        refine G_iconst (v := 0) hk dX5_day_39 (by decide) ?_
        refine G_iconst (v := 4) hk dX5_day_40 (by decide) ?_
        refine G_cSi hk (c_X5_isIn l V ad E1 w 0 4) mX5_isIn sX5_isIn kX5_43 dX5_day_41 rfl (by decide) (by decide) rfl (Nat.le_of_ble_eq_true rfl) (fun r_41 E_41 h_41 => ?_)
        obtain ⟨rfl, rfl⟩ := h_41
        refine G_if_ne (tgt := 62) hk dX5_day_44 (by decide) (fun c_44 => ?_) (fun c_44 => ?_)
        · try simp only [gB_ne, gB_eq, Decidable.not_not] at c_44
          have hok : ((0 ≤ a ∧ a ≤ 2) ∧ (0 ≤ m ∧ m ≤ 20)) ∧ ((0 ≤ w ∧ w ≤ 4) ∨ (10 ≤ w ∧ w ≤ 35)) := ⟨⟨c_20, c_31⟩, Or.inl c_44⟩
          obtain ⟨t, ht, rfl⟩ := gIe (n := 20) c_31.1 c_31.2 (by omega)
          have hixt : ix (nI t) = t := ix_nI (by omega)
          refine G_aload_n (i := 0) hk dX5_day_62 rfl rfl ?_
          refine G_get hk fX5_23 dX5_day_63 (by assumption) (by rfl) (by first | decide | omega) ?_
          refine G_iload_n (i := 1) hk dX5_day_66 rfl rfl ?_
          refine G_aaldRwX (j := j) hk dX5_day_67 (by assumption) rfl (by omega) (by decide) (by rfl) (by first | decide | omega) ?_
          refine G_astore hk dX5_day_68 (by decide) rfl ?_
          refine G_aload hk dX5_day_70 rfl ?_
          refine G_iload_n (i := 2) hk dX5_day_72 rfl rfl ?_
          refine G_cVi hk (c_X2_faultAs l V ad E1 (26 + 2 * j) (by omega) (la j) (nI (sz j)) a s0j) mX2_faultAs vX2_faultAs kX5_47 dX5_day_73 (by assumption) (by rfl) (by first | decide | omega) rfl (by decide) (by decide) rfl (Nat.le_of_ble_eq_true rfl) (fun r_73 E_73 h_73 => ?_)
          obtain ⟨rfl, e73⟩ := h_73
          have e73 : r_73 = sFas (la j) a := e73
          subst e73
          refine G_istore hk dX5_day_76 (by decide) rfl ?_
          refine G_iload hk dX5_day_78 rfl ?_
          refine G_if_eq (tgt := 90) hk dX5_day_80 (by decide) (fun c_80 => ?_) (fun c_80 => ?_)
          · try simp only [gB_ne, gB_eq, Decidable.not_not] at c_80
            refine G_aload hk dX5_day_90 rfl ?_
            refine G_iload_n (i := 3) hk dX5_day_92 rfl rfl ?_
            refine G_iconst (v := 2) hk dX5_day_93 (by decide) ?_
            refine G_iload hk dX5_day_94 rfl ?_
            refine G_imul hk dX5_day_96 ?_
            refine G_cVi hk (c_X2_hasCells l V ad E1 (26 + 2 * j) (by omega) (la j) (nI (sz j)) i (2 * nI t) s0j) mX2_hasCells vX2_hasCells kX5_54 dX5_day_97 (by assumption) (by rfl) (by first | decide | omega) rfl (by decide) (by decide) rfl (Nat.le_of_ble_eq_true rfl) (fun r_97 E_97 h_97 => ?_)
            obtain ⟨rfl, rfl⟩ := h_97
            refine G_if_ne (tgt := 109) hk dX5_day_100 (by decide) (fun c_100 => ?_) (fun c_100 => ?_)
            · try simp only [gB_ne, gB_eq, Decidable.not_not] at c_100
              have hcc : sHc (sz j) i (2 * nI t) := c_100
              obtain ⟨a', b', rfl, eb, hab⟩ := sHc_nat s2j hcc
              have h2t : (2 : Int32) * nI t = nI (2 * t) := by rw [show (2 : Int32) = nI 2 from rfl, pk_mul]
              have hb2 : 2 * t = b' := (neq (by omega) (by omega)).mp (h2t.symm.trans eb)
              have hixa : ix (nI a') = a' := ix_nI (by omega)
              have hn0 : nI n = 0 ↔ n = 0 := neq (b := 0) (by omega) (by omega)
              refine G_aload_n (i := 0) hk dX5_day_109 rfl rfl ?_
              refine G_get hk fX5_12 dX5_day_110 (by assumption) (by rfl) (by first | decide | omega) ?_
              refine G_get hk fX5_71 dX5_day_113 (by assumption) (by rfl) (by first | decide | omega) ?_
              refine G_if_ne (tgt := 122) hk dX5_day_116 (by decide) (fun c_116 => ?_) (fun c_116 => ?_)
              · try simp only [gB_ne, gB_eq, Decidable.not_not] at c_116
                have hn : ¬ n = 0 := fun q => c_116 (hn0.mpr q)
                refine G_aload hk dX5_day_122 rfl ?_
                refine G_iload_n (i := 3) hk dX5_day_124 rfl rfl ?_
                refine G_iload hk dX5_day_125 rfl ?_
                refine G_cSi hk (c_X5_areActs l V ad E1 (26 + 2 * j) (by omega) (la j) (sz j) s2j (cl j) s0j s1j a' t (by omega)) mX5_areActs sX5_areActs kX5_147 dX5_day_127 rfl (by decide) (by decide) rfl (Nat.le_of_ble_eq_true rfl) (fun r_127 E_127 h_127 => ?_)
                obtain ⟨rfl, rfl⟩ := h_127
                refine G_if_ne (tgt := 136) hk dX5_day_130 (by decide) (fun c_130 => ?_) (fun c_130 => ?_)
                · try simp only [gB_ne, gB_eq, Decidable.not_not] at c_130
                  refine G_aload_n (i := 0) hk dX5_day_136 rfl rfl ?_
                  refine G_get hk fX5_18 dX5_day_137 (by assumption) (by rfl) (by first | decide | omega) ?_
                  refine G_aload_n (i := 0) hk dX5_day_140 rfl rfl ?_
                  refine G_get hk fX5_12 dX5_day_141 (by assumption) (by rfl) (by first | decide | omega) ?_
                  have d00 := hB2.1
                  refine G_cVv hk (c_X1_becomeLike l V ad E1 12 n2 π2 R2 hB2 1 n π R hB (by omega)) mX1_becomeLike vX1_becomeLike kX5_151 dX5_day_144 (by assumption) (by rfl) (by first | decide | omega) rfl (by decide) (by decide) rfl (Nat.le_of_ble_eq_true rfl) (fun E_144 h_144 => ?_)
                  have hM := h_144
                  have hC2 := hC1.bkD hM
                  have hD2 := hM.dayB (fun _ _ => rfl)
                  have f2 := f1.tr (fr.bk hM (by omega))
                  have z0 := hC2.1
                  refine G_aload_n (i := 0) hk dX5_day_147 rfl rfl ?_
                  refine G_aload hk dX5_day_148 rfl ?_
                  refine G_iload_n (i := 3) hk dX5_day_150 rfl rfl ?_
                  refine G_iload hk dX5_day_151 rfl ?_
                  refine G_cVi hk (c_X5_playDay l V ad E_144 n rd R rp rw tr 0 la sz cl hC2 n R hD2 j (by omega) a' t (by omega)) mX5_playDay vX5_playDay kX5_155 dX5_day_153 (by assumption) (by rfl) (by first | decide | omega) rfl (by decide) (by decide) rfl (Nat.le_of_ble_eq_true rfl) (fun r_153 E_153 h_153 => ?_)
                  obtain ⟨rfl, hC3, f3, hD3⟩ := h_153
                  have z3 := hC3.1
                  have f4 := f2.tr f3
                  refine G_istore hk dX5_day_156 (by decide) rfl ?_
                  refine G_iload hk dX5_day_158 rfl ?_
                  refine G_iconst (v := 1) hk dX5_day_160 (by decide) ?_
                  refine G_icmp_ne (tgt := 167) hk dX5_day_161 (by decide) (fun c_161 => ?_) (fun c_161 => ?_)
                  · try simp only [gB_ne, gB_eq, Decidable.not_not] at c_161
                    refine G_iload hk dX5_day_167 rfl ?_
                    refine G_bipush (v := (-9)) hk dX5_day_169 (by decide) ?_
                    refine G_icmp_eq (tgt := 180) hk dX5_day_171 (by decide) (fun c_171 => ?_) (fun c_171 => ?_)
                    · try simp only [gB_ne, gB_eq, Decidable.not_not] at c_171
                      refine G_aload_n (i := 0) hk dX5_day_180 rfl rfl ?_
                      refine G_iload hk dX5_day_181 rfl ?_
                      refine G_cVi hk (c_X5_ofDay l V ad E_153 n rd R rp rw tr 0 la sz cl hC3 _ _ hD3 w) mX5_ofDay vX5_ofDay kX5_158 dX5_day_183 (by assumption) (by rfl) (by first | decide | omega) rfl (by decide) (by decide) rfl (Nat.le_of_ble_eq_true rfl) (fun r_183 E_183 h_183 => ?_)
                      obtain ⟨rfl, hC5, f5⟩ := h_183
                      refine G_iret hk dX5_day_186 ?_
                      exact ⟨by unfold vDay; rw [hixj, hixt, hixa, if_pos c_9, if_pos hok, if_pos c_80, sHcD_t hcc, if_pos rfl, if_neg hn, if_pos c_130]; unfold sDayV; rw [if_neg c_161, if_pos c_171], by unfold fDay; rw [hixj, if_pos c_9, if_pos hok, if_pos c_80, sHcD_t hcc]; exact hC5, f4.tr f5⟩
                    · try simp only [gB_ne, gB_eq, Decidable.not_not] at c_171
                      refine G_bipush (v := (-100)) hk dX5_day_174 (by decide) ?_
                      refine G_iload hk dX5_day_176 rfl ?_
                      refine G_isub hk dX5_day_178 ?_
                      refine G_iret hk dX5_day_179 ?_
                      exact ⟨by unfold vDay; rw [hixj, hixt, hixa, if_pos c_9, if_pos hok, if_pos c_80, sHcD_t hcc, if_pos rfl, if_neg hn, if_pos c_130]; unfold sDayV; rw [if_neg c_161, if_neg c_171], by unfold fDay; rw [hixj, if_pos c_9, if_pos hok, if_pos c_80, sHcD_t hcc]; exact hC3, f4⟩
                  · try simp only [gB_ne, gB_eq, Decidable.not_not] at c_161
                    refine G_iload hk dX5_day_164 rfl ?_
                    refine G_iret hk dX5_day_166 ?_
                    exact ⟨by unfold vDay; rw [hixj, hixt, hixa, if_pos c_9, if_pos hok, if_pos c_80, sHcD_t hcc, if_pos rfl, if_neg hn, if_pos c_130]; unfold sDayV; rw [if_pos (by first | exact c_161 | exact Decidable.not_not.mp c_161)], by unfold fDay; rw [hixj, if_pos c_9, if_pos hok, if_pos c_80, sHcD_t hcc]; exact hC3, f4⟩
                · try simp only [gB_ne, gB_eq, Decidable.not_not] at c_130
                  refine G_bipush (v := (-2)) hk dX5_day_133 (by decide) ?_
                  refine G_iret hk dX5_day_135 ?_
                  exact ⟨by unfold vDay; rw [hixj, hixt, hixa, if_pos c_9, if_pos hok, if_pos c_80, sHcD_t hcc, if_pos rfl, if_neg hn, if_neg c_130], by unfold fDay; rw [hixj, if_pos c_9, if_pos hok, if_pos c_80, sHcD_t hcc]; exact hC1, f1⟩
              · try simp only [gB_ne, gB_eq, Decidable.not_not] at c_116
                have hn : n = 0 := hn0.mp (by first | exact c_116 | exact Decidable.not_not.mp c_116)
                refine G_bipush (v := (-3)) hk dX5_day_119 (by decide) ?_
                refine G_iret hk dX5_day_121 ?_
                exact ⟨by unfold vDay; rw [hixj, if_pos c_9, if_pos hok, if_pos c_80, sHcD_t hcc, if_pos rfl, if_pos hn], by unfold fDay; rw [hixj, if_pos c_9, if_pos hok, if_pos c_80, sHcD_t hcc]; exact hC1, f1⟩
            · try simp only [gB_ne, gB_eq, Decidable.not_not] at c_100
              have hcc : ¬ sHc (sz j) i (2 * nI t) := c_100
              refine G_aload_n (i := 0) hk dX5_day_103 rfl rfl ?_
              refine G_iconst (v := 3) hk dX5_day_104 (by decide) ?_
              refine G_cVi hk (c_X5_faulted l V ad E1 n rd R rp rw tr 0 la sz cl hC1 3) mX5_faulted vX5_faulted kX5_51 dX5_day_105 (by assumption) (by rfl) (by first | decide | omega) rfl (by decide) (by decide) rfl (Nat.le_of_ble_eq_true rfl) (fun r_105 E_105 h_105 => ?_)
              obtain ⟨rfl, hCf, xf⟩ := h_105
              refine G_iret hk dX5_day_108 ?_
              exact ⟨by unfold vDay; rw [hixj, if_pos c_9, if_pos hok, if_pos c_80, sHcD_f hcc]; rfl, by unfold fDay; rw [hixj, if_pos c_9, if_pos hok, if_pos c_80, sHcD_f hcc]; exact hCf, f1.tr xf⟩
          · try simp only [gB_ne, gB_eq, Decidable.not_not] at c_80
            refine G_aload_n (i := 0) hk dX5_day_83 rfl rfl ?_
            refine G_iload hk dX5_day_84 rfl ?_
            refine G_cVi hk (c_X5_faulted l V ad E1 n rd R rp rw tr 0 la sz cl hC1 _) mX5_faulted vX5_faulted kX5_51 dX5_day_86 (by assumption) (by rfl) (by first | decide | omega) rfl (by decide) (by decide) rfl (Nat.le_of_ble_eq_true rfl) (fun r_86 E_86 h_86 => ?_)
            obtain ⟨rfl, hCf, xf⟩ := h_86
            refine G_iret hk dX5_day_89 ?_
            exact ⟨by unfold vDay; rw [hixj, if_pos c_9, if_pos hok, if_neg c_80], by unfold fDay; rw [hixj, if_pos c_9, if_pos hok, if_neg c_80]; exact hCf, f1.tr xf⟩
        · try simp only [gB_ne, gB_eq, Decidable.not_not] at c_44
          refine G_iload hk dX5_day_47 rfl ?_
          refine G_bipush (v := 10) hk dX5_day_49 (by decide) ?_
          refine G_bipush (v := 35) hk dX5_day_51 (by decide) ?_
          refine G_cSi hk (c_X5_isIn l V ad E1 w 10 35) mX5_isIn sX5_isIn kX5_43 dX5_day_53 rfl (by decide) (by decide) rfl (Nat.le_of_ble_eq_true rfl) (fun r_53 E_53 h_53 => ?_)
          obtain ⟨rfl, rfl⟩ := h_53
          refine G_if_ne (tgt := 62) hk dX5_day_56 (by decide) (fun c_56 => ?_) (fun c_56 => ?_)
          · try simp only [gB_ne, gB_eq, Decidable.not_not] at c_56
            have hok : ((0 ≤ a ∧ a ≤ 2) ∧ (0 ≤ m ∧ m ≤ 20)) ∧ ((0 ≤ w ∧ w ≤ 4) ∨ (10 ≤ w ∧ w ≤ 35)) := ⟨⟨c_20, c_31⟩, Or.inr c_56⟩
            obtain ⟨t, ht, rfl⟩ := gIe (n := 20) c_31.1 c_31.2 (by omega)
            have hixt : ix (nI t) = t := ix_nI (by omega)
            refine G_aload_n (i := 0) hk dX5_day_62 rfl rfl ?_
            refine G_get hk fX5_23 dX5_day_63 (by assumption) (by rfl) (by first | decide | omega) ?_
            refine G_iload_n (i := 1) hk dX5_day_66 rfl rfl ?_
            refine G_aaldRwX (j := j) hk dX5_day_67 (by assumption) rfl (by omega) (by decide) (by rfl) (by first | decide | omega) ?_
            refine G_astore hk dX5_day_68 (by decide) rfl ?_
            refine G_aload hk dX5_day_70 rfl ?_
            refine G_iload_n (i := 2) hk dX5_day_72 rfl rfl ?_
            refine G_cVi hk (c_X2_faultAs l V ad E1 (26 + 2 * j) (by omega) (la j) (nI (sz j)) a s0j) mX2_faultAs vX2_faultAs kX5_47 dX5_day_73 (by assumption) (by rfl) (by first | decide | omega) rfl (by decide) (by decide) rfl (Nat.le_of_ble_eq_true rfl) (fun r_73 E_73 h_73 => ?_)
            obtain ⟨rfl, e73⟩ := h_73
            have e73 : r_73 = sFas (la j) a := e73
            subst e73
            refine G_istore hk dX5_day_76 (by decide) rfl ?_
            refine G_iload hk dX5_day_78 rfl ?_
            refine G_if_eq (tgt := 90) hk dX5_day_80 (by decide) (fun c_80 => ?_) (fun c_80 => ?_)
            · try simp only [gB_ne, gB_eq, Decidable.not_not] at c_80
              refine G_aload hk dX5_day_90 rfl ?_
              refine G_iload_n (i := 3) hk dX5_day_92 rfl rfl ?_
              refine G_iconst (v := 2) hk dX5_day_93 (by decide) ?_
              refine G_iload hk dX5_day_94 rfl ?_
              refine G_imul hk dX5_day_96 ?_
              refine G_cVi hk (c_X2_hasCells l V ad E1 (26 + 2 * j) (by omega) (la j) (nI (sz j)) i (2 * nI t) s0j) mX2_hasCells vX2_hasCells kX5_54 dX5_day_97 (by assumption) (by rfl) (by first | decide | omega) rfl (by decide) (by decide) rfl (Nat.le_of_ble_eq_true rfl) (fun r_97 E_97 h_97 => ?_)
              obtain ⟨rfl, rfl⟩ := h_97
              refine G_if_ne (tgt := 109) hk dX5_day_100 (by decide) (fun c_100 => ?_) (fun c_100 => ?_)
              · try simp only [gB_ne, gB_eq, Decidable.not_not] at c_100
                have hcc : sHc (sz j) i (2 * nI t) := c_100
                obtain ⟨a', b', rfl, eb, hab⟩ := sHc_nat s2j hcc
                have h2t : (2 : Int32) * nI t = nI (2 * t) := by rw [show (2 : Int32) = nI 2 from rfl, pk_mul]
                have hb2 : 2 * t = b' := (neq (by omega) (by omega)).mp (h2t.symm.trans eb)
                have hixa : ix (nI a') = a' := ix_nI (by omega)
                have hn0 : nI n = 0 ↔ n = 0 := neq (b := 0) (by omega) (by omega)
                refine G_aload_n (i := 0) hk dX5_day_109 rfl rfl ?_
                refine G_get hk fX5_12 dX5_day_110 (by assumption) (by rfl) (by first | decide | omega) ?_
                refine G_get hk fX5_71 dX5_day_113 (by assumption) (by rfl) (by first | decide | omega) ?_
                refine G_if_ne (tgt := 122) hk dX5_day_116 (by decide) (fun c_116 => ?_) (fun c_116 => ?_)
                · try simp only [gB_ne, gB_eq, Decidable.not_not] at c_116
                  have hn : ¬ n = 0 := fun q => c_116 (hn0.mpr q)
                  refine G_aload hk dX5_day_122 rfl ?_
                  refine G_iload_n (i := 3) hk dX5_day_124 rfl rfl ?_
                  refine G_iload hk dX5_day_125 rfl ?_
                  refine G_cSi hk (c_X5_areActs l V ad E1 (26 + 2 * j) (by omega) (la j) (sz j) s2j (cl j) s0j s1j a' t (by omega)) mX5_areActs sX5_areActs kX5_147 dX5_day_127 rfl (by decide) (by decide) rfl (Nat.le_of_ble_eq_true rfl) (fun r_127 E_127 h_127 => ?_)
                  obtain ⟨rfl, rfl⟩ := h_127
                  refine G_if_ne (tgt := 136) hk dX5_day_130 (by decide) (fun c_130 => ?_) (fun c_130 => ?_)
                  · try simp only [gB_ne, gB_eq, Decidable.not_not] at c_130
                    refine G_aload_n (i := 0) hk dX5_day_136 rfl rfl ?_
                    refine G_get hk fX5_18 dX5_day_137 (by assumption) (by rfl) (by first | decide | omega) ?_
                    refine G_aload_n (i := 0) hk dX5_day_140 rfl rfl ?_
                    refine G_get hk fX5_12 dX5_day_141 (by assumption) (by rfl) (by first | decide | omega) ?_
                    have d00 := hB2.1
                    refine G_cVv hk (c_X1_becomeLike l V ad E1 12 n2 π2 R2 hB2 1 n π R hB (by omega)) mX1_becomeLike vX1_becomeLike kX5_151 dX5_day_144 (by assumption) (by rfl) (by first | decide | omega) rfl (by decide) (by decide) rfl (Nat.le_of_ble_eq_true rfl) (fun E_144 h_144 => ?_)
                    have hM := h_144
                    have hC2 := hC1.bkD hM
                    have hD2 := hM.dayB (fun _ _ => rfl)
                    have f2 := f1.tr (fr.bk hM (by omega))
                    have z0 := hC2.1
                    refine G_aload_n (i := 0) hk dX5_day_147 rfl rfl ?_
                    refine G_aload hk dX5_day_148 rfl ?_
                    refine G_iload_n (i := 3) hk dX5_day_150 rfl rfl ?_
                    refine G_iload hk dX5_day_151 rfl ?_
                    refine G_cVi hk (c_X5_playDay l V ad E_144 n rd R rp rw tr 0 la sz cl hC2 n R hD2 j (by omega) a' t (by omega)) mX5_playDay vX5_playDay kX5_155 dX5_day_153 (by assumption) (by rfl) (by first | decide | omega) rfl (by decide) (by decide) rfl (Nat.le_of_ble_eq_true rfl) (fun r_153 E_153 h_153 => ?_)
                    obtain ⟨rfl, hC3, f3, hD3⟩ := h_153
                    have z3 := hC3.1
                    have f4 := f2.tr f3
                    refine G_istore hk dX5_day_156 (by decide) rfl ?_
                    refine G_iload hk dX5_day_158 rfl ?_
                    refine G_iconst (v := 1) hk dX5_day_160 (by decide) ?_
                    refine G_icmp_ne (tgt := 167) hk dX5_day_161 (by decide) (fun c_161 => ?_) (fun c_161 => ?_)
                    · try simp only [gB_ne, gB_eq, Decidable.not_not] at c_161
                      refine G_iload hk dX5_day_167 rfl ?_
                      refine G_bipush (v := (-9)) hk dX5_day_169 (by decide) ?_
                      refine G_icmp_eq (tgt := 180) hk dX5_day_171 (by decide) (fun c_171 => ?_) (fun c_171 => ?_)
                      · try simp only [gB_ne, gB_eq, Decidable.not_not] at c_171
                        refine G_aload_n (i := 0) hk dX5_day_180 rfl rfl ?_
                        refine G_iload hk dX5_day_181 rfl ?_
                        refine G_cVi hk (c_X5_ofDay l V ad E_153 n rd R rp rw tr 0 la sz cl hC3 _ _ hD3 w) mX5_ofDay vX5_ofDay kX5_158 dX5_day_183 (by assumption) (by rfl) (by first | decide | omega) rfl (by decide) (by decide) rfl (Nat.le_of_ble_eq_true rfl) (fun r_183 E_183 h_183 => ?_)
                        obtain ⟨rfl, hC5, f5⟩ := h_183
                        refine G_iret hk dX5_day_186 ?_
                        exact ⟨by unfold vDay; rw [hixj, hixt, hixa, if_pos c_9, if_pos hok, if_pos c_80, sHcD_t hcc, if_pos rfl, if_neg hn, if_pos c_130]; unfold sDayV; rw [if_neg c_161, if_pos c_171], by unfold fDay; rw [hixj, if_pos c_9, if_pos hok, if_pos c_80, sHcD_t hcc]; exact hC5, f4.tr f5⟩
                      · try simp only [gB_ne, gB_eq, Decidable.not_not] at c_171
                        refine G_bipush (v := (-100)) hk dX5_day_174 (by decide) ?_
                        refine G_iload hk dX5_day_176 rfl ?_
                        refine G_isub hk dX5_day_178 ?_
                        refine G_iret hk dX5_day_179 ?_
                        exact ⟨by unfold vDay; rw [hixj, hixt, hixa, if_pos c_9, if_pos hok, if_pos c_80, sHcD_t hcc, if_pos rfl, if_neg hn, if_pos c_130]; unfold sDayV; rw [if_neg c_161, if_neg c_171], by unfold fDay; rw [hixj, if_pos c_9, if_pos hok, if_pos c_80, sHcD_t hcc]; exact hC3, f4⟩
                    · try simp only [gB_ne, gB_eq, Decidable.not_not] at c_161
                      refine G_iload hk dX5_day_164 rfl ?_
                      refine G_iret hk dX5_day_166 ?_
                      exact ⟨by unfold vDay; rw [hixj, hixt, hixa, if_pos c_9, if_pos hok, if_pos c_80, sHcD_t hcc, if_pos rfl, if_neg hn, if_pos c_130]; unfold sDayV; rw [if_pos (by first | exact c_161 | exact Decidable.not_not.mp c_161)], by unfold fDay; rw [hixj, if_pos c_9, if_pos hok, if_pos c_80, sHcD_t hcc]; exact hC3, f4⟩
                  · try simp only [gB_ne, gB_eq, Decidable.not_not] at c_130
                    refine G_bipush (v := (-2)) hk dX5_day_133 (by decide) ?_
                    refine G_iret hk dX5_day_135 ?_
                    exact ⟨by unfold vDay; rw [hixj, hixt, hixa, if_pos c_9, if_pos hok, if_pos c_80, sHcD_t hcc, if_pos rfl, if_neg hn, if_neg c_130], by unfold fDay; rw [hixj, if_pos c_9, if_pos hok, if_pos c_80, sHcD_t hcc]; exact hC1, f1⟩
                · try simp only [gB_ne, gB_eq, Decidable.not_not] at c_116
                  have hn : n = 0 := hn0.mp (by first | exact c_116 | exact Decidable.not_not.mp c_116)
                  refine G_bipush (v := (-3)) hk dX5_day_119 (by decide) ?_
                  refine G_iret hk dX5_day_121 ?_
                  exact ⟨by unfold vDay; rw [hixj, if_pos c_9, if_pos hok, if_pos c_80, sHcD_t hcc, if_pos rfl, if_pos hn], by unfold fDay; rw [hixj, if_pos c_9, if_pos hok, if_pos c_80, sHcD_t hcc]; exact hC1, f1⟩
              · try simp only [gB_ne, gB_eq, Decidable.not_not] at c_100
                have hcc : ¬ sHc (sz j) i (2 * nI t) := c_100
                refine G_aload_n (i := 0) hk dX5_day_103 rfl rfl ?_
                refine G_iconst (v := 3) hk dX5_day_104 (by decide) ?_
                refine G_cVi hk (c_X5_faulted l V ad E1 n rd R rp rw tr 0 la sz cl hC1 3) mX5_faulted vX5_faulted kX5_51 dX5_day_105 (by assumption) (by rfl) (by first | decide | omega) rfl (by decide) (by decide) rfl (Nat.le_of_ble_eq_true rfl) (fun r_105 E_105 h_105 => ?_)
                obtain ⟨rfl, hCf, xf⟩ := h_105
                refine G_iret hk dX5_day_108 ?_
                exact ⟨by unfold vDay; rw [hixj, if_pos c_9, if_pos hok, if_pos c_80, sHcD_f hcc]; rfl, by unfold fDay; rw [hixj, if_pos c_9, if_pos hok, if_pos c_80, sHcD_f hcc]; exact hCf, f1.tr xf⟩
            · try simp only [gB_ne, gB_eq, Decidable.not_not] at c_80
              refine G_aload_n (i := 0) hk dX5_day_83 rfl rfl ?_
              refine G_iload hk dX5_day_84 rfl ?_
              refine G_cVi hk (c_X5_faulted l V ad E1 n rd R rp rw tr 0 la sz cl hC1 _) mX5_faulted vX5_faulted kX5_51 dX5_day_86 (by assumption) (by rfl) (by first | decide | omega) rfl (by decide) (by decide) rfl (Nat.le_of_ble_eq_true rfl) (fun r_86 E_86 h_86 => ?_)
              obtain ⟨rfl, hCf, xf⟩ := h_86
              refine G_iret hk dX5_day_89 ?_
              exact ⟨by unfold vDay; rw [hixj, if_pos c_9, if_pos hok, if_neg c_80], by unfold fDay; rw [hixj, if_pos c_9, if_pos hok, if_neg c_80]; exact hCf, f1.tr xf⟩
          · try simp only [gB_ne, gB_eq, Decidable.not_not] at c_56
            refine G_bipush (v := (-2)) hk dX5_day_59 (by decide) ?_
            refine G_iret hk dX5_day_61 ?_
            exact ⟨by unfold vDay; rw [if_pos c_9, if_neg (fun z => z.2.elim c_44 c_56)], by unfold fDay; rw [if_pos c_9, if_neg (fun z => z.2.elim c_44 c_56)]; exact hC1, f1⟩
      · try simp only [gB_ne, gB_eq, Decidable.not_not] at c_31
        refine G_bipush (v := (-2)) hk dX5_day_34 (by decide) ?_
        refine G_iret hk dX5_day_36 ?_
        exact ⟨by unfold vDay; rw [if_pos c_9, if_neg (fun z => c_31 z.1.2)], by unfold fDay; rw [if_pos c_9, if_neg (fun z => c_31 z.1.2)]; exact hC1, f1⟩
  · try simp only [gB_ne, gB_eq, Decidable.not_not] at c_9
    refine G_iconst (v := (-1)) hk dX5_day_12 (by decide) ?_
    refine G_iret hk dX5_day_13 ?_
    exact ⟨by unfold vDay; rw [if_neg c_9], by unfold fDay; rw [if_neg c_9]; exact hC1, f1⟩
