set_option maxHeartbeats 4000000 in
set_option maxRecDepth 100000 in
theorem c_X6_within (l : Launch) (V : gV) (ad : Nat → Nat) (E : Nat → va_E) (v a b : Int32) : Ct l V ad 44 44 yX6_within cX6_within 3 (some .boolean) { frames := 0, cells := 0, slots := 0, locals := 0 } [.int v, .int a, .int b] E (pI ad (pS E (gB (a ≤ v ∧ v ≤ b)))) := by
  refine gCt mX6_within (Nat.le_of_ble_eq_true rfl) ?_
  intro K hk
  refine G_iload_n (i := 0) hk dX6_within_0 rfl rfl ?_
  refine G_iload_n (i := 1) hk dX6_within_1 rfl rfl ?_
  refine G_icmp_lt (tgt := 14) hk dX6_within_2 (by decide) (fun c_2 => ?_) (fun c_2 => ?_)
  · try simp only [gB_ne, gB_eq, Decidable.not_not] at c_2
    refine G_iconst (v := 0) hk dX6_within_14 (by decide) ?_
    refine G_zret hk dX6_within_15 (by first | rfl | exact gB_nar _) ?_
    exact ⟨rfl, by first | (simp [gB, *]; done) | exact (gB_t (by (simp only [fa_lt, fa_le, fa_eq, iT_0, iT_1, iT_2, iT_3, iT_4, iT_5, iT_6, iT_7, iT_9, iT_10, iT_20, iT_25, iT_26, iTm1, iTm2, iTm3, iTm4, iTm9] at *; omega))).symm | exact (gB_f (by (simp only [fa_lt, fa_le, fa_eq, iT_0, iT_1, iT_2, iT_3, iT_4, iT_5, iT_6, iT_7, iT_9, iT_10, iT_20, iT_25, iT_26, iTm1, iTm2, iTm3, iTm4, iTm9] at *; omega))).symm⟩
  · try simp only [gB_ne, gB_eq, Decidable.not_not] at c_2
    refine G_iload_n (i := 0) hk dX6_within_5 rfl rfl ?_
    refine G_iload_n (i := 2) hk dX6_within_6 rfl rfl ?_
    refine G_icmp_gt (tgt := 14) hk dX6_within_7 (by decide) (fun c_7 => ?_) (fun c_7 => ?_)
    · try simp only [gB_ne, gB_eq, Decidable.not_not] at c_7
      refine G_iconst (v := 0) hk dX6_within_14 (by decide) ?_
      refine G_zret hk dX6_within_15 (by first | rfl | exact gB_nar _) ?_
      exact ⟨rfl, by first | (simp [gB, *]; done) | exact (gB_t (by (simp only [fa_lt, fa_le, fa_eq, iT_0, iT_1, iT_2, iT_3, iT_4, iT_5, iT_6, iT_7, iT_9, iT_10, iT_20, iT_25, iT_26, iTm1, iTm2, iTm3, iTm4, iTm9] at *; omega))).symm | exact (gB_f (by (simp only [fa_lt, fa_le, fa_eq, iT_0, iT_1, iT_2, iT_3, iT_4, iT_5, iT_6, iT_7, iT_9, iT_10, iT_20, iT_25, iT_26, iTm1, iTm2, iTm3, iTm4, iTm9] at *; omega))).symm⟩
    · try simp only [gB_ne, gB_eq, Decidable.not_not] at c_7
      refine G_iconst (v := 1) hk dX6_within_10 (by decide) ?_
      refine G_goto (tgt := 15) hk dX6_within_11 (by decide) ?_
      refine G_zret hk dX6_within_15 (by first | rfl | exact gB_nar _) ?_
      exact ⟨rfl, by first | (simp [gB, *]; done) | exact (gB_t (by (simp only [fa_lt, fa_le, fa_eq, iT_0, iT_1, iT_2, iT_3, iT_4, iT_5, iT_6, iT_7, iT_9, iT_10, iT_20, iT_25, iT_26, iTm1, iTm2, iTm3, iTm4, iTm9] at *; omega))).symm | exact (gB_f (by (simp only [fa_lt, fa_le, fa_eq, iT_0, iT_1, iT_2, iT_3, iT_4, iT_5, iT_6, iT_7, iT_9, iT_10, iT_20, iT_25, iT_26, iTm1, iTm2, iTm3, iTm4, iTm9] at *; omega))).symm⟩

set_option maxHeartbeats 4000000 in
set_option maxRecDepth 100000 in
theorem c_X6_isSheet (l : Launch) (V : gV) (ad : Nat → Nat) (E : Nat → va_E) (v : Int32) : Ct l V ad 44 44 yX6_isSheet cX6_isSheet 1 (some .boolean) { frames := 1, cells := 0, slots := 0, locals := 22 } [.int v] E (pI ad (pS E (gB (0 ≤ v ∧ v ≤ 3)))) := by
  refine gCt mX6_isSheet (Nat.le_of_ble_eq_true rfl) ?_
  intro K hk
  refine G_iload_n (i := 0) hk dX6_isSheet_0 rfl rfl ?_
  refine G_iconst (v := 0) hk dX6_isSheet_1 (by decide) ?_
  refine G_iconst (v := 3) hk dX6_isSheet_2 (by decide) ?_
  refine G_cSi hk (c_X6_within l V ad E v 0 3) mX6_within sX6_within kX6_43 dX6_isSheet_3 rfl (by decide) (by decide) rfl (Nat.le_of_ble_eq_true rfl) (fun r_3 E_3 h_3 => ?_)
  obtain ⟨rfl, rfl⟩ := h_3
  refine G_zret hk dX6_isSheet_6 (by first | rfl | exact gB_nar _) ?_
  exact ⟨rfl, rfl⟩

set_option maxHeartbeats 4000000 in
set_option maxRecDepth 100000 in
theorem c_X6_isSort (l : Launch) (V : gV) (ad : Nat → Nat) (E : Nat → va_E) (v : Int32) : Ct l V ad 44 44 yX6_isSort cX6_isSort 1 (some .boolean) { frames := 1, cells := 0, slots := 0, locals := 22 } [.int v] E (pI ad (pS E (gB (0 ≤ v ∧ v ≤ 2)))) := by
  refine gCt mX6_isSort (Nat.le_of_ble_eq_true rfl) ?_
  intro K hk
  refine G_iload_n (i := 0) hk dX6_isSort_0 rfl rfl ?_
  refine G_iconst (v := 0) hk dX6_isSort_1 (by decide) ?_
  refine G_iconst (v := 2) hk dX6_isSort_2 (by decide) ?_
  refine G_cSi hk (c_X6_within l V ad E v 0 2) mX6_within sX6_within kX6_43 dX6_isSort_3 rfl (by decide) (by decide) rfl (Nat.le_of_ble_eq_true rfl) (fun r_3 E_3 h_3 => ?_)
  obtain ⟨rfl, rfl⟩ := h_3
  refine G_zret hk dX6_isSort_6 (by first | rfl | exact gB_nar _) ?_
  exact ⟨rfl, rfl⟩

set_option maxHeartbeats 4000000 in
set_option maxRecDepth 100000 in
theorem c_X6_isPoint (l : Launch) (V : gV) (ad : Nat → Nat) (E : Nat → va_E) (v : Int32) : Ct l V ad 44 44 yX6_isPoint cX6_isPoint 1 (some .boolean) { frames := 1, cells := 0, slots := 0, locals := 22 } [.int v] E (pI ad (pS E (gB (0 ≤ v ∧ v ≤ 25)))) := by
  refine gCt mX6_isPoint (Nat.le_of_ble_eq_true rfl) ?_
  intro K hk
  refine G_iload_n (i := 0) hk dX6_isPoint_0 rfl rfl ?_
  refine G_iconst (v := 0) hk dX6_isPoint_1 (by decide) ?_
  refine G_bipush (v := 25) hk dX6_isPoint_2 (by decide) ?_
  refine G_cSi hk (c_X6_within l V ad E v 0 25) mX6_within sX6_within kX6_43 dX6_isPoint_4 rfl (by decide) (by decide) rfl (Nat.le_of_ble_eq_true rfl) (fun r_4 E_4 h_4 => ?_)
  obtain ⟨rfl, rfl⟩ := h_4
  refine G_zret hk dX6_isPoint_7 (by first | rfl | exact gB_nar _) ?_
  exact ⟨rfl, rfl⟩

set_option maxHeartbeats 4000000 in
set_option maxRecDepth 100000 in
theorem c_X6_isRule (l : Launch) (V : gV) (ad : Nat → Nat) (E : Nat → va_E) (fa tr at1 rr rd : Int32) (n : Nat) (pa : Nat → Int32) (dn wo : Int32) (dl : Nat → Int32) (hM : mK V ad E fa tr at1 rr rd n pa dn wo dl) (x : Int32) : Ct l V ad 44 44 yX6_isRule cX6_isRule 2 (some .boolean) { frames := 0, cells := 0, slots := 0, locals := 0 } [.ref (ad 34), .int x] E (pI ad (pS E (gB (0 ≤ x ∧ x < nI n)))) := by
  refine gCt mX6_isRule (Nat.le_of_ble_eq_true rfl) ?_
  intro K hk
  obtain ⟨m0, m1, m2, m3⟩ := id hM
  refine G_iload_n (i := 1) hk dX6_isRule_0 rfl rfl ?_
  refine G_if_lt (tgt := 16) hk dX6_isRule_1 (by decide) (fun c_1 => ?_) (fun c_1 => ?_)
  · try simp only [gB_ne, gB_eq, Decidable.not_not] at c_1
    refine G_iconst (v := 0) hk dX6_isRule_16 (by decide) ?_
    refine G_zret hk dX6_isRule_17 (by first | rfl | exact gB_nar _) ?_
    exact ⟨rfl, by first | (simp [gB, *]; done) | exact (gB_t (by (simp only [fa_lt, fa_le, fa_eq, iT_0, iT_1, iT_2, iT_3, iT_4, iT_5, iT_6, iT_7, iT_9, iT_10, iT_20, iT_25, iT_26, iTm1, iTm2, iTm3, iTm4, iTm9] at *; omega))).symm | exact (gB_f (by (simp only [fa_lt, fa_le, fa_eq, iT_0, iT_1, iT_2, iT_3, iT_4, iT_5, iT_6, iT_7, iT_9, iT_10, iT_20, iT_25, iT_26, iTm1, iTm2, iTm3, iTm4, iTm9] at *; omega))).symm⟩
  · try simp only [gB_ne, gB_eq, Decidable.not_not] at c_1
    refine G_iload_n (i := 1) hk dX6_isRule_4 rfl rfl ?_
    refine G_aload_n (i := 0) hk dX6_isRule_5 rfl rfl ?_
    refine G_get hk fX6_47 dX6_isRule_6 (by assumption) (by rfl) (by first | decide | omega) ?_
    refine G_icmp_ge (tgt := 16) hk dX6_isRule_9 (by decide) (fun c_9 => ?_) (fun c_9 => ?_)
    · try simp only [gB_ne, gB_eq, Decidable.not_not] at c_9
      refine G_iconst (v := 0) hk dX6_isRule_16 (by decide) ?_
      refine G_zret hk dX6_isRule_17 (by first | rfl | exact gB_nar _) ?_
      exact ⟨rfl, by first | (simp [gB, *]; done) | exact (gB_t (by (simp only [fa_lt, fa_le, fa_eq, iT_0, iT_1, iT_2, iT_3, iT_4, iT_5, iT_6, iT_7, iT_9, iT_10, iT_20, iT_25, iT_26, iTm1, iTm2, iTm3, iTm4, iTm9] at *; omega))).symm | exact (gB_f (by (simp only [fa_lt, fa_le, fa_eq, iT_0, iT_1, iT_2, iT_3, iT_4, iT_5, iT_6, iT_7, iT_9, iT_10, iT_20, iT_25, iT_26, iTm1, iTm2, iTm3, iTm4, iTm9] at *; omega))).symm⟩
    · try simp only [gB_ne, gB_eq, Decidable.not_not] at c_9
      refine G_iconst (v := 1) hk dX6_isRule_12 (by decide) ?_
      refine G_goto (tgt := 17) hk dX6_isRule_13 (by decide) ?_
      refine G_zret hk dX6_isRule_17 (by first | rfl | exact gB_nar _) ?_
      exact ⟨rfl, by first | (simp [gB, *]; done) | exact (gB_t (by (simp only [fa_lt, fa_le, fa_eq, iT_0, iT_1, iT_2, iT_3, iT_4, iT_5, iT_6, iT_7, iT_9, iT_10, iT_20, iT_25, iT_26, iTm1, iTm2, iTm3, iTm4, iTm9] at *; omega))).symm | exact (gB_f (by (simp only [fa_lt, fa_le, fa_eq, iT_0, iT_1, iT_2, iT_3, iT_4, iT_5, iT_6, iT_7, iT_9, iT_10, iT_20, iT_25, iT_26, iTm1, iTm2, iTm3, iTm4, iTm9] at *; omega))).symm⟩

set_option maxHeartbeats 4000000 in
set_option maxRecDepth 100000 in
theorem c_X6_kindOf (l : Launch) (V : gV) (ad : Nat → Nat) (E : Nat → va_E) (fa tr at1 rr rd : Int32) (n : Nat) (pa : Nat → Int32) (dn wo : Int32) (dl : Nat → Int32) (hM : mK V ad E fa tr at1 rr rd n pa dn wo dl) (j : Nat) (hj : j < 7) : Ct l V ad 44 44 yX6_kindOf cX6_kindOf 2 (some .int) { frames := 0, cells := 0, slots := 0, locals := 0 } [.ref (ad 34), .int (nI j)] E (pI ad (pS E (pR pa j 0))) := by
  refine gCt mX6_kindOf (Nat.le_of_ble_eq_true rfl) ?_
  intro K hk
  obtain ⟨m0, m1, m2, m3⟩ := id hM
  refine G_aload_n (i := 0) hk dX6_kindOf_0 rfl rfl ?_
  refine G_get hk fX6_19 dX6_kindOf_1 (by assumption) (by rfl) (by first | decide | omega) ?_
  refine G_iconst (v := 5) hk dX6_kindOf_4 (by decide) ?_
  refine G_iload_n (i := 1) hk dX6_kindOf_5 rfl rfl ?_
  refine G_imul hk dX6_kindOf_6 ?_
  refine G_ialdX (j := (5 * j)) hk dX6_kindOf_7 (by assumption) (pk_mul 5 j) (by omega) (by decide) (by first | decide | omega) ?_
  refine G_iret hk dX6_kindOf_8 ?_
  exact ⟨rfl, rfl⟩

set_option maxHeartbeats 4000000 in
set_option maxRecDepth 100000 in
theorem c_X6_deedOf (l : Launch) (V : gV) (ad : Nat → Nat) (E : Nat → va_E) (fa tr at1 rr rd : Int32) (n : Nat) (pa : Nat → Int32) (dn wo : Int32) (dl : Nat → Int32) (hM : mK V ad E fa tr at1 rr rd n pa dn wo dl) (j : Nat) (hj : j < 7) : Ct l V ad 44 44 yX6_deedOf cX6_deedOf 2 (some .int) { frames := 0, cells := 0, slots := 0, locals := 0 } [.ref (ad 34), .int (nI j)] E (pI ad (pS E (pR pa j 1))) := by
  refine gCt mX6_deedOf (Nat.le_of_ble_eq_true rfl) ?_
  intro K hk
  obtain ⟨m0, m1, m2, m3⟩ := id hM
  refine G_aload_n (i := 0) hk dX6_deedOf_0 rfl rfl ?_
  refine G_get hk fX6_19 dX6_deedOf_1 (by assumption) (by rfl) (by first | decide | omega) ?_
  refine G_iconst (v := 5) hk dX6_deedOf_4 (by decide) ?_
  refine G_iload_n (i := 1) hk dX6_deedOf_5 rfl rfl ?_
  refine G_imul hk dX6_deedOf_6 ?_
  rw [show (5 : Int32) * nI j = nI (5 * j) from pk_mul 5 j]
  refine G_iconst (v := 1) hk dX6_deedOf_7 (by decide) ?_
  refine G_iadd hk dX6_deedOf_8 ?_
  refine G_ialdX (j := (5 * j + 1)) hk dX6_deedOf_9 (by assumption) (nI_add _ 1) (by omega) (by decide) (by first | decide | omega) ?_
  refine G_iret hk dX6_deedOf_10 ?_
  exact ⟨rfl, rfl⟩

set_option maxHeartbeats 4000000 in
set_option maxRecDepth 100000 in
theorem c_X6_numberOf (l : Launch) (V : gV) (ad : Nat → Nat) (E : Nat → va_E) (fa tr at1 rr rd : Int32) (n : Nat) (pa : Nat → Int32) (dn wo : Int32) (dl : Nat → Int32) (hM : mK V ad E fa tr at1 rr rd n pa dn wo dl) (j : Nat) (hj : j < 7) : Ct l V ad 44 44 yX6_numberOf cX6_numberOf 2 (some .int) { frames := 0, cells := 0, slots := 0, locals := 0 } [.ref (ad 34), .int (nI j)] E (pI ad (pS E (pR pa j 2))) := by
  refine gCt mX6_numberOf (Nat.le_of_ble_eq_true rfl) ?_
  intro K hk
  obtain ⟨m0, m1, m2, m3⟩ := id hM
  refine G_aload_n (i := 0) hk dX6_numberOf_0 rfl rfl ?_
  refine G_get hk fX6_19 dX6_numberOf_1 (by assumption) (by rfl) (by first | decide | omega) ?_
  refine G_iconst (v := 5) hk dX6_numberOf_4 (by decide) ?_
  refine G_iload_n (i := 1) hk dX6_numberOf_5 rfl rfl ?_
  refine G_imul hk dX6_numberOf_6 ?_
  rw [show (5 : Int32) * nI j = nI (5 * j) from pk_mul 5 j]
  refine G_iconst (v := 2) hk dX6_numberOf_7 (by decide) ?_
  refine G_iadd hk dX6_numberOf_8 ?_
  refine G_ialdX (j := (5 * j + 2)) hk dX6_numberOf_9 (by assumption) (nI_add _ 2) (by omega) (by decide) (by first | decide | omega) ?_
  refine G_iret hk dX6_numberOf_10 ?_
  exact ⟨rfl, rfl⟩

set_option maxHeartbeats 4000000 in
set_option maxRecDepth 100000 in
theorem c_X6_hasPoint (l : Launch) (V : gV) (ad : Nat → Nat) (E : Nat → va_E) (fa tr at1 rr rd : Int32) (n : Nat) (pa : Nat → Int32) (dn wo : Int32) (dl : Nat → Int32) (hM : mK V ad E fa tr at1 rr rd n pa dn wo dl) (j : Nat) (hj : j < 7) (x : Int32) : Ct l V ad 44 44 yX6_hasPoint cX6_hasPoint 3 (some .boolean) { frames := 0, cells := 0, slots := 0, locals := 0 } [.ref (ad 34), .int (nI j), .int x] E (pI ad (pS E (gB (sHas (pR pa j) x)))) := by
  refine gCt mX6_hasPoint (Nat.le_of_ble_eq_true rfl) ?_
  intro K hk
  obtain ⟨m0, m1, m2, m3⟩ := id hM
  refine G_iload_n (i := 2) hk dX6_hasPoint_0 rfl rfl ?_
  refine G_aload_n (i := 0) hk dX6_hasPoint_1 rfl rfl ?_
  refine G_get hk fX6_19 dX6_hasPoint_2 (by assumption) (by rfl) (by first | decide | omega) ?_
  refine G_iconst (v := 5) hk dX6_hasPoint_5 (by decide) ?_
  refine G_iload_n (i := 1) hk dX6_hasPoint_6 rfl rfl ?_
  refine G_imul hk dX6_hasPoint_7 ?_
  rw [show (5 : Int32) * nI j = nI (5 * j) from pk_mul 5 j]
  refine G_iconst (v := 3) hk dX6_hasPoint_8 (by decide) ?_
  refine G_iadd hk dX6_hasPoint_9 ?_
  refine G_ialdX (j := (5 * j + 3)) hk dX6_hasPoint_10 (by assumption) (nI_add _ 3) (by omega) (by decide) (by first | decide | omega) ?_
  refine G_icmp_lt (tgt := 32) hk dX6_hasPoint_11 (by decide) (fun c_11 => ?_) (fun c_11 => ?_)
  · try simp only [gB_ne, gB_eq, Decidable.not_not] at c_11
    refine G_iconst (v := 0) hk dX6_hasPoint_32 (by decide) ?_
    refine G_zret hk dX6_hasPoint_33 (by first | rfl | exact gB_nar _) ?_
    first | exact ⟨rfl, (gB_f (fun z => absurd z.1 (Int32.not_le.mpr c_11))).symm⟩ | exact ⟨rfl, (gB_f (fun z => absurd z.2 (Int32.not_le.mpr c_25))).symm⟩ | exact ⟨rfl, (gB_t ⟨Int32.not_lt.mp c_11, Int32.not_lt.mp c_25⟩).symm⟩
  · try simp only [gB_ne, gB_eq, Decidable.not_not] at c_11
    refine G_iload_n (i := 2) hk dX6_hasPoint_14 rfl rfl ?_
    refine G_aload_n (i := 0) hk dX6_hasPoint_15 rfl rfl ?_
    refine G_get hk fX6_19 dX6_hasPoint_16 (by assumption) (by rfl) (by first | decide | omega) ?_
    refine G_iconst (v := 5) hk dX6_hasPoint_19 (by decide) ?_
    refine G_iload_n (i := 1) hk dX6_hasPoint_20 rfl rfl ?_
    refine G_imul hk dX6_hasPoint_21 ?_
    rw [show (5 : Int32) * nI j = nI (5 * j) from pk_mul 5 j]
    refine G_iconst (v := 4) hk dX6_hasPoint_22 (by decide) ?_
    refine G_iadd hk dX6_hasPoint_23 ?_
    refine G_ialdX (j := (5 * j + 4)) hk dX6_hasPoint_24 (by assumption) (nI_add _ 4) (by omega) (by decide) (by first | decide | omega) ?_
    refine G_icmp_gt (tgt := 32) hk dX6_hasPoint_25 (by decide) (fun c_25 => ?_) (fun c_25 => ?_)
    · try simp only [gB_ne, gB_eq, Decidable.not_not] at c_25
      refine G_iconst (v := 0) hk dX6_hasPoint_32 (by decide) ?_
      refine G_zret hk dX6_hasPoint_33 (by first | rfl | exact gB_nar _) ?_
      first | exact ⟨rfl, (gB_f (fun z => absurd z.1 (Int32.not_le.mpr c_11))).symm⟩ | exact ⟨rfl, (gB_f (fun z => absurd z.2 (Int32.not_le.mpr c_25))).symm⟩ | exact ⟨rfl, (gB_t ⟨Int32.not_lt.mp c_11, Int32.not_lt.mp c_25⟩).symm⟩
    · try simp only [gB_ne, gB_eq, Decidable.not_not] at c_25
      refine G_iconst (v := 1) hk dX6_hasPoint_28 (by decide) ?_
      refine G_goto (tgt := 33) hk dX6_hasPoint_29 (by decide) ?_
      refine G_zret hk dX6_hasPoint_33 (by first | rfl | exact gB_nar _) ?_
      first | exact ⟨rfl, (gB_f (fun z => absurd z.1 (Int32.not_le.mpr c_11))).symm⟩ | exact ⟨rfl, (gB_f (fun z => absurd z.2 (Int32.not_le.mpr c_25))).symm⟩ | exact ⟨rfl, (gB_t ⟨Int32.not_lt.mp c_11, Int32.not_lt.mp c_25⟩).symm⟩

set_option maxHeartbeats 4000000 in
set_option maxRecDepth 100000 in
theorem c_X6_worthOf (l : Launch) (V : gV) (ad : Nat → Nat) (E : Nat → va_E) (fa tr at1 rr rd : Int32) (n : Nat) (pa : Nat → Int32) (dn wo : Int32) (dl : Nat → Int32) (hM : mK V ad E fa tr at1 rr rd n pa dn wo dl) (j : Nat) (hj : j < 7) (ho : rOk (pR pa j)) : Ct l V ad 44 44 yX6_worthOf cX6_worthOf 2 (some .int) { frames := 1, cells := 0, slots := 0, locals := 21 } [.ref (ad 34), .int (nI j)] E (pI ad (pS E (sWr (pR pa j)))) := by
  refine gCt mX6_worthOf (Nat.le_of_ble_eq_true rfl) ?_
  intro K hk
  obtain ⟨m0, m1, m2, m3⟩ := id hM
  refine G_aload_n (i := 0) hk dX6_worthOf_0 rfl rfl ?_
  refine G_iload_n (i := 1) hk dX6_worthOf_1 rfl rfl ?_
  refine G_cVi hk (c_X6_kindOf l V ad E fa tr at1 rr rd n pa dn wo dl hM j hj) mX6_kindOf vX6_kindOf kX6_50 dX6_worthOf_2 (by assumption) (by rfl) (by first | decide | omega) rfl (by decide) (by decide) rfl (Nat.le_of_ble_eq_true rfl) (fun r_2 E_2 h_2 => ?_)
  obtain ⟨rfl, rfl⟩ := h_2
  refine G_if_ne (tgt := 16) hk dX6_worthOf_5 (by decide) (fun c_5 => ?_) (fun c_5 => ?_)
  · try simp only [gB_ne, gB_eq, Decidable.not_not] at c_5
    refine G_aload_n (i := 0) hk dX6_worthOf_16 rfl rfl ?_
    refine G_iload_n (i := 1) hk dX6_worthOf_17 rfl rfl ?_
    refine G_cVi hk (c_X6_kindOf l V ad E fa tr at1 rr rd n pa dn wo dl hM j hj) mX6_kindOf vX6_kindOf kX6_50 dX6_worthOf_18 (by assumption) (by rfl) (by first | decide | omega) rfl (by decide) (by decide) rfl (Nat.le_of_ble_eq_true rfl) (fun r_18 E_18 h_18 => ?_)
    obtain ⟨rfl, rfl⟩ := h_18
    refine G_iconst (v := 1) hk dX6_worthOf_21 (by decide) ?_
    refine G_icmp_ne (tgt := 35) hk dX6_worthOf_22 (by decide) (fun c_22 => ?_) (fun c_22 => ?_)
    · try simp only [gB_ne, gB_eq, Decidable.not_not] at c_22
      refine G_iconst (v := 2) hk dX6_worthOf_35 (by decide) ?_
      refine G_aload_n (i := 0) hk dX6_worthOf_36 rfl rfl ?_
      refine G_iload_n (i := 1) hk dX6_worthOf_37 rfl rfl ?_
      refine G_cVi hk (c_X6_numberOf l V ad E fa tr at1 rr rd n pa dn wo dl hM j hj) mX6_numberOf vX6_numberOf kX6_54 dX6_worthOf_38 (by assumption) (by rfl) (by first | decide | omega) rfl (by decide) (by decide) rfl (Nat.le_of_ble_eq_true rfl) (fun r_38 E_38 h_38 => ?_)
      obtain ⟨rfl, rfl⟩ := h_38
      refine G_imul hk dX6_worthOf_41 ?_
      refine G_iret hk dX6_worthOf_42 ?_
      refine ⟨rfl, ?_⟩
      unfold sWr
      first
        | (have c : pR pa j 0 = 0 := by first | exact c_5 | exact Decidable.not_not.mp c_5
           rw [if_neg (by rw [c]; decide), if_neg (by rw [c]; decide)]; done)
        | (rw [if_pos (by first | exact c_22 | exact Decidable.not_not.mp c_22)]; done)
        | (rw [if_neg c_22, if_pos (ho.1.elim (fun q => absurd q c_5) (fun q => q.elim (fun z => absurd z c_22) id))]; done)
    · try simp only [gB_ne, gB_eq, Decidable.not_not] at c_22
      refine G_aload_n (i := 0) hk dX6_worthOf_25 rfl rfl ?_
      refine G_iload_n (i := 1) hk dX6_worthOf_26 rfl rfl ?_
      refine G_cVi hk (c_X6_numberOf l V ad E fa tr at1 rr rd n pa dn wo dl hM j hj) mX6_numberOf vX6_numberOf kX6_54 dX6_worthOf_27 (by assumption) (by rfl) (by first | decide | omega) rfl (by decide) (by decide) rfl (Nat.le_of_ble_eq_true rfl) (fun r_27 E_27 h_27 => ?_)
      obtain ⟨rfl, rfl⟩ := h_27
      refine G_iconst (v := 1) hk dX6_worthOf_30 (by decide) ?_
      refine G_iadd hk dX6_worthOf_31 ?_
      refine G_goto (tgt := 42) hk dX6_worthOf_32 (by decide) ?_
      refine G_iret hk dX6_worthOf_42 ?_
      refine ⟨rfl, ?_⟩
      unfold sWr
      first
        | (have c : pR pa j 0 = 0 := by first | exact c_5 | exact Decidable.not_not.mp c_5
           rw [if_neg (by rw [c]; decide), if_neg (by rw [c]; decide)]; done)
        | (rw [if_pos (by first | exact c_22 | exact Decidable.not_not.mp c_22)]; done)
        | (rw [if_neg c_22, if_pos (ho.1.elim (fun q => absurd q c_5) (fun q => q.elim (fun z => absurd z c_22) id))]; done)
  · try simp only [gB_ne, gB_eq, Decidable.not_not] at c_5
    refine G_aload_n (i := 0) hk dX6_worthOf_8 rfl rfl ?_
    refine G_iload_n (i := 1) hk dX6_worthOf_9 rfl rfl ?_
    refine G_cVi hk (c_X6_numberOf l V ad E fa tr at1 rr rd n pa dn wo dl hM j hj) mX6_numberOf vX6_numberOf kX6_54 dX6_worthOf_10 (by assumption) (by rfl) (by first | decide | omega) rfl (by decide) (by decide) rfl (Nat.le_of_ble_eq_true rfl) (fun r_10 E_10 h_10 => ?_)
    obtain ⟨rfl, rfl⟩ := h_10
    refine G_goto (tgt := 42) hk dX6_worthOf_13 (by decide) ?_
    refine G_iret hk dX6_worthOf_42 ?_
    refine ⟨rfl, ?_⟩
    unfold sWr
    first
      | (have c : pR pa j 0 = 0 := by first | exact c_5 | exact Decidable.not_not.mp c_5
         rw [if_neg (by rw [c]; decide), if_neg (by rw [c]; decide)]; done)
      | (rw [if_pos (by first | exact c_22 | exact Decidable.not_not.mp c_22)]; done)
      | (rw [if_neg c_22, if_pos (ho.1.elim (fun q => absurd q c_5) (fun q => q.elim (fun z => absurd z c_22) id))]; done)

set_option maxHeartbeats 4000000 in
set_option maxRecDepth 100000 in
theorem lp_X6_firstOf {l : Launch} {V : gV} {ad : Nat → Nat} {K : gX} (hk : gOk l { frames := 1, cells := 0, slots := 0, locals := 22 } K V cX6_firstOf 5 RX6 (some .int) yX6_firstOf.name) (E : Nat → va_E) (fa tr at1 rr rd : Int32) (n : Nat) (pa : Nat → Int32) (dn wo : Int32) (dl : Nat → Int32) (hM : mK V ad E fa tr at1 rr rd n pa dn wo dl) (x : Int32) (w : Nat) (wi : Int32) (hw : ∀ r, r < 7 → (nI r = wi ↔ r = w)) : ∀ (k r : Nat) (val : Int32), n < r + k → r ≤ n → val = nI (sFn (pR pa) w x n r) → G K V 5 (gQ K V 44 0 0 (pI ad (pS E val))) ad 44 0 0 3 [(0, .ref (ad 34)), (1, .int x), (3, .int wi), (4, .int (nI r))] [] E := by
  obtain ⟨m0, m1, m2, m3⟩ := id hM
  intro k
  induction k with
  | zero => intro r val hr; omega
  | succ k ih =>
    intro r val hr hrn hv
    refine G_iload hk dX6_firstOf_3 rfl ?_
    refine G_aload_n (i := 0) hk dX6_firstOf_5 rfl rfl ?_
    refine G_get hk fX6_47 dX6_firstOf_6 (by assumption) (by rfl) (by first | decide | omega) ?_
    refine G_icmp_ge (tgt := 34) hk dX6_firstOf_9 (by decide) (fun c_9 => ?_) (fun c_9 => ?_)
    · try simp only [gB_ne, gB_eq, Decidable.not_not] at c_9
      have hge : n ≤ r := (nle (by omega) (by omega)).mp c_9
      refine G_iload hk dX6_firstOf_34 rfl ?_
      refine G_iret hk dX6_firstOf_36 ?_
      exact ⟨rfl, by rw [hv, sFn_end hge]⟩
    · try simp only [gB_ne, gB_eq, Decidable.not_not] at c_9
      have hlt : r < n := Nat.lt_of_not_le (fun q => c_9 ((nle (by omega) (by omega)).mpr q))
      have hwr := hw r (by omega)
      refine G_iload hk dX6_firstOf_12 rfl ?_
      refine G_iload_n (i := 3) hk dX6_firstOf_14 rfl rfl ?_
      refine G_icmp_eq (tgt := 28) hk dX6_firstOf_15 (by decide) (fun c_15 => ?_) (fun c_15 => ?_)
      · try simp only [gB_ne, gB_eq, Decidable.not_not] at c_15
        refine G_iinc (v := nI (r + 1)) hk dX6_firstOf_28 rfl (nI_inc r) (by decide) rfl ?_
        refine G_goto (tgt := 3) hk dX6_firstOf_31 (by decide) ?_
        exact G_lv (by exact And.intro rfl (And.intro rfl (And.intro rfl (And.intro rfl (trivial))))) (ih (r + 1) val (by omega) (by omega) (by rw [hv, sFn_miss hlt (fun q => q.1 (hwr.mp c_15))]))
      · try simp only [gB_ne, gB_eq, Decidable.not_not] at c_15
        have hnw : r ≠ w := fun q => c_15 (hwr.mpr q)
        refine G_aload_n (i := 0) hk dX6_firstOf_18 rfl rfl ?_
        refine G_iload hk dX6_firstOf_19 rfl ?_
        refine G_iload_n (i := 1) hk dX6_firstOf_21 rfl rfl ?_
        refine G_cVi hk (c_X6_hasPoint l V ad E fa tr at1 rr rd n pa dn wo dl hM r (by omega) x) mX6_hasPoint vX6_hasPoint kX6_94 dX6_firstOf_22 (by assumption) (by rfl) (by first | decide | omega) rfl (by decide) (by decide) rfl (Nat.le_of_ble_eq_true rfl) (fun r_22 E_22 h_22 => ?_)
        obtain ⟨rfl, rfl⟩ := h_22
        refine G_if_ne (tgt := 34) hk dX6_firstOf_25 (by decide) (fun c_25 => ?_) (fun c_25 => ?_)
        · try simp only [gB_ne, gB_eq, Decidable.not_not] at c_25
          refine G_iload hk dX6_firstOf_34 rfl ?_
          refine G_iret hk dX6_firstOf_36 ?_
          exact ⟨rfl, by rw [hv, sFn_hit hlt hnw c_25]⟩
        · try simp only [gB_ne, gB_eq, Decidable.not_not] at c_25
          refine G_iinc (v := nI (r + 1)) hk dX6_firstOf_28 rfl (nI_inc r) (by decide) rfl ?_
          refine G_goto (tgt := 3) hk dX6_firstOf_31 (by decide) ?_
          exact G_lv (by exact And.intro rfl (And.intro rfl (And.intro rfl (And.intro rfl (trivial))))) (ih (r + 1) val (by omega) (by omega) (by rw [hv, sFn_miss hlt (fun q => c_25 q.2)]))

set_option maxHeartbeats 4000000 in
set_option maxRecDepth 100000 in
theorem c_X6_firstOf (l : Launch) (V : gV) (ad : Nat → Nat) (E : Nat → va_E) (fa tr at1 rr rd : Int32) (n : Nat) (pa : Nat → Int32) (dn wo : Int32) (dl : Nat → Int32) (hM : mK V ad E fa tr at1 rr rd n pa dn wo dl) (x : Int32) (w : Nat) (wi : Int32) (hw : ∀ r, r < 7 → (nI r = wi ↔ r = w)) (r : Nat) (hr : r ≤ n) : Ct l V ad 44 44 yX6_firstOf cX6_firstOf 5 (some .int) { frames := 1, cells := 0, slots := 0, locals := 22 } [.ref (ad 34), .int x, .int (nI r), .int wi] E (pI ad (pS E (nI (sFn (pR pa) w x n r)))) := by
  refine gCt mX6_firstOf (Nat.le_of_ble_eq_true rfl) ?_
  intro K hk
  refine G_iload_n (i := 2) hk dX6_firstOf_0 rfl rfl ?_
  refine G_istore hk dX6_firstOf_1 (by decide) rfl ?_
  exact G_lv (by exact And.intro rfl (And.intro rfl (And.intro rfl (And.intro rfl (trivial))))) (lp_X6_firstOf hk E fa tr at1 rr rd n pa dn wo dl hM x w wi hw (n + 1) r _ (by omega) hr rfl)

set_option maxHeartbeats 4000000 in
set_option maxRecDepth 100000 in
theorem c_X6_winnerOf (l : Launch) (V : gV) (ad : Nat → Nat) (E : Nat → va_E) (fa tr at1 rr rd : Int32) (n : Nat) (pa : Nat → Int32) (dn wo : Int32) (dl : Nat → Int32) (hM : mK V ad E fa tr at1 rr rd n pa dn wo dl) (x : Int32) : Ct l V ad 44 44 yX6_winnerOf cX6_winnerOf 3 (some .int) { frames := 2, cells := 0, slots := 0, locals := 46 } [.ref (ad 34), .int x] E (pI ad (pS E (sW (pR pa) n x))) := by
  refine gCt mX6_winnerOf (Nat.le_of_ble_eq_true rfl) ?_
  intro K hk
  obtain ⟨m0, m1, m2, m3⟩ := id hM
  have hle := (sFn_le (R := pR pa) (w := 99) (x := x) (Nat.zero_le n)).2
  refine G_aload_n (i := 0) hk dX6_winnerOf_0 rfl rfl ?_
  refine G_iload_n (i := 1) hk dX6_winnerOf_1 rfl rfl ?_
  refine G_iconst (v := 0) hk dX6_winnerOf_2 (by decide) ?_
  refine G_bipush (v := (-9)) hk dX6_winnerOf_3 (by decide) ?_
  refine G_cVi hk (c_X6_firstOf l V ad E fa tr at1 rr rd n pa dn wo dl hM x 99 (-9) hw99' 0 (Nat.zero_le n)) mX6_firstOf vX6_firstOf kX6_103 dX6_winnerOf_5 (by assumption) (by rfl) (by first | decide | omega) rfl (by decide) (by decide) rfl (Nat.le_of_ble_eq_true rfl) (fun r_5 E_5 h_5 => ?_)
  obtain ⟨rfl, rfl⟩ := h_5
  refine G_istore_n (i := 2) hk dX6_winnerOf_8 rfl (by decide) rfl ?_
  refine G_iload_n (i := 2) hk dX6_winnerOf_9 rfl rfl ?_
  refine G_aload_n (i := 0) hk dX6_winnerOf_10 rfl rfl ?_
  refine G_get hk fX6_47 dX6_winnerOf_11 (by assumption) (by rfl) (by first | decide | omega) ?_
  refine G_icmp_ge (tgt := 21) hk dX6_winnerOf_14 (by decide) (fun c_14 => ?_) (fun c_14 => ?_)
  · try simp only [gB_ne, gB_eq, Decidable.not_not] at c_14
    have hge := (nle (by omega) (by omega)).mp c_14
    refine G_bipush (v := (-9)) hk dX6_winnerOf_21 (by decide) ?_
    refine G_iret hk dX6_winnerOf_23 ?_
    first | exact ⟨rfl, by unfold sW; rw [if_pos hlt]⟩ | exact ⟨rfl, by unfold sW; rw [if_neg (by omega)]⟩
  · try simp only [gB_ne, gB_eq, Decidable.not_not] at c_14
    have hlt : sFn (pR pa) 99 x n 0 < n := Nat.lt_of_not_le (fun q => c_14 ((nle (by omega) (by omega)).mpr q))
    refine G_iload_n (i := 2) hk dX6_winnerOf_17 rfl rfl ?_
    refine G_goto (tgt := 23) hk dX6_winnerOf_18 (by decide) ?_
    refine G_iret hk dX6_winnerOf_23 ?_
    first | exact ⟨rfl, by unfold sW; rw [if_pos hlt]⟩ | exact ⟨rfl, by unfold sW; rw [if_neg (by omega)]⟩

set_option maxHeartbeats 4000000 in
set_option maxRecDepth 100000 in
theorem lp_X6_asks {l : Launch} {V : gV} {ad : Nat → Nat} {K : gX} (hk : gOk l { frames := 2, cells := 0, slots := 0, locals := 46 } K V cX6_asks 5 RX6 none yX6_asks.name) (E0 : Nat → va_E) (fa tr at1 rr rd : Int32) (n : Nat) (pa : Nat → Int32) (ho : ∀ i, i < n → rOk (pR pa i)) (w : Nat) (wi : Int32) (hw : ∀ r, r < 7 → (nI r = wi ↔ r = w)) (F : Int32 × List Int32) : ∀ (k r : Nat) (a s : Int32) (pre : List Int32) (E : Nat → va_E) (dl : Nat → Int32), n < r + k → r ≤ n → (r = n ∨ (r ≠ w ∧ sHas (pR pa r) a)) → pre.length ≤ r → exM E0 E → mK V ad E fa tr at1 rr rd n pa (nI pre.length) s dl → (∀ i, i < pre.length → dl i = pre.getD i 0) → F = sC s pre (sAn (pR pa) w n r a) → G K V 5 (gQ K V 44 0 0 (pV ad (aPM V ad E0 fa tr at1 rr rd n pa F))) ad 44 0 0 21 [(0, .ref (ad 34)), (2, .int wi), (3, .int a), (4, .int (nI r))] [] E := by
  intro k
  induction k with
  | zero => intro r a s pre E dl hr; omega
  | succ k ih =>
    intro r a s pre E dl hr hrn hrw hpl hex hME hdl hF
    obtain ⟨m0, m1, m2, m3⟩ := id hME
    refine G_iload hk dX6_asks_21 rfl ?_
    refine G_aload_n (i := 0) hk dX6_asks_23 rfl rfl ?_
    refine G_get hk fX6_47 dX6_asks_24 (by assumption) (by rfl) (by first | decide | omega) ?_
    refine G_icmp_ge (tgt := 100) hk dX6_asks_27 (by decide) (fun c_27 => ?_) (fun c_27 => ?_)
    · try simp only [gB_ne, gB_eq, Decidable.not_not] at c_27
      have hge : n ≤ r := (nle (by omega) (by omega)).mp c_27
      refine G_iload hk dX6_asks_100 rfl ?_
      refine G_aload_n (i := 0) hk dX6_asks_102 rfl rfl ?_
      refine G_get hk fX6_47 dX6_asks_103 (by assumption) (by rfl) (by first | decide | omega) ?_
      refine G_icmp_ge (tgt := 141) hk dX6_asks_106 (by decide) (fun c_106 => ?_) (fun c_106 => ?_)
      · try simp only [gB_ne, gB_eq, Decidable.not_not] at c_106
        skip
        skip
        refine G_aload_n (i := 0) hk dX6_asks_141 rfl rfl ?_
        refine G_get hk fX6_25 dX6_asks_142 (by assumption) (by rfl) (by first | decide | omega) ?_
        refine G_aload_n (i := 0) hk dX6_asks_145 rfl rfl ?_
        refine G_get hk fX6_97 dX6_asks_146 (by assumption) (by rfl) (by first | decide | omega) ?_
        refine G_iload hk dX6_asks_149 rfl ?_
        refine G_aload_n (i := 0) hk dX6_asks_151 rfl rfl ?_
        refine G_get hk fX6_47 dX6_asks_152 (by assumption) (by rfl) (by first | decide | omega) ?_
        refine G_icmp_ge (tgt := 163) hk dX6_asks_155 (by decide) (fun c_155 => ?_) (fun c_155 => ?_)
        · try simp only [gB_ne, gB_eq, Decidable.not_not] at c_155
          refine G_bipush (v := 7) hk dX6_asks_163 (by decide) ?_
          refine G_iastX (j := pre.length) hk dX6_asks_165 (by assumption) rfl (by omega) (by decide) (by first | decide | omega) ?_
          have hMEb : mK V ad (va_up E 40 (gI V 8 (upd dl pre.length 7))) fa tr at1 rr rd n pa (nI pre.length) (s) (upd dl pre.length 7) := ⟨(va_up_ne _ _ (by omega)).trans m0, (va_up_ne _ _ (by omega)).trans m1, va_up_self _ _ _, m3⟩
          have xEb : exM E (va_up E 40 (gI V 8 (upd dl pre.length 7))) := fun k p q => va_up_ne _ _ q
          generalize va_up E 40 (gI V 8 (upd dl pre.length 7)) = Eb at hMEb xEb ⊢
          clear m0 m1 m2
          obtain ⟨m0, m1, m2, m3⟩ := id hMEb
          refine G_aload_n (i := 0) hk dX6_asks_166 rfl rfl ?_
          refine G_dup hk dX6_asks_167 rfl ?_
          refine G_get hk fX6_97 dX6_asks_168 (by assumption) (by rfl) (by first | decide | omega) ?_
          refine G_iconst (v := 1) hk dX6_asks_171 (by decide) ?_
          refine G_iadd hk dX6_asks_172 ?_
          rw [nI_i1]
          refine G_put hk fX6_97 iX6_11 dX6_asks_173 (by assumption) (Nat.le_of_ble_eq_true rfl) (by first | decide | omega) ?_
          refine G_E (E2 := va_up Eb 34 (mO ad fa tr (nI n) at1 rr (nI (pre.length + 1)) (s) rd)) rfl ?_
          have hMEc : mK V ad (va_up Eb 34 (mO ad fa tr (nI n) at1 rr (nI (pre.length + 1)) (s) rd)) fa tr at1 rr rd n pa (nI (pre.length + 1)) (s) (upd dl pre.length (7)) := ⟨va_up_self _ _ _, (va_up_ne _ _ (by omega)).trans m1, (va_up_ne _ _ (by omega)).trans m2, m3⟩
          have xEc : exM Eb (va_up Eb 34 (mO ad fa tr (nI n) at1 rr (nI (pre.length + 1)) (s) rd)) := fun k p q => va_up_ne _ _ p
          generalize va_up Eb 34 (mO ad fa tr (nI n) at1 rr (nI (pre.length + 1)) (s) rd) = Ec at hMEc xEc ⊢
          clear m0 m1 m2
          obtain ⟨m0, m1, m2, m3⟩ := id hMEc
          refine G_aload_n (i := 0) hk dX6_asks_176 rfl rfl ?_
          refine G_bipush (v := (-9)) hk dX6_asks_177 (by decide) ?_
          refine G_put hk fX6_100 iX6_12 dX6_asks_179 (by assumption) (Nat.le_of_ble_eq_true rfl) (by first | decide | omega) ?_
          refine G_E (E2 := va_up Ec 34 (mO ad fa tr (nI n) at1 rr (nI (pre.length + 1)) (-9) rd)) rfl ?_
          have hMEd : mK V ad (va_up Ec 34 (mO ad fa tr (nI n) at1 rr (nI (pre.length + 1)) (-9) rd)) fa tr at1 rr rd n pa (nI (pre.length + 1)) (-9) (upd dl pre.length (7)) := ⟨va_up_self _ _ _, (va_up_ne _ _ (by omega)).trans m1, (va_up_ne _ _ (by omega)).trans m2, m3⟩
          have xEd : exM Ec (va_up Ec 34 (mO ad fa tr (nI n) at1 rr (nI (pre.length + 1)) (-9) rd)) := fun k p q => va_up_ne _ _ p
          generalize va_up Ec 34 (mO ad fa tr (nI n) at1 rr (nI (pre.length + 1)) (-9) rd) = Ed at hMEd xEd ⊢
          clear m0 m1 m2
          obtain ⟨m0, m1, m2, m3⟩ := id hMEd
          refine G_vret hk dX6_asks_182 ?_
          have eF : F = (-9, pre ++ [7]) := by rw [hF, sAn_end hge]; rfl
          rw [eF]
          exact ⟨hex.tr (xEb.tr (xEc.tr xEd)), _, by rw [List.length_append]; exact hMEd, getD_app hdl⟩
        · try simp only [gB_ne, gB_eq, Decidable.not_not] at c_155
          exact absurd c_27 c_155
      · try simp only [gB_ne, gB_eq, Decidable.not_not] at c_106
        exact absurd c_27 c_106
    · try simp only [gB_ne, gB_eq, Decidable.not_not] at c_27
      have hlt : r < n := Nat.lt_of_not_le (fun q => c_27 ((nle (by omega) (by omega)).mpr q))
      have hr2 : r ≠ w ∧ sHas (pR pa r) a := hrw.elim (fun q => absurd q (by omega)) id
      have hor := ho r hlt
      refine G_aload_n (i := 0) hk dX6_asks_30 rfl rfl ?_
      refine G_iload hk dX6_asks_31 rfl ?_
      refine G_cVi hk (c_X6_deedOf l V ad E fa tr at1 rr rd n pa (nI pre.length) (s) (dl) hME r (by omega)) mX6_deedOf vX6_deedOf kX6_107 dX6_asks_33 (by assumption) (by rfl) (by first | decide | omega) rfl (by decide) (by decide) rfl (Nat.le_of_ble_eq_true rfl) (fun r_33 E_33 h_33 => ?_)
      obtain ⟨rfl, rfl⟩ := h_33
      refine G_iconst (v := 2) hk dX6_asks_36 (by decide) ?_
      refine G_icmp_ne (tgt := 100) hk dX6_asks_37 (by decide) (fun c_37 => ?_) (fun c_37 => ?_)
      · try simp only [gB_ne, gB_eq, Decidable.not_not] at c_37
        have hd2 : ¬ pR pa r 1 = 2 := c_37
        refine G_iload hk dX6_asks_100 rfl ?_
        refine G_aload_n (i := 0) hk dX6_asks_102 rfl rfl ?_
        refine G_get hk fX6_47 dX6_asks_103 (by assumption) (by rfl) (by first | decide | omega) ?_
        refine G_icmp_ge (tgt := 141) hk dX6_asks_106 (by decide) (fun c_106 => ?_) (fun c_106 => ?_)
        · try simp only [gB_ne, gB_eq, Decidable.not_not] at c_106
          exact absurd c_106 c_27
        · try simp only [gB_ne, gB_eq, Decidable.not_not] at c_106
          skip
          refine G_aload_n (i := 0) hk dX6_asks_109 rfl rfl ?_
          refine G_iload hk dX6_asks_110 rfl ?_
          refine G_cVi hk (c_X6_deedOf l V ad E fa tr at1 rr rd n pa (nI pre.length) (s) (dl) hME r (by omega)) mX6_deedOf vX6_deedOf kX6_107 dX6_asks_112 (by assumption) (by rfl) (by first | decide | omega) rfl (by decide) (by decide) rfl (Nat.le_of_ble_eq_true rfl) (fun r_112 E_112 h_112 => ?_)
          obtain ⟨rfl, rfl⟩ := h_112
          refine G_if_ne (tgt := 141) hk dX6_asks_115 (by decide) (fun c_115 => ?_) (fun c_115 => ?_)
          · try simp only [gB_ne, gB_eq, Decidable.not_not] at c_115
            have hd0 : ¬ pR pa r 1 = 0 := c_115
            have hd1 : pR pa r 1 = 1 := hor.2.1.elim (fun q => absurd q hd0) (fun q => q.elim id (fun z => absurd z hd2))
            refine G_aload_n (i := 0) hk dX6_asks_141 rfl rfl ?_
            refine G_get hk fX6_25 dX6_asks_142 (by assumption) (by rfl) (by first | decide | omega) ?_
            refine G_aload_n (i := 0) hk dX6_asks_145 rfl rfl ?_
            refine G_get hk fX6_97 dX6_asks_146 (by assumption) (by rfl) (by first | decide | omega) ?_
            refine G_iload hk dX6_asks_149 rfl ?_
            refine G_aload_n (i := 0) hk dX6_asks_151 rfl rfl ?_
            refine G_get hk fX6_47 dX6_asks_152 (by assumption) (by rfl) (by first | decide | omega) ?_
            refine G_icmp_ge (tgt := 163) hk dX6_asks_155 (by decide) (fun c_155 => ?_) (fun c_155 => ?_)
            · try simp only [gB_ne, gB_eq, Decidable.not_not] at c_155
              exact absurd c_155 c_27
            · try simp only [gB_ne, gB_eq, Decidable.not_not] at c_155
              refine G_iload hk dX6_asks_158 rfl ?_
              refine G_goto (tgt := 165) hk dX6_asks_160 (by decide) ?_
              refine G_iastX (j := pre.length) hk dX6_asks_165 (by assumption) rfl (by omega) (by decide) (by first | decide | omega) ?_
              have hMEb : mK V ad (va_up E 40 (gI V 8 (upd dl pre.length (nI r)))) fa tr at1 rr rd n pa (nI pre.length) (s) (upd dl pre.length (nI r)) := ⟨(va_up_ne _ _ (by omega)).trans m0, (va_up_ne _ _ (by omega)).trans m1, va_up_self _ _ _, m3⟩
              have xEb : exM E (va_up E 40 (gI V 8 (upd dl pre.length (nI r)))) := fun k p q => va_up_ne _ _ q
              generalize va_up E 40 (gI V 8 (upd dl pre.length (nI r))) = Eb at hMEb xEb ⊢
              clear m0 m1 m2
              obtain ⟨m0, m1, m2, m3⟩ := id hMEb
              refine G_aload_n (i := 0) hk dX6_asks_166 rfl rfl ?_
              refine G_dup hk dX6_asks_167 rfl ?_
              refine G_get hk fX6_97 dX6_asks_168 (by assumption) (by rfl) (by first | decide | omega) ?_
              refine G_iconst (v := 1) hk dX6_asks_171 (by decide) ?_
              refine G_iadd hk dX6_asks_172 ?_
              rw [nI_i1]
              refine G_put hk fX6_97 iX6_11 dX6_asks_173 (by assumption) (Nat.le_of_ble_eq_true rfl) (by first | decide | omega) ?_
              refine G_E (E2 := va_up Eb 34 (mO ad fa tr (nI n) at1 rr (nI (pre.length + 1)) (s) rd)) rfl ?_
              have hMEc : mK V ad (va_up Eb 34 (mO ad fa tr (nI n) at1 rr (nI (pre.length + 1)) (s) rd)) fa tr at1 rr rd n pa (nI (pre.length + 1)) (s) (upd dl pre.length (nI r)) := ⟨va_up_self _ _ _, (va_up_ne _ _ (by omega)).trans m1, (va_up_ne _ _ (by omega)).trans m2, m3⟩
              have xEc : exM Eb (va_up Eb 34 (mO ad fa tr (nI n) at1 rr (nI (pre.length + 1)) (s) rd)) := fun k p q => va_up_ne _ _ p
              generalize va_up Eb 34 (mO ad fa tr (nI n) at1 rr (nI (pre.length + 1)) (s) rd) = Ec at hMEc xEc ⊢
              clear m0 m1 m2
              obtain ⟨m0, m1, m2, m3⟩ := id hMEc
              refine G_aload_n (i := 0) hk dX6_asks_176 rfl rfl ?_
              refine G_bipush (v := (-9)) hk dX6_asks_177 (by decide) ?_
              refine G_put hk fX6_100 iX6_12 dX6_asks_179 (by assumption) (Nat.le_of_ble_eq_true rfl) (by first | decide | omega) ?_
              refine G_E (E2 := va_up Ec 34 (mO ad fa tr (nI n) at1 rr (nI (pre.length + 1)) (-9) rd)) rfl ?_
              have hMEd : mK V ad (va_up Ec 34 (mO ad fa tr (nI n) at1 rr (nI (pre.length + 1)) (-9) rd)) fa tr at1 rr rd n pa (nI (pre.length + 1)) (-9) (upd dl pre.length (nI r)) := ⟨va_up_self _ _ _, (va_up_ne _ _ (by omega)).trans m1, (va_up_ne _ _ (by omega)).trans m2, m3⟩
              have xEd : exM Ec (va_up Ec 34 (mO ad fa tr (nI n) at1 rr (nI (pre.length + 1)) (-9) rd)) := fun k p q => va_up_ne _ _ p
              generalize va_up Ec 34 (mO ad fa tr (nI n) at1 rr (nI (pre.length + 1)) (-9) rd) = Ed at hMEd xEd ⊢
              clear m0 m1 m2
              obtain ⟨m0, m1, m2, m3⟩ := id hMEd
              refine G_vret hk dX6_asks_182 ?_
              have eF : F = (-9, pre ++ [nI r]) := by rw [hF, sAn_hit hlt hr2, if_neg hd0, if_pos hd1]; rfl
              rw [eF]
              exact ⟨hex.tr (xEb.tr (xEc.tr xEd)), _, by rw [List.length_append]; exact hMEd, getD_app hdl⟩
          · try simp only [gB_ne, gB_eq, Decidable.not_not] at c_115
            have hd0 : pR pa r 1 = 0 := by first | exact c_115 | exact Decidable.not_not.mp c_115
            refine G_aload_n (i := 0) hk dX6_asks_118 rfl rfl ?_
            refine G_dup hk dX6_asks_119 rfl ?_
            refine G_get hk fX6_100 dX6_asks_120 (by assumption) (by rfl) (by first | decide | omega) ?_
            refine G_aload_n (i := 0) hk dX6_asks_123 rfl rfl ?_
            refine G_iload hk dX6_asks_124 rfl ?_
            refine G_cVi hk (c_X6_worthOf l V ad E fa tr at1 rr rd n pa (nI pre.length) (s) (dl) hME r (by omega) hor) mX6_worthOf vX6_worthOf kX6_110 dX6_asks_126 (by assumption) (by rfl) (by first | decide | omega) rfl (by decide) (by decide) rfl (Nat.le_of_ble_eq_true rfl) (fun r_126 E_126 h_126 => ?_)
            obtain ⟨rfl, rfl⟩ := h_126
            refine G_iadd hk dX6_asks_129 ?_
            refine G_put hk fX6_100 iX6_12 dX6_asks_130 (by assumption) (Nat.le_of_ble_eq_true rfl) (by first | decide | omega) ?_
            refine G_E (E2 := va_up E 34 (mO ad fa tr (nI n) at1 rr (nI pre.length) (s + sWr (pR pa r)) rd)) rfl ?_
            have hMEb : mK V ad (va_up E 34 (mO ad fa tr (nI n) at1 rr (nI pre.length) (s + sWr (pR pa r)) rd)) fa tr at1 rr rd n pa (nI pre.length) (s + sWr (pR pa r)) (dl) := ⟨va_up_self _ _ _, (va_up_ne _ _ (by omega)).trans m1, (va_up_ne _ _ (by omega)).trans m2, m3⟩
            have xEb : exM E (va_up E 34 (mO ad fa tr (nI n) at1 rr (nI pre.length) (s + sWr (pR pa r)) rd)) := fun k p q => va_up_ne _ _ p
            generalize va_up E 34 (mO ad fa tr (nI n) at1 rr (nI pre.length) (s + sWr (pR pa r)) rd) = Eb at hMEb xEb ⊢
            clear m0 m1 m2
            obtain ⟨m0, m1, m2, m3⟩ := id hMEb
            refine G_aload_n (i := 0) hk dX6_asks_133 rfl rfl ?_
            refine G_iconst (v := 0) hk dX6_asks_134 (by decide) ?_
            refine G_put hk fX6_97 iX6_11 dX6_asks_135 (by assumption) (Nat.le_of_ble_eq_true rfl) (by first | decide | omega) ?_
            refine G_E (E2 := va_up Eb 34 (mO ad fa tr (nI n) at1 rr (0) (s + sWr (pR pa r)) rd)) rfl ?_
            have hMEc : mK V ad (va_up Eb 34 (mO ad fa tr (nI n) at1 rr (0) (s + sWr (pR pa r)) rd)) fa tr at1 rr rd n pa (0) (s + sWr (pR pa r)) (dl) := ⟨va_up_self _ _ _, (va_up_ne _ _ (by omega)).trans m1, (va_up_ne _ _ (by omega)).trans m2, m3⟩
            have xEc : exM Eb (va_up Eb 34 (mO ad fa tr (nI n) at1 rr (0) (s + sWr (pR pa r)) rd)) := fun k p q => va_up_ne _ _ p
            generalize va_up Eb 34 (mO ad fa tr (nI n) at1 rr (0) (s + sWr (pR pa r)) rd) = Ec at hMEc xEc ⊢
            clear m0 m1 m2
            obtain ⟨m0, m1, m2, m3⟩ := id hMEc
            refine G_goto (tgt := 182) hk dX6_asks_138 (by decide) ?_
            refine G_vret hk dX6_asks_182 ?_
            have eF : F = (s + sWr (pR pa r), []) := by rw [hF, sAn_hit hlt hr2, if_pos hd0]; rfl
            rw [eF]
            exact ⟨hex.tr (xEb.tr xEc), dl, hMEc, fun i hi => absurd hi (Nat.not_lt_zero i)⟩
      · try simp only [gB_ne, gB_eq, Decidable.not_not] at c_37
        have hd2 : pR pa r 1 = 2 := by first | exact c_37 | exact Decidable.not_not.mp c_37
        refine G_aload_n (i := 0) hk dX6_asks_40 rfl rfl ?_
        refine G_get hk fX6_25 dX6_asks_41 (by assumption) (by rfl) (by first | decide | omega) ?_
        refine G_aload_n (i := 0) hk dX6_asks_44 rfl rfl ?_
        refine G_get hk fX6_97 dX6_asks_45 (by assumption) (by rfl) (by first | decide | omega) ?_
        refine G_iload hk dX6_asks_48 rfl ?_
        refine G_iastX (j := pre.length) hk dX6_asks_50 (by assumption) rfl (by omega) (by decide) (by first | decide | omega) ?_
        have hMEa : mK V ad (va_up E 40 (gI V 8 (upd dl pre.length (nI r)))) fa tr at1 rr rd n pa (nI pre.length) (s) (upd dl pre.length (nI r)) := ⟨(va_up_ne _ _ (by omega)).trans m0, (va_up_ne _ _ (by omega)).trans m1, va_up_self _ _ _, m3⟩
        have xEa : exM E (va_up E 40 (gI V 8 (upd dl pre.length (nI r)))) := fun k p q => va_up_ne _ _ q
        generalize va_up E 40 (gI V 8 (upd dl pre.length (nI r))) = Ea at hMEa xEa ⊢
        clear m0 m1 m2
        obtain ⟨m0, m1, m2, m3⟩ := id hMEa
        refine G_aload_n (i := 0) hk dX6_asks_51 rfl rfl ?_
        refine G_dup hk dX6_asks_52 rfl ?_
        refine G_get hk fX6_97 dX6_asks_53 (by assumption) (by rfl) (by first | decide | omega) ?_
        refine G_iconst (v := 1) hk dX6_asks_56 (by decide) ?_
        refine G_iadd hk dX6_asks_57 ?_
        rw [nI_i1]
        refine G_put hk fX6_97 iX6_11 dX6_asks_58 (by assumption) (Nat.le_of_ble_eq_true rfl) (by first | decide | omega) ?_
        refine G_E (E2 := va_up Ea 34 (mO ad fa tr (nI n) at1 rr (nI (pre.length + 1)) (s) rd)) rfl ?_
        have hMEb : mK V ad (va_up Ea 34 (mO ad fa tr (nI n) at1 rr (nI (pre.length + 1)) (s) rd)) fa tr at1 rr rd n pa (nI (pre.length + 1)) (s) (upd dl pre.length (nI r)) := ⟨va_up_self _ _ _, (va_up_ne _ _ (by omega)).trans m1, (va_up_ne _ _ (by omega)).trans m2, m3⟩
        have xEb : exM Ea (va_up Ea 34 (mO ad fa tr (nI n) at1 rr (nI (pre.length + 1)) (s) rd)) := fun k p q => va_up_ne _ _ p
        generalize va_up Ea 34 (mO ad fa tr (nI n) at1 rr (nI (pre.length + 1)) (s) rd) = Eb at hMEb xEb ⊢
        clear m0 m1 m2
        obtain ⟨m0, m1, m2, m3⟩ := id hMEb
        refine G_aload_n (i := 0) hk dX6_asks_61 rfl rfl ?_
        refine G_dup hk dX6_asks_62 rfl ?_
        refine G_get hk fX6_100 dX6_asks_63 (by assumption) (by rfl) (by first | decide | omega) ?_
        refine G_aload_n (i := 0) hk dX6_asks_66 rfl rfl ?_
        refine G_iload hk dX6_asks_67 rfl ?_
        refine G_cVi hk (c_X6_worthOf l V ad Eb fa tr at1 rr rd n pa (nI (pre.length + 1)) (s) (upd dl pre.length (nI r)) hMEb r (by omega) hor) mX6_worthOf vX6_worthOf kX6_110 dX6_asks_69 (by assumption) (by rfl) (by first | decide | omega) rfl (by decide) (by decide) rfl (Nat.le_of_ble_eq_true rfl) (fun r_69 E_69 h_69 => ?_)
        obtain ⟨rfl, rfl⟩ := h_69
        refine G_iadd hk dX6_asks_72 ?_
        refine G_put hk fX6_100 iX6_12 dX6_asks_73 (by assumption) (Nat.le_of_ble_eq_true rfl) (by first | decide | omega) ?_
        refine G_E (E2 := va_up Eb 34 (mO ad fa tr (nI n) at1 rr (nI (pre.length + 1)) (s + sWr (pR pa r)) rd)) rfl ?_
        have hMEc : mK V ad (va_up Eb 34 (mO ad fa tr (nI n) at1 rr (nI (pre.length + 1)) (s + sWr (pR pa r)) rd)) fa tr at1 rr rd n pa (nI (pre.length + 1)) (s + sWr (pR pa r)) (upd dl pre.length (nI r)) := ⟨va_up_self _ _ _, (va_up_ne _ _ (by omega)).trans m1, (va_up_ne _ _ (by omega)).trans m2, m3⟩
        have xEc : exM Eb (va_up Eb 34 (mO ad fa tr (nI n) at1 rr (nI (pre.length + 1)) (s + sWr (pR pa r)) rd)) := fun k p q => va_up_ne _ _ p
        generalize va_up Eb 34 (mO ad fa tr (nI n) at1 rr (nI (pre.length + 1)) (s + sWr (pR pa r)) rd) = Ec at hMEc xEc ⊢
        clear m0 m1 m2
        obtain ⟨m0, m1, m2, m3⟩ := id hMEc
        refine G_iload_n (i := 3) hk dX6_asks_76 rfl rfl ?_
        refine G_aload_n (i := 0) hk dX6_asks_77 rfl rfl ?_
        refine G_iload hk dX6_asks_78 rfl ?_
        refine G_cVi hk (c_X6_numberOf l V ad Ec fa tr at1 rr rd n pa (nI (pre.length + 1)) (s + sWr (pR pa r)) (upd dl pre.length (nI r)) hMEc r (by omega)) mX6_numberOf vX6_numberOf kX6_54 dX6_asks_80 (by assumption) (by rfl) (by first | decide | omega) rfl (by decide) (by decide) rfl (Nat.le_of_ble_eq_true rfl) (fun r_80 E_80 h_80 => ?_)
        obtain ⟨rfl, rfl⟩ := h_80
        refine G_iadd hk dX6_asks_83 ?_
        refine G_istore_n (i := 3) hk dX6_asks_84 rfl (by decide) rfl ?_
        refine G_aload_n (i := 0) hk dX6_asks_85 rfl rfl ?_
        refine G_iload_n (i := 3) hk dX6_asks_86 rfl rfl ?_
        refine G_iload hk dX6_asks_87 rfl ?_
        refine G_iconst (v := 1) hk dX6_asks_89 (by decide) ?_
        refine G_iadd hk dX6_asks_90 ?_
        rw [nI_i1]
        refine G_iload_n (i := 2) hk dX6_asks_91 rfl rfl ?_
        refine G_cVi hk (c_X6_firstOf l V ad Ec fa tr at1 rr rd n pa (nI (pre.length + 1)) (s + sWr (pR pa r)) (upd dl pre.length (nI r)) hMEc (a + pR pa r 2) w wi hw (r + 1) (by omega)) mX6_firstOf vX6_firstOf kX6_103 dX6_asks_92 (by assumption) (by rfl) (by first | decide | omega) rfl (by decide) (by decide) rfl (Nat.le_of_ble_eq_true rfl) (fun r_92 E_92 h_92 => ?_)
        obtain ⟨rfl, rfl⟩ := h_92
        refine G_istore hk dX6_asks_95 (by decide) rfl ?_
        refine G_goto (tgt := 21) hk dX6_asks_97 (by decide) ?_
        have hsp := sFn_spec (pR pa) w (a + pR pa r 2) n (n - (r + 1)) (r + 1) (by omega)
        have hsl := sFn_le (R := pR pa) (w := w) (x := a + pR pa r 2) (show r + 1 ≤ n by omega)
        refine G_lv (by exact And.intro rfl (And.intro rfl (And.intro rfl (And.intro rfl (trivial))))) (ih (sFn (pR pa) w (a + pR pa r 2) n (r + 1)) (a + pR pa r 2) (s + sWr (pR pa r)) (pre ++ [nI r]) Ec (upd dl pre.length (nI r)) (by omega) hsl.2 (hsp.1.elim Or.inl (fun q => Or.inr q.2)) (by rw [List.length_append, List.length_singleton]; omega) (hex.tr (xEa.tr (xEb.tr xEc))) (by rw [List.length_append]; exact hMEc) (getD_app hdl) ?_)
        rw [hF, sAn_hit hlt hr2, if_neg (by rw [hd2]; decide), if_neg (by rw [hd2]; decide), sC_hit, hsp.2]
