/-! RULE cells -/
abbrev rC (r : Nat → Int32) : va_E := .inr (3, [.int (r 0), .int (r 1), .int (r 2), .int (r 3), .int (r 4)])
abbrev sHas (r : Nat → Int32) (x : Int32) : Prop := r 3 ≤ x ∧ x ≤ r 4
/-- WORTH of a rule -/
def sWr (r : Nat → Int32) : Int32 := if r 0 = 1 then r 2 + 1 else if r 0 = 2 then 2 * r 2 else r 2

-- Rule.hasPoint
set_option maxHeartbeats 4000000 in
set_option maxRecDepth 100000 in
theorem c_X3_hasPoint (l : Launch) (V : gV) (ad : Nat → Nat) (E : Nat → va_E) (k : Nat) (hk0 : k < 44) (r : Nat → Int32) (x : Int32) (hE : E k = rC r) : Ct l V ad 44 44 yX3_hasPoint cX3_hasPoint 2 (some .boolean) { frames := 0, cells := 0, slots := 0, locals := 0 } [.ref (ad k), .int x] E (pI ad (pS E (gB (r 3 ≤ x ∧ x ≤ r 4)))) := by
  refine gCt mX3_hasPoint (Nat.le_of_ble_eq_true rfl) ?_
  intro K hk
  refine G_iload_n (i := 1) hk dX3_hasPoint_0 rfl rfl ?_
  refine G_aload_n (i := 0) hk dX3_hasPoint_1 rfl rfl ?_
  refine G_get hk fX3_21 dX3_hasPoint_2 (by assumption) (by rfl) (by first | decide | omega) ?_
  refine G_icmp_lt (tgt := 20) hk dX3_hasPoint_5 (by decide) (fun c_5 => ?_) (fun c_5 => ?_)
  · try simp only [gB_ne, gB_eq, Decidable.not_not] at c_5
    refine G_iconst (v := 0) hk dX3_hasPoint_20 (by decide) ?_
    refine G_zret hk dX3_hasPoint_21 (by first | rfl | exact gB_nar _) ?_
    exact ⟨rfl, by first | (simp [gB, *]; done) | exact (gB_t (by (simp only [fa_lt, fa_le, fa_eq, iT_0, iT_1, iT_2, iT_3, iT_4, iT_5, iT_6, iT_7, iT_9, iT_10, iT_20, iT_25, iT_26, iTm1, iTm2, iTm3, iTm4, iTm9] at *; omega))).symm | exact (gB_f (by (simp only [fa_lt, fa_le, fa_eq, iT_0, iT_1, iT_2, iT_3, iT_4, iT_5, iT_6, iT_7, iT_9, iT_10, iT_20, iT_25, iT_26, iTm1, iTm2, iTm3, iTm4, iTm9] at *; omega))).symm⟩
  · try simp only [gB_ne, gB_eq, Decidable.not_not] at c_5
    refine G_iload_n (i := 1) hk dX3_hasPoint_8 rfl rfl ?_
    refine G_aload_n (i := 0) hk dX3_hasPoint_9 rfl rfl ?_
    refine G_get hk fX3_24 dX3_hasPoint_10 (by assumption) (by rfl) (by first | decide | omega) ?_
    refine G_icmp_gt (tgt := 20) hk dX3_hasPoint_13 (by decide) (fun c_13 => ?_) (fun c_13 => ?_)
    · try simp only [gB_ne, gB_eq, Decidable.not_not] at c_13
      refine G_iconst (v := 0) hk dX3_hasPoint_20 (by decide) ?_
      refine G_zret hk dX3_hasPoint_21 (by first | rfl | exact gB_nar _) ?_
      exact ⟨rfl, by first | (simp [gB, *]; done) | exact (gB_t (by (simp only [fa_lt, fa_le, fa_eq, iT_0, iT_1, iT_2, iT_3, iT_4, iT_5, iT_6, iT_7, iT_9, iT_10, iT_20, iT_25, iT_26, iTm1, iTm2, iTm3, iTm4, iTm9] at *; omega))).symm | exact (gB_f (by (simp only [fa_lt, fa_le, fa_eq, iT_0, iT_1, iT_2, iT_3, iT_4, iT_5, iT_6, iT_7, iT_9, iT_10, iT_20, iT_25, iT_26, iTm1, iTm2, iTm3, iTm4, iTm9] at *; omega))).symm⟩
    · try simp only [gB_ne, gB_eq, Decidable.not_not] at c_13
      refine G_iconst (v := 1) hk dX3_hasPoint_16 (by decide) ?_
      refine G_goto (tgt := 21) hk dX3_hasPoint_17 (by decide) ?_
      refine G_zret hk dX3_hasPoint_21 (by first | rfl | exact gB_nar _) ?_
      exact ⟨rfl, by first | (simp [gB, *]; done) | exact (gB_t (by (simp only [fa_lt, fa_le, fa_eq, iT_0, iT_1, iT_2, iT_3, iT_4, iT_5, iT_6, iT_7, iT_9, iT_10, iT_20, iT_25, iT_26, iTm1, iTm2, iTm3, iTm4, iTm9] at *; omega))).symm | exact (gB_f (by (simp only [fa_lt, fa_le, fa_eq, iT_0, iT_1, iT_2, iT_3, iT_4, iT_5, iT_6, iT_7, iT_9, iT_10, iT_20, iT_25, iT_26, iTm1, iTm2, iTm3, iTm4, iTm9] at *; omega))).symm⟩

-- Rule.ownWorth
set_option maxHeartbeats 4000000 in
set_option maxRecDepth 100000 in
theorem c_X3_ownWorth (l : Launch) (V : gV) (ad : Nat → Nat) (E : Nat → va_E) (k : Nat) (hk0 : k < 44) (r : Nat → Int32) (hE : E k = rC r) : Ct l V ad 44 44 yX3_ownWorth cX3_ownWorth 1 (some .int) { frames := 0, cells := 0, slots := 0, locals := 0 } [.ref (ad k)] E (pI ad (pS E (sWr r))) := by
  refine gCt mX3_ownWorth (Nat.le_of_ble_eq_true rfl) ?_
  intro K hk
  refine G_aload_n (i := 0) hk dX3_ownWorth_0 rfl rfl ?_
  refine G_get hk fX3_15 dX3_ownWorth_1 (by assumption) (by rfl) (by first | decide | omega) ?_
  refine G_iconst (v := 1) hk dX3_ownWorth_4 (by decide) ?_
  refine G_icmp_ne (tgt := 15) hk dX3_ownWorth_5 (by decide) (fun c_5 => ?_) (fun c_5 => ?_)
  · try simp only [gB_ne, gB_eq, Decidable.not_not] at c_5
    refine G_aload_n (i := 0) hk dX3_ownWorth_15 rfl rfl ?_
    refine G_get hk fX3_15 dX3_ownWorth_16 (by assumption) (by rfl) (by first | decide | omega) ?_
    refine G_iconst (v := 2) hk dX3_ownWorth_19 (by decide) ?_
    refine G_icmp_ne (tgt := 32) hk dX3_ownWorth_20 (by decide) (fun c_20 => ?_) (fun c_20 => ?_)
    · try simp only [gB_ne, gB_eq, Decidable.not_not] at c_20
      refine G_aload_n (i := 0) hk dX3_ownWorth_32 rfl rfl ?_
      refine G_get hk fX3_9 dX3_ownWorth_33 (by assumption) (by rfl) (by first | decide | omega) ?_
      refine G_iret hk dX3_ownWorth_36 ?_
      exact ⟨rfl, by simp [sWr, *]⟩
    · try simp only [gB_ne, gB_eq, Decidable.not_not] at c_20
      refine G_iconst (v := 2) hk dX3_ownWorth_23 (by decide) ?_
      refine G_aload_n (i := 0) hk dX3_ownWorth_24 rfl rfl ?_
      refine G_get hk fX3_9 dX3_ownWorth_25 (by assumption) (by rfl) (by first | decide | omega) ?_
      refine G_imul hk dX3_ownWorth_28 ?_
      refine G_goto (tgt := 36) hk dX3_ownWorth_29 (by decide) ?_
      refine G_iret hk dX3_ownWorth_36 ?_
      exact ⟨rfl, by simp [sWr, *]⟩
  · try simp only [gB_ne, gB_eq, Decidable.not_not] at c_5
    refine G_aload_n (i := 0) hk dX3_ownWorth_8 rfl rfl ?_
    refine G_get hk fX3_9 dX3_ownWorth_9 (by assumption) (by rfl) (by first | decide | omega) ?_
    refine G_iconst (v := 1) hk dX3_ownWorth_12 (by decide) ?_
    refine G_iadd hk dX3_ownWorth_13 ?_
    refine G_iret hk dX3_ownWorth_14 ?_
    exact ⟨rfl, by simp [sWr, *]⟩

-- Rule.become
set_option maxHeartbeats 4000000 in
set_option maxRecDepth 100000 in
theorem c_X3_become (l : Launch) (V : gV) (ad : Nat → Nat) (E : Nat → va_E) (k : Nat) (hk0 : k < 44) (r : Nat → Int32) (a b c d f : Int32) (hE : E k = rC r) : Ct l V ad 44 44 yX3_become cX3_become 6 none { frames := 0, cells := 0, slots := 0, locals := 0 } [.ref (ad k), .int a, .int b, .int c, .int d, .int f] E (pV ad (fun E2 => E2 = va_up E k (.inr (3, [.int a, .int b, .int c, .int d, .int f])))) := by
  refine gCt mX3_become (Nat.le_of_ble_eq_true rfl) ?_
  intro K hk
  refine G_aload_n (i := 0) hk dX3_become_0 rfl rfl ?_
  refine G_iload_n (i := 1) hk dX3_become_1 rfl rfl ?_
  refine G_put hk fX3_15 iX3_0 dX3_become_2 (by first | assumption | exact va_up_self _ _ _) (Nat.le_of_ble_eq_true rfl) (by first | decide | omega) ?_
  refine G_aload_n (i := 0) hk dX3_become_5 rfl rfl ?_
  refine G_iload_n (i := 2) hk dX3_become_6 rfl rfl ?_
  refine G_put hk fX3_18 iX3_1 dX3_become_7 (by first | assumption | exact va_up_self _ _ _) (Nat.le_of_ble_eq_true rfl) (by first | decide | omega) ?_
  refine G_aload_n (i := 0) hk dX3_become_10 rfl rfl ?_
  refine G_iload_n (i := 3) hk dX3_become_11 rfl rfl ?_
  refine G_put hk fX3_9 iX3_2 dX3_become_12 (by first | assumption | exact va_up_self _ _ _) (Nat.le_of_ble_eq_true rfl) (by first | decide | omega) ?_
  refine G_aload_n (i := 0) hk dX3_become_15 rfl rfl ?_
  refine G_iload hk dX3_become_16 rfl ?_
  refine G_put hk fX3_21 iX3_3 dX3_become_18 (by first | assumption | exact va_up_self _ _ _) (Nat.le_of_ble_eq_true rfl) (by first | decide | omega) ?_
  refine G_aload_n (i := 0) hk dX3_become_21 rfl rfl ?_
  refine G_iload hk dX3_become_22 rfl ?_
  refine G_put hk fX3_24 iX3_4 dX3_become_24 (by first | assumption | exact va_up_self _ _ _) (Nat.le_of_ble_eq_true rfl) (by first | decide | omega) ?_
  refine G_vret hk dX3_become_27 ?_
  simp only [va_up_up, List.set]

/-! ROW cells: the object at p, its array at p + 1 -/
abbrev wC (ad : Nat → Nat) (p : Nat) (la sz : Int32) : va_E := .inr (2, [.ref (ad (p + 1)), .int la, .int sz])

-- Row.isNothing
set_option maxHeartbeats 4000000 in
set_option maxRecDepth 100000 in
theorem c_X2_isNothing (l : Launch) (V : gV) (ad : Nat → Nat) (E : Nat → va_E) (p : Nat) (hp : p + 1 < 44) (la sz : Int32) (hE : E p = wC ad p la sz) : Ct l V ad 44 44 yX2_isNothing cX2_isNothing 1 (some .boolean) { frames := 0, cells := 0, slots := 0, locals := 0 } [.ref (ad p)] E (pI ad (pS E (gB (la = -1)))) := by
  refine gCt mX2_isNothing (Nat.le_of_ble_eq_true rfl) ?_
  intro K hk
  refine G_aload_n (i := 0) hk dX2_isNothing_0 rfl rfl ?_
  refine G_get hk fX2_15 dX2_isNothing_1 (by assumption) (by rfl) (by first | decide | omega) ?_
  refine G_iconst (v := (-1)) hk dX2_isNothing_4 (by decide) ?_
  refine G_icmp_ne (tgt := 12) hk dX2_isNothing_5 (by decide) (fun c_5 => ?_) (fun c_5 => ?_)
  · try simp only [gB_ne, gB_eq, Decidable.not_not] at c_5
    refine G_iconst (v := 0) hk dX2_isNothing_12 (by decide) ?_
    refine G_zret hk dX2_isNothing_13 (by first | rfl | exact gB_nar _) ?_
    exact ⟨rfl, by first | (simp [gB, *]; done) | exact (gB_t (by (simp only [fa_lt, fa_le, fa_eq, iT_0, iT_1, iT_2, iT_3, iT_4, iT_5, iT_6, iT_7, iT_9, iT_10, iT_20, iT_25, iT_26, iTm1, iTm2, iTm3, iTm4, iTm9] at *; omega))).symm | exact (gB_f (by (simp only [fa_lt, fa_le, fa_eq, iT_0, iT_1, iT_2, iT_3, iT_4, iT_5, iT_6, iT_7, iT_9, iT_10, iT_20, iT_25, iT_26, iTm1, iTm2, iTm3, iTm4, iTm9] at *; omega))).symm⟩
  · try simp only [gB_ne, gB_eq, Decidable.not_not] at c_5
    refine G_iconst (v := 1) hk dX2_isNothing_8 (by decide) ?_
    refine G_goto (tgt := 13) hk dX2_isNothing_9 (by decide) ?_
    refine G_zret hk dX2_isNothing_13 (by first | rfl | exact gB_nar _) ?_
    exact ⟨rfl, by first | (simp [gB, *]; done) | exact (gB_t (by (simp only [fa_lt, fa_le, fa_eq, iT_0, iT_1, iT_2, iT_3, iT_4, iT_5, iT_6, iT_7, iT_9, iT_10, iT_20, iT_25, iT_26, iTm1, iTm2, iTm3, iTm4, iTm9] at *; omega))).symm | exact (gB_f (by (simp only [fa_lt, fa_le, fa_eq, iT_0, iT_1, iT_2, iT_3, iT_4, iT_5, iT_6, iT_7, iT_9, iT_10, iT_20, iT_25, iT_26, iTm1, iTm2, iTm3, iTm4, iTm9] at *; omega))).symm⟩

-- Row.becomeNothing
set_option maxHeartbeats 4000000 in
set_option maxRecDepth 100000 in
theorem c_X2_becomeNothing (l : Launch) (V : gV) (ad : Nat → Nat) (E : Nat → va_E) (p : Nat) (hp : p + 1 < 44) (la sz : Int32) (hE : E p = wC ad p la sz) : Ct l V ad 44 44 yX2_becomeNothing cX2_becomeNothing 1 none { frames := 0, cells := 0, slots := 0, locals := 0 } [.ref (ad p)] E (pV ad (fun E2 => E2 = va_up E p (wC ad p (-1) 0))) := by
  refine gCt mX2_becomeNothing (Nat.le_of_ble_eq_true rfl) ?_
  intro K hk
  refine G_aload_n (i := 0) hk dX2_becomeNothing_0 rfl rfl ?_
  refine G_iconst (v := (-1)) hk dX2_becomeNothing_1 (by decide) ?_
  refine G_put hk fX2_15 iX2_1 dX2_becomeNothing_2 (by first | assumption | exact va_up_self _ _ _) (Nat.le_of_ble_eq_true rfl) (by first | decide | omega) ?_
  refine G_aload_n (i := 0) hk dX2_becomeNothing_5 rfl rfl ?_
  refine G_iconst (v := 0) hk dX2_becomeNothing_6 (by decide) ?_
  refine G_put hk fX2_19 iX2_2 dX2_becomeNothing_7 (by first | assumption | exact va_up_self _ _ _) (Nat.le_of_ble_eq_true rfl) (by first | decide | omega) ?_
  refine G_vret hk dX2_becomeNothing_10 ?_
  simp only [va_up_up, List.set]

-- Row.faultAs
set_option maxHeartbeats 4000000 in
set_option maxRecDepth 100000 in
theorem c_X2_faultAs (l : Launch) (V : gV) (ad : Nat → Nat) (E : Nat → va_E) (p : Nat) (hp : p + 1 < 44) (la sz : Int32) (a : Int32) (hE : E p = wC ad p la sz) : Ct l V ad 44 44 yX2_faultAs cX2_faultAs 2 (some .int) { frames := 1, cells := 0, slots := 0, locals := 20 } [.ref (ad p), .int a] E (pI ad (pS E (if la = -1 then 1 else if la = a then 0 else 2))) := by
  refine gCt mX2_faultAs (Nat.le_of_ble_eq_true rfl) ?_
  intro K hk
  refine G_aload_n (i := 0) hk dX2_faultAs_0 rfl rfl ?_
  refine G_cVi hk (c_X2_isNothing l V ad E p hp la sz hE) mX2_isNothing vX2_isNothing kX2_31 dX2_faultAs_1 (by assumption) (by rfl) (by first | decide | omega) rfl (by decide) (by decide) rfl (Nat.le_of_ble_eq_true rfl) (fun r_1 E_1 h_1 => ?_)
  obtain ⟨rfl, rfl⟩ := h_1
  refine G_if_eq (tgt := 9) hk dX2_faultAs_4 (by decide) (fun c_4 => ?_) (fun c_4 => ?_)
  · try simp only [gB_ne, gB_eq, Decidable.not_not] at c_4
    refine G_aload_n (i := 0) hk dX2_faultAs_9 rfl rfl ?_
    refine G_get hk fX2_15 dX2_faultAs_10 (by assumption) (by rfl) (by first | decide | omega) ?_
    refine G_iload_n (i := 1) hk dX2_faultAs_13 rfl rfl ?_
    refine G_icmp_ne (tgt := 21) hk dX2_faultAs_14 (by decide) (fun c_14 => ?_) (fun c_14 => ?_)
    · try simp only [gB_ne, gB_eq, Decidable.not_not] at c_14
      refine G_iconst (v := 2) hk dX2_faultAs_21 (by decide) ?_
      refine G_iret hk dX2_faultAs_22 ?_
      exact ⟨rfl, by (try first | rw [if_pos c_4] | rw [if_neg c_4]); (try first | rw [if_pos c_14] | rw [if_neg c_14])⟩
    · try simp only [gB_ne, gB_eq, Decidable.not_not] at c_14
      refine G_iconst (v := 0) hk dX2_faultAs_17 (by decide) ?_
      refine G_goto (tgt := 22) hk dX2_faultAs_18 (by decide) ?_
      refine G_iret hk dX2_faultAs_22 ?_
      exact ⟨rfl, by (try first | rw [if_pos c_4] | rw [if_neg c_4]); (try first | rw [if_pos c_14] | rw [if_neg c_14])⟩
  · try simp only [gB_ne, gB_eq, Decidable.not_not] at c_4
    refine G_iconst (v := 1) hk dX2_faultAs_7 (by decide) ?_
    refine G_iret hk dX2_faultAs_8 ?_
    exact ⟨rfl, by (try first | rw [if_pos c_4] | rw [if_neg c_4])⟩

-- Row.hasCells
set_option maxHeartbeats 4000000 in
set_option maxRecDepth 100000 in
theorem c_X2_hasCells (l : Launch) (V : gV) (ad : Nat → Nat) (E : Nat → va_E) (p : Nat) (hp : p + 1 < 44) (la sz : Int32) (a b : Int32) (hE : E p = wC ad p la sz) : Ct l V ad 44 44 yX2_hasCells cX2_hasCells 3 (some .boolean) { frames := 0, cells := 0, slots := 0, locals := 0 } [.ref (ad p), .int a, .int b] E (pI ad (pS E (gB (0 ≤ a ∧ a ≤ sz ∧ 0 ≤ b ∧ b ≤ sz - a)))) := by
  refine gCt mX2_hasCells (Nat.le_of_ble_eq_true rfl) ?_
  intro K hk
  refine G_iload_n (i := 1) hk dX2_hasCells_0 rfl rfl ?_
  refine G_if_lt (tgt := 30) hk dX2_hasCells_1 (by decide) (fun c_1 => ?_) (fun c_1 => ?_)
  · try simp only [gB_ne, gB_eq, Decidable.not_not] at c_1
    refine G_iconst (v := 0) hk dX2_hasCells_30 (by decide) ?_
    refine G_zret hk dX2_hasCells_31 (by first | rfl | exact gB_nar _) ?_
    exact ⟨rfl, by first | (simp [gB, *]; done) | exact (gB_t (by (simp only [fa_lt, fa_le, fa_eq, iT_0, iT_1, iT_2, iT_3, iT_4, iT_5, iT_6, iT_7, iT_9, iT_10, iT_20, iT_25, iT_26, iTm1, iTm2, iTm3, iTm4, iTm9] at *; omega))).symm | exact (gB_f (by (simp only [fa_lt, fa_le, fa_eq, iT_0, iT_1, iT_2, iT_3, iT_4, iT_5, iT_6, iT_7, iT_9, iT_10, iT_20, iT_25, iT_26, iTm1, iTm2, iTm3, iTm4, iTm9] at *; omega))).symm⟩
  · try simp only [gB_ne, gB_eq, Decidable.not_not] at c_1
    refine G_iload_n (i := 1) hk dX2_hasCells_4 rfl rfl ?_
    refine G_aload_n (i := 0) hk dX2_hasCells_5 rfl rfl ?_
    refine G_get hk fX2_19 dX2_hasCells_6 (by assumption) (by rfl) (by first | decide | omega) ?_
    refine G_icmp_gt (tgt := 30) hk dX2_hasCells_9 (by decide) (fun c_9 => ?_) (fun c_9 => ?_)
    · try simp only [gB_ne, gB_eq, Decidable.not_not] at c_9
      refine G_iconst (v := 0) hk dX2_hasCells_30 (by decide) ?_
      refine G_zret hk dX2_hasCells_31 (by first | rfl | exact gB_nar _) ?_
      exact ⟨rfl, by first | (simp [gB, *]; done) | exact (gB_t (by (simp only [fa_lt, fa_le, fa_eq, iT_0, iT_1, iT_2, iT_3, iT_4, iT_5, iT_6, iT_7, iT_9, iT_10, iT_20, iT_25, iT_26, iTm1, iTm2, iTm3, iTm4, iTm9] at *; omega))).symm | exact (gB_f (by (simp only [fa_lt, fa_le, fa_eq, iT_0, iT_1, iT_2, iT_3, iT_4, iT_5, iT_6, iT_7, iT_9, iT_10, iT_20, iT_25, iT_26, iTm1, iTm2, iTm3, iTm4, iTm9] at *; omega))).symm⟩
    · try simp only [gB_ne, gB_eq, Decidable.not_not] at c_9
      refine G_iload_n (i := 2) hk dX2_hasCells_12 rfl rfl ?_
      refine G_if_lt (tgt := 30) hk dX2_hasCells_13 (by decide) (fun c_13 => ?_) (fun c_13 => ?_)
      · try simp only [gB_ne, gB_eq, Decidable.not_not] at c_13
        refine G_iconst (v := 0) hk dX2_hasCells_30 (by decide) ?_
        refine G_zret hk dX2_hasCells_31 (by first | rfl | exact gB_nar _) ?_
        exact ⟨rfl, by first | (simp [gB, *]; done) | exact (gB_t (by (simp only [fa_lt, fa_le, fa_eq, iT_0, iT_1, iT_2, iT_3, iT_4, iT_5, iT_6, iT_7, iT_9, iT_10, iT_20, iT_25, iT_26, iTm1, iTm2, iTm3, iTm4, iTm9] at *; omega))).symm | exact (gB_f (by (simp only [fa_lt, fa_le, fa_eq, iT_0, iT_1, iT_2, iT_3, iT_4, iT_5, iT_6, iT_7, iT_9, iT_10, iT_20, iT_25, iT_26, iTm1, iTm2, iTm3, iTm4, iTm9] at *; omega))).symm⟩
      · try simp only [gB_ne, gB_eq, Decidable.not_not] at c_13
        refine G_iload_n (i := 2) hk dX2_hasCells_16 rfl rfl ?_
        refine G_aload_n (i := 0) hk dX2_hasCells_17 rfl rfl ?_
        refine G_get hk fX2_19 dX2_hasCells_18 (by assumption) (by rfl) (by first | decide | omega) ?_
        refine G_iload_n (i := 1) hk dX2_hasCells_21 rfl rfl ?_
        refine G_isub hk dX2_hasCells_22 ?_
        refine G_icmp_gt (tgt := 30) hk dX2_hasCells_23 (by decide) (fun c_23 => ?_) (fun c_23 => ?_)
        · try simp only [gB_ne, gB_eq, Decidable.not_not] at c_23
          refine G_iconst (v := 0) hk dX2_hasCells_30 (by decide) ?_
          refine G_zret hk dX2_hasCells_31 (by first | rfl | exact gB_nar _) ?_
          exact ⟨rfl, by first | (simp [gB, *]; done) | exact (gB_t (by (simp only [fa_lt, fa_le, fa_eq, iT_0, iT_1, iT_2, iT_3, iT_4, iT_5, iT_6, iT_7, iT_9, iT_10, iT_20, iT_25, iT_26, iTm1, iTm2, iTm3, iTm4, iTm9] at *; omega))).symm | exact (gB_f (by (simp only [fa_lt, fa_le, fa_eq, iT_0, iT_1, iT_2, iT_3, iT_4, iT_5, iT_6, iT_7, iT_9, iT_10, iT_20, iT_25, iT_26, iTm1, iTm2, iTm3, iTm4, iTm9] at *; omega))).symm⟩
        · try simp only [gB_ne, gB_eq, Decidable.not_not] at c_23
          refine G_iconst (v := 1) hk dX2_hasCells_26 (by decide) ?_
          refine G_goto (tgt := 31) hk dX2_hasCells_27 (by decide) ?_
          refine G_zret hk dX2_hasCells_31 (by first | rfl | exact gB_nar _) ?_
          exact ⟨rfl, by first | (simp [gB, *]; done) | exact (gB_t (by (simp only [fa_lt, fa_le, fa_eq, iT_0, iT_1, iT_2, iT_3, iT_4, iT_5, iT_6, iT_7, iT_9, iT_10, iT_20, iT_25, iT_26, iTm1, iTm2, iTm3, iTm4, iTm9] at *; omega))).symm | exact (gB_f (by (simp only [fa_lt, fa_le, fa_eq, iT_0, iT_1, iT_2, iT_3, iT_4, iT_5, iT_6, iT_7, iT_9, iT_10, iT_20, iT_25, iT_26, iTm1, iTm2, iTm3, iTm4, iTm9] at *; omega))).symm⟩

-- Row.cut
set_option maxHeartbeats 4000000 in
set_option maxRecDepth 100000 in
theorem c_X2_cut (l : Launch) (V : gV) (ad : Nat → Nat) (E : Nat → va_E) (p : Nat) (hp : p + 1 < 44) (la sz : Int32) (v : Int32) (hE : E p = wC ad p la sz) : Ct l V ad 44 44 yX2_cut cX2_cut 2 (some .int) { frames := 0, cells := 0, slots := 0, locals := 0 } [.ref (ad p), .int v] E (pI ad (pS E (if la = 0 then v.toInt8.toInt32 else if la = 1 then v.toInt16.toInt32 else v))) := by
  refine gCt mX2_cut (Nat.le_of_ble_eq_true rfl) ?_
  intro K hk
  refine G_aload_n (i := 0) hk dX2_cut_0 rfl rfl ?_
  refine G_get hk fX2_15 dX2_cut_1 (by assumption) (by rfl) (by first | decide | omega) ?_
  refine G_if_ne (tgt := 10) hk dX2_cut_4 (by decide) (fun c_4 => ?_) (fun c_4 => ?_)
  · try simp only [gB_ne, gB_eq, Decidable.not_not] at c_4
    refine G_aload_n (i := 0) hk dX2_cut_10 rfl rfl ?_
    refine G_get hk fX2_15 dX2_cut_11 (by assumption) (by rfl) (by first | decide | omega) ?_
    refine G_iconst (v := 1) hk dX2_cut_14 (by decide) ?_
    refine G_icmp_ne (tgt := 21) hk dX2_cut_15 (by decide) (fun c_15 => ?_) (fun c_15 => ?_)
    · try simp only [gB_ne, gB_eq, Decidable.not_not] at c_15
      refine G_iload_n (i := 1) hk dX2_cut_21 rfl rfl ?_
      refine G_iret hk dX2_cut_22 ?_
      exact ⟨rfl, by simp [*]⟩
    · try simp only [gB_ne, gB_eq, Decidable.not_not] at c_15
      refine G_iload_n (i := 1) hk dX2_cut_18 rfl rfl ?_
      refine G_i2s hk dX2_cut_19 ?_
      refine G_iret hk dX2_cut_20 ?_
      exact ⟨rfl, by simp [*]⟩
  · try simp only [gB_ne, gB_eq, Decidable.not_not] at c_4
    refine G_iload_n (i := 1) hk dX2_cut_7 rfl rfl ?_
    refine G_i2b hk dX2_cut_8 ?_
    refine G_iret hk dX2_cut_9 ?_
    exact ⟨rfl, by simp [*]⟩
