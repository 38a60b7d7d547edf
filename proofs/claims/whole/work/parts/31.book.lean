set_option maxHeartbeats 4000000 in
set_option maxRecDepth 100000 in
theorem c_X1_isRule (l : Launch) (V : gV) (ad : Nat → Nat) (E : Nat → va_E) (bb n : Nat) (π : Nat → Nat) (R : Nat → Nat → Int32) (hB : bkB V ad E bb n π R) (x : Int32) : Ct l V ad 44 44 yX1_isRule cX1_isRule 2 (some .boolean) { frames := 0, cells := 0, slots := 0, locals := 0 } [.ref (ad bb), .int x] E (pI ad (pS E (gB (0 ≤ x ∧ x < nI n)))) := by
  refine gCt mX1_isRule (Nat.le_of_ble_eq_true rfl) ?_
  intro K hk
  obtain ⟨h0, h1, h2, h3, h4, h5, h6⟩ := id hB
  refine G_iload_n (i := 1) hk dX1_isRule_0 rfl rfl ?_
  refine G_if_lt (tgt := 16) hk dX1_isRule_1 (by decide) (fun c_1 => ?_) (fun c_1 => ?_)
  · try simp only [gB_ne, gB_eq, Decidable.not_not] at c_1
    refine G_iconst (v := 0) hk dX1_isRule_16 (by decide) ?_
    refine G_zret hk dX1_isRule_17 (by first | rfl | exact gB_nar _) ?_
    exact ⟨rfl, by first | (simp [gB, *]; done) | exact (gB_t (by (simp only [fa_lt, fa_le, fa_eq, iT_0, iT_1, iT_2, iT_3, iT_4, iT_5, iT_6, iT_7, iT_9, iT_10, iT_20, iT_25, iT_26, iTm1, iTm2, iTm3, iTm4, iTm9] at *; omega))).symm | exact (gB_f (by (simp only [fa_lt, fa_le, fa_eq, iT_0, iT_1, iT_2, iT_3, iT_4, iT_5, iT_6, iT_7, iT_9, iT_10, iT_20, iT_25, iT_26, iTm1, iTm2, iTm3, iTm4, iTm9] at *; omega))).symm⟩
  · try simp only [gB_ne, gB_eq, Decidable.not_not] at c_1
    refine G_iload_n (i := 1) hk dX1_isRule_4 rfl rfl ?_
    refine G_aload_n (i := 0) hk dX1_isRule_5 rfl rfl ?_
    refine G_get hk fX1_25 dX1_isRule_6 (by assumption) (by rfl) (by first | decide | omega) ?_
    refine G_icmp_ge (tgt := 16) hk dX1_isRule_9 (by decide) (fun c_9 => ?_) (fun c_9 => ?_)
    · try simp only [gB_ne, gB_eq, Decidable.not_not] at c_9
      refine G_iconst (v := 0) hk dX1_isRule_16 (by decide) ?_
      refine G_zret hk dX1_isRule_17 (by first | rfl | exact gB_nar _) ?_
      exact ⟨rfl, by first | (simp [gB, *]; done) | exact (gB_t (by (simp only [fa_lt, fa_le, fa_eq, iT_0, iT_1, iT_2, iT_3, iT_4, iT_5, iT_6, iT_7, iT_9, iT_10, iT_20, iT_25, iT_26, iTm1, iTm2, iTm3, iTm4, iTm9] at *; omega))).symm | exact (gB_f (by (simp only [fa_lt, fa_le, fa_eq, iT_0, iT_1, iT_2, iT_3, iT_4, iT_5, iT_6, iT_7, iT_9, iT_10, iT_20, iT_25, iT_26, iTm1, iTm2, iTm3, iTm4, iTm9] at *; omega))).symm⟩
    · try simp only [gB_ne, gB_eq, Decidable.not_not] at c_9
      refine G_iconst (v := 1) hk dX1_isRule_12 (by decide) ?_
      refine G_goto (tgt := 17) hk dX1_isRule_13 (by decide) ?_
      refine G_zret hk dX1_isRule_17 (by first | rfl | exact gB_nar _) ?_
      exact ⟨rfl, by first | (simp [gB, *]; done) | exact (gB_t (by (simp only [fa_lt, fa_le, fa_eq, iT_0, iT_1, iT_2, iT_3, iT_4, iT_5, iT_6, iT_7, iT_9, iT_10, iT_20, iT_25, iT_26, iTm1, iTm2, iTm3, iTm4, iTm9] at *; omega))).symm | exact (gB_f (by (simp only [fa_lt, fa_le, fa_eq, iT_0, iT_1, iT_2, iT_3, iT_4, iT_5, iT_6, iT_7, iT_9, iT_10, iT_20, iT_25, iT_26, iTm1, iTm2, iTm3, iTm4, iTm9] at *; omega))).symm⟩

set_option maxHeartbeats 4000000 in
set_option maxRecDepth 100000 in
theorem c_X1_isPair (l : Launch) (V : gV) (ad : Nat → Nat) (E : Nat → va_E) (bb n : Nat) (π : Nat → Nat) (R : Nat → Nat → Int32) (hB : bkB V ad E bb n π R) (x : Int32) : Ct l V ad 44 44 yX1_isPair cX1_isPair 2 (some .boolean) { frames := 0, cells := 0, slots := 0, locals := 0 } [.ref (ad bb), .int x] E (pI ad (pS E (gB (0 ≤ x ∧ x < nI n - 1)))) := by
  refine gCt mX1_isPair (Nat.le_of_ble_eq_true rfl) ?_
  intro K hk
  obtain ⟨h0, h1, h2, h3, h4, h5, h6⟩ := id hB
  refine G_iload_n (i := 1) hk dX1_isPair_0 rfl rfl ?_
  refine G_if_lt (tgt := 18) hk dX1_isPair_1 (by decide) (fun c_1 => ?_) (fun c_1 => ?_)
  · try simp only [gB_ne, gB_eq, Decidable.not_not] at c_1
    refine G_iconst (v := 0) hk dX1_isPair_18 (by decide) ?_
    refine G_zret hk dX1_isPair_19 (by first | rfl | exact gB_nar _) ?_
    exact ⟨rfl, by first | (simp [gB, *]; done) | exact (gB_t (by (simp only [fa_lt, fa_le, fa_eq, iT_0, iT_1, iT_2, iT_3, iT_4, iT_5, iT_6, iT_7, iT_9, iT_10, iT_20, iT_25, iT_26, iTm1, iTm2, iTm3, iTm4, iTm9] at *; omega))).symm | exact (gB_f (by (simp only [fa_lt, fa_le, fa_eq, iT_0, iT_1, iT_2, iT_3, iT_4, iT_5, iT_6, iT_7, iT_9, iT_10, iT_20, iT_25, iT_26, iTm1, iTm2, iTm3, iTm4, iTm9] at *; omega))).symm⟩
  · try simp only [gB_ne, gB_eq, Decidable.not_not] at c_1
    refine G_iload_n (i := 1) hk dX1_isPair_4 rfl rfl ?_
    refine G_aload_n (i := 0) hk dX1_isPair_5 rfl rfl ?_
    refine G_get hk fX1_25 dX1_isPair_6 (by assumption) (by rfl) (by first | decide | omega) ?_
    refine G_iconst (v := 1) hk dX1_isPair_9 (by decide) ?_
    refine G_isub hk dX1_isPair_10 ?_
    refine G_icmp_ge (tgt := 18) hk dX1_isPair_11 (by decide) (fun c_11 => ?_) (fun c_11 => ?_)
    · try simp only [gB_ne, gB_eq, Decidable.not_not] at c_11
      refine G_iconst (v := 0) hk dX1_isPair_18 (by decide) ?_
      refine G_zret hk dX1_isPair_19 (by first | rfl | exact gB_nar _) ?_
      exact ⟨rfl, by first | (simp [gB, *]; done) | exact (gB_t (by (simp only [fa_lt, fa_le, fa_eq, iT_0, iT_1, iT_2, iT_3, iT_4, iT_5, iT_6, iT_7, iT_9, iT_10, iT_20, iT_25, iT_26, iTm1, iTm2, iTm3, iTm4, iTm9] at *; omega))).symm | exact (gB_f (by (simp only [fa_lt, fa_le, fa_eq, iT_0, iT_1, iT_2, iT_3, iT_4, iT_5, iT_6, iT_7, iT_9, iT_10, iT_20, iT_25, iT_26, iTm1, iTm2, iTm3, iTm4, iTm9] at *; omega))).symm⟩
    · try simp only [gB_ne, gB_eq, Decidable.not_not] at c_11
      refine G_iconst (v := 1) hk dX1_isPair_14 (by decide) ?_
      refine G_goto (tgt := 19) hk dX1_isPair_15 (by decide) ?_
      refine G_zret hk dX1_isPair_19 (by first | rfl | exact gB_nar _) ?_
      exact ⟨rfl, by first | (simp [gB, *]; done) | exact (gB_t (by (simp only [fa_lt, fa_le, fa_eq, iT_0, iT_1, iT_2, iT_3, iT_4, iT_5, iT_6, iT_7, iT_9, iT_10, iT_20, iT_25, iT_26, iTm1, iTm2, iTm3, iTm4, iTm9] at *; omega))).symm | exact (gB_f (by (simp only [fa_lt, fa_le, fa_eq, iT_0, iT_1, iT_2, iT_3, iT_4, iT_5, iT_6, iT_7, iT_9, iT_10, iT_20, iT_25, iT_26, iTm1, iTm2, iTm3, iTm4, iTm9] at *; omega))).symm⟩

set_option maxHeartbeats 4000000 in
set_option maxRecDepth 100000 in
theorem lp_X1_winnerOf {l : Launch} {V : gV} {ad : Nat → Nat} {K : gX} (hk : gOk l { frames := 1, cells := 0, slots := 0, locals := 21 } K V cX1_winnerOf 3 RX1 (some .int) yX1_winnerOf.name) (E : Nat → va_E) (bb n : Nat) (π : Nat → Nat) (R : Nat → Nat → Int32) (hB : bkB V ad E bb n π R) (x : Int32) : ∀ (k r : Nat) (val : Int32), n < r + k → r ≤ n → val = (if sFn R 99 x n r < n then nI (sFn R 99 x n r) else -9) → G K V 3 (gQ K V 44 0 0 (pI ad (pS E val))) ad 44 0 0 2 [(0, .ref (ad bb)), (1, .int x), (2, .int (nI r))] [] E := by
  obtain ⟨h0, h1, h2, h3, h4, h5, h6⟩ := hB
  intro k
  induction k with
  | zero => intro r val hr; omega
  | succ k ih =>
    intro r val hr hrn hv
    refine G_iload_n (i := 2) hk dX1_winnerOf_2 rfl rfl ?_
    refine G_aload_n (i := 0) hk dX1_winnerOf_3 rfl rfl ?_
    refine G_get hk fX1_25 dX1_winnerOf_4 (by assumption) (by rfl) (by first | decide | omega) ?_
    refine G_icmp_ge (tgt := 31) hk dX1_winnerOf_7 (by decide) (fun c_7 => ?_) (fun c_7 => ?_)
    · try simp only [gB_ne, gB_eq, Decidable.not_not] at c_7
      have hge : n ≤ r := (nle (by omega) (by omega)).mp c_7
      refine G_bipush (v := (-9)) hk dX1_winnerOf_31 (by decide) ?_
      refine G_iret hk dX1_winnerOf_33 ?_
      exact ⟨rfl, by rw [hv, sFn_end hge, if_neg (by omega)]⟩
    · try simp only [gB_ne, gB_eq, Decidable.not_not] at c_7
      have hlt : r < n := Nat.lt_of_not_le (fun q => c_7 ((nle (by omega) (by omega)).mpr q))
      have hr0 := h2 r (by omega)
      have hp0 := h4 r (by omega)
      refine G_aload_n (i := 0) hk dX1_winnerOf_10 rfl rfl ?_
      refine G_get hk fX1_11 dX1_winnerOf_11 (by assumption) (by rfl) (by first | decide | omega) ?_
      refine G_iload_n (i := 2) hk dX1_winnerOf_14 rfl rfl ?_
      refine G_aaldRlX (j := r) hk dX1_winnerOf_15 (by assumption) rfl (by omega) (by decide) (by rfl) (by first | decide | omega) ?_
      refine G_iload_n (i := 1) hk dX1_winnerOf_16 rfl rfl ?_
      refine G_cVi hk (c_X3_hasPoint l V ad E (bb + 4 + π r) (by omega) (R r) x hr0) mX3_hasPoint vX3_hasPoint kX1_55 dX1_winnerOf_17 (by assumption) (by rfl) (by first | decide | omega) rfl (by decide) (by decide) rfl (Nat.le_of_ble_eq_true rfl) (fun r_17 E_17 h_17 => ?_)
      obtain ⟨rfl, rfl⟩ := h_17
      refine G_if_eq (tgt := 25) hk dX1_winnerOf_20 (by decide) (fun c_20 => ?_) (fun c_20 => ?_)
      · try simp only [gB_ne, gB_eq, Decidable.not_not] at c_20
        refine G_iinc (v := nI (r + 1)) hk dX1_winnerOf_25 rfl (nI_inc r) (by decide) rfl ?_
        refine G_goto (tgt := 2) hk dX1_winnerOf_28 (by decide) ?_
        exact G_lv (by exact And.intro rfl (And.intro rfl (And.intro rfl (trivial)))) (ih (r + 1) val (by omega) (by omega) (by rw [hv, sFn_miss hlt (fun q => c_20 q.2)]))
      · try simp only [gB_ne, gB_eq, Decidable.not_not] at c_20
        refine G_iload_n (i := 2) hk dX1_winnerOf_23 rfl rfl ?_
        refine G_iret hk dX1_winnerOf_24 ?_
        exact ⟨rfl, by rw [hv, sFn_hit hlt (by omega) c_20, if_pos hlt]⟩

set_option maxHeartbeats 4000000 in
set_option maxRecDepth 100000 in
theorem c_X1_winnerOf (l : Launch) (V : gV) (ad : Nat → Nat) (E : Nat → va_E) (bb n : Nat) (π : Nat → Nat) (R : Nat → Nat → Int32) (hB : bkB V ad E bb n π R) (x : Int32) : Ct l V ad 44 44 yX1_winnerOf cX1_winnerOf 3 (some .int) { frames := 1, cells := 0, slots := 0, locals := 21 } [.ref (ad bb), .int x] E (pI ad (pS E (sW R n x))) := by
  refine gCt mX1_winnerOf (Nat.le_of_ble_eq_true rfl) ?_
  intro K hk
  refine G_iconst (v := 0) hk dX1_winnerOf_0 (by decide) ?_
  refine G_istore_n (i := 2) hk dX1_winnerOf_1 rfl (by decide) rfl ?_
  exact G_lv (by exact And.intro rfl (And.intro rfl (And.intro rfl (trivial)))) (lp_X1_winnerOf hk E bb n π R hB x (n + 1) 0 _ (by omega) (by omega) rfl)

set_option maxHeartbeats 4000000 in
set_option maxRecDepth 100000 in
theorem c_X0_give (l : Launch) (V : gV) (ad : Nat → Nat) (E : Nat → va_E) (bb : Nat) (hb : bb + 10 < 44) (dn wo : Int32) (dl : Nat → Int32) (hA : bkA V ad E bb dn wo dl) (x : Int32) : Ct l V ad 44 44 yX0_give cX0_give 2 none { frames := 0, cells := 0, slots := 0, locals := 0 } [.ref (ad (bb + 2)), .int x] E (pV ad (fun E2 => E2 = va_up E (bb + 2) (.inr (0, [.ref (ad (bb + 3)), .int 0, .int x])))) := by
  refine gCt mX0_give (Nat.le_of_ble_eq_true rfl) ?_
  intro K hk
  obtain ⟨a0, a1⟩ := hA
  refine G_aload_n (i := 0) hk dX0_give_0 rfl rfl ?_
  refine G_iload_n (i := 1) hk dX0_give_1 rfl rfl ?_
  refine G_put hk fX0_48 iX0_2 dX0_give_2 (by first | assumption | exact va_up_self _ _ _) (Nat.le_of_ble_eq_true rfl) (by first | decide | omega) ?_
  refine G_aload_n (i := 0) hk dX0_give_5 rfl rfl ?_
  refine G_iconst (v := 0) hk dX0_give_6 (by decide) ?_
  refine G_put hk fX0_15 iX0_1 dX0_give_7 (by first | assumption | exact va_up_self _ _ _) (Nat.le_of_ble_eq_true rfl) (by first | decide | omega) ?_
  refine G_vret hk dX0_give_10 ?_
  simp only [va_up_up, List.set]

set_option maxHeartbeats 4000000 in
set_option maxRecDepth 100000 in
theorem c_X0_addDenier (l : Launch) (V : gV) (ad : Nat → Nat) (E : Nat → va_E) (bb : Nat) (hb : bb + 10 < 44) (d : Nat) (hd8 : d < 8) (wo : Int32) (dl : Nat → Int32) (hA : bkA V ad E bb (nI d) wo dl) (x : Int32) : Ct l V ad 44 44 yX0_addDenier cX0_addDenier 2 none { frames := 0, cells := 0, slots := 0, locals := 0 } [.ref (ad (bb + 2)), .int x] E (pV ad (fun E2 => exA bb E E2 ∧ bkA V ad E2 bb (nI (d + 1)) wo (upd dl d x))) := by
  refine gCt mX0_addDenier (Nat.le_of_ble_eq_true rfl) ?_
  intro K hk
  obtain ⟨a0, a1⟩ := hA
  refine G_aload_n (i := 0) hk dX0_addDenier_0 rfl rfl ?_
  refine G_get hk fX0_15 dX0_addDenier_1 (by assumption) (by rfl) (by first | decide | omega) ?_
  refine G_aload_n (i := 0) hk dX0_addDenier_4 rfl rfl ?_
  refine G_get hk fX0_9 dX0_addDenier_5 (by assumption) (by rfl) (by first | decide | omega) ?_
  refine G_alen hk dX0_addDenier_8 a1 (v := 8) (by decide) (by omega) ?_
  refine G_icmp_lt (tgt := 13) hk dX0_addDenier_9 (by decide) (fun c_9 => ?_) (fun c_9 => ?_)
  · try simp only [gB_ne, gB_eq, Decidable.not_not] at c_9
    refine G_aload_n (i := 0) hk dX0_addDenier_13 rfl rfl ?_
    refine G_get hk fX0_9 dX0_addDenier_14 (by assumption) (by rfl) (by first | decide | omega) ?_
    refine G_aload_n (i := 0) hk dX0_addDenier_17 rfl rfl ?_
    refine G_get hk fX0_15 dX0_addDenier_18 (by assumption) (by rfl) (by first | decide | omega) ?_
    refine G_iload_n (i := 1) hk dX0_addDenier_21 rfl rfl ?_
    refine G_iastX (j := d) hk dX0_addDenier_22 (by assumption) rfl (by omega) (by decide) (by first | decide | omega) ?_
    have e2 : (va_up E (bb + 3) (gI V 8 (upd dl d x))) (bb + 2) = .inr (0, [.ref (ad (bb + 3)), .int (nI d), .int wo]) := by rw [va_up_ne _ _ (by omega)]; exact a0
    refine G_aload_n (i := 0) hk dX0_addDenier_23 rfl rfl ?_
    refine G_dup hk dX0_addDenier_24 rfl ?_
    refine G_get hk fX0_15 dX0_addDenier_25 (by assumption) (by rfl) (by first | decide | omega) ?_
    refine G_iconst (v := 1) hk dX0_addDenier_28 (by decide) ?_
    refine G_iadd hk dX0_addDenier_29 ?_
    refine G_put hk fX0_15 iX0_1 dX0_addDenier_30 (by assumption) (Nat.le_of_ble_eq_true rfl) (by first | decide | omega) ?_
    refine G_vret hk dX0_addDenier_33 ?_
    refine ⟨fun k p q => by rw [va_up_ne _ _ p, va_up_ne _ _ q], ?_, ?_⟩
    · rw [va_up_self, nI_i1]; rfl
    · rw [va_up_ne _ _ (by omega), va_up_self]
  · try simp only [gB_ne, gB_eq, Decidable.not_not] at c_9
    exact absurd ((nlt (a := d) (b := 8) (by omega) (by omega)).mpr hd8) c_9

set_option maxHeartbeats 4000000 in
set_option maxRecDepth 100000 in
theorem c_X0_denier (l : Launch) (V : gV) (ad : Nat → Nat) (E : Nat → va_E) (bb : Nat) (hb : bb + 10 < 44) (d : Nat) (hd8 : d ≤ 8) (wo : Int32) (dl : Nat → Int32) (hA : bkA V ad E bb (nI d) wo dl) (k : Nat) (hk9 : k < 100) : Ct l V ad 44 44 yX0_denier cX0_denier 2 (some .int) { frames := 0, cells := 0, slots := 0, locals := 0 } [.ref (ad (bb + 2)), .int (nI k)] E (pI ad (pS E (if k < d then dl k else -9))) := by
  refine gCt mX0_denier (Nat.le_of_ble_eq_true rfl) ?_
  intro K hk
  obtain ⟨a0, a1⟩ := hA
  refine G_iload_n (i := 1) hk dX0_denier_0 rfl rfl ?_
  refine G_if_lt (tgt := 21) hk dX0_denier_1 (by decide) (fun c_1 => ?_) (fun c_1 => ?_)
  · try simp only [gB_ne, gB_eq, Decidable.not_not] at c_1
    exact absurd c_1 (nI_pos (by omega))
  · try simp only [gB_ne, gB_eq, Decidable.not_not] at c_1
    refine G_iload_n (i := 1) hk dX0_denier_4 rfl rfl ?_
    refine G_aload_n (i := 0) hk dX0_denier_5 rfl rfl ?_
    refine G_get hk fX0_15 dX0_denier_6 (by assumption) (by rfl) (by first | decide | omega) ?_
    refine G_icmp_ge (tgt := 21) hk dX0_denier_9 (by decide) (fun c_9 => ?_) (fun c_9 => ?_)
    · try simp only [gB_ne, gB_eq, Decidable.not_not] at c_9
      have hge := (nle (by omega) (by omega)).mp c_9
      refine G_bipush (v := (-9)) hk dX0_denier_21 (by decide) ?_
      refine G_iret hk dX0_denier_23 ?_
      first | exact ⟨rfl, (if_pos hlt).symm⟩ | exact ⟨rfl, (if_neg (by omega)).symm⟩
    · try simp only [gB_ne, gB_eq, Decidable.not_not] at c_9
      have hlt : k < d := Nat.lt_of_not_le (fun q => c_9 ((nle (by omega) (by omega)).mpr q))
      refine G_aload_n (i := 0) hk dX0_denier_12 rfl rfl ?_
      refine G_get hk fX0_9 dX0_denier_13 (by assumption) (by rfl) (by first | decide | omega) ?_
      refine G_iload_n (i := 1) hk dX0_denier_16 rfl rfl ?_
      refine G_ialdX (j := k) hk dX0_denier_17 (by assumption) rfl (by omega) (by decide) (by first | decide | omega) ?_
      refine G_goto (tgt := 23) hk dX0_denier_18 (by decide) ?_
      refine G_iret hk dX0_denier_23 ?_
      first | exact ⟨rfl, (if_pos hlt).symm⟩ | exact ⟨rfl, (if_neg (by omega)).symm⟩
