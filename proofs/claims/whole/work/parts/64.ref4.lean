set_option maxHeartbeats 4000000 in
set_option maxRecDepth 100000 in
theorem c_X6_trace (l : Launch) (V : gV) (ad : Nat → Nat) (E : Nat → va_E) (n rd : Nat) (R : Nat → Nat → Int32) (rp rw : Nat → Int32) (tr fa : Int32) (la : Nat → Int32) (sz : Nat → Nat) (cl : Nat → Nat → Int32) (hR : mR V ad E (n, R, rd, rp, rw, tr, fa, la, sz, cl)) (ho0 : sOk n R) : Ct l V ad 44 44 yX6_trace cX6_trace 1 (some .int) { frames := 0, cells := 0, slots := 0, locals := 0 } [.ref (ad 34)] E (pI ad (fun v E2 => v = tr ∧ mR V ad E2 (n, R, rd, rp, rw, tr, fa, la, sz, cl) ∧ frM E E2)) := by
  refine gCt mX6_trace (Nat.le_of_ble_eq_true rfl) ?_
  intro K hk
  obtain ⟨at1, rr, dn, wo, so, sl, ce, pa, rz, dl, ke, p2, w2, hC, hrd8, hag, hrd, hso, hsl, hsz⟩ := id hR
  obtain ⟨m0, g35, g36, g37, g38, g39, g40, g41, g42, g43, m3⟩ := id hC
  have hM := hC.k
  have ho : ∀ i, i < n → rOk (pR pa i) := fun i hi => rOk_cw (hag i hi) (ho0 i hi)
  have hn0 : nI n = 0 ↔ n = 0 := neq (b := 0) (by omega) (by omega)
  refine G_aload_n (i := 0) hk dX6_trace_0 rfl rfl ?_
  refine G_get hk fX6_179 dX6_trace_1 (by assumption) (by rfl) (by first | decide | omega) ?_
  refine G_iret hk dX6_trace_4 ?_
  exact ⟨rfl, hR, frM.rf⟩

set_option maxHeartbeats 4000000 in
set_option maxRecDepth 100000 in
theorem c_X6_fault (l : Launch) (V : gV) (ad : Nat → Nat) (E : Nat → va_E) (n rd : Nat) (R : Nat → Nat → Int32) (rp rw : Nat → Int32) (tr fa : Int32) (la : Nat → Int32) (sz : Nat → Nat) (cl : Nat → Nat → Int32) (hR : mR V ad E (n, R, rd, rp, rw, tr, fa, la, sz, cl)) (ho0 : sOk n R) : Ct l V ad 44 44 yX6_fault cX6_fault 1 (some .int) { frames := 0, cells := 0, slots := 0, locals := 0 } [.ref (ad 34)] E (pI ad (fun v E2 => v = fa ∧ mR V ad E2 (n, R, rd, rp, rw, tr, fa, la, sz, cl) ∧ frM E E2)) := by
  refine gCt mX6_fault (Nat.le_of_ble_eq_true rfl) ?_
  intro K hk
  obtain ⟨at1, rr, dn, wo, so, sl, ce, pa, rz, dl, ke, p2, w2, hC, hrd8, hag, hrd, hso, hsl, hsz⟩ := id hR
  obtain ⟨m0, g35, g36, g37, g38, g39, g40, g41, g42, g43, m3⟩ := id hC
  have hM := hC.k
  have ho : ∀ i, i < n → rOk (pR pa i) := fun i hi => rOk_cw (hag i hi) (ho0 i hi)
  have hn0 : nI n = 0 ↔ n = 0 := neq (b := 0) (by omega) (by omega)
  refine G_aload_n (i := 0) hk dX6_fault_0 rfl rfl ?_
  refine G_get hk fX6_37 dX6_fault_1 (by assumption) (by rfl) (by first | decide | omega) ?_
  refine G_iret hk dX6_fault_4 ?_
  exact ⟨rfl, hR, frM.rf⟩

set_option maxHeartbeats 4000000 in
set_option maxRecDepth 100000 in
theorem c_X6_fails (l : Launch) (V : gV) (ad : Nat → Nat) (E : Nat → va_E) (n rd : Nat) (R : Nat → Nat → Int32) (rp rw : Nat → Int32) (tr fa : Int32) (la : Nat → Int32) (sz : Nat → Nat) (cl : Nat → Nat → Int32) (hR : mR V ad E (n, R, rd, rp, rw, tr, fa, la, sz, cl)) (ho0 : sOk n R) (w : Int32) : Ct l V ad 44 44 yX6_fails cX6_fails 2 (some .int) { frames := 0, cells := 0, slots := 0, locals := 0 } [.ref (ad 34), .int w] E (pI ad (fun v E2 => v = -10 - w ∧ mR V ad E2 (n, R, rd, rp, rw, tr, w, la, sz, cl) ∧ frM E E2)) := by
  refine gCt mX6_fails (Nat.le_of_ble_eq_true rfl) ?_
  intro K hk
  obtain ⟨at1, rr, dn, wo, so, sl, ce, pa, rz, dl, ke, p2, w2, hC, hrd8, hag, hrd, hso, hsl, hsz⟩ := id hR
  obtain ⟨m0, g35, g36, g37, g38, g39, g40, g41, g42, g43, m3⟩ := id hC
  have hM := hC.k
  have ho : ∀ i, i < n → rOk (pR pa i) := fun i hi => rOk_cw (hag i hi) (ho0 i hi)
  have hn0 : nI n = 0 ↔ n = 0 := neq (b := 0) (by omega) (by omega)
  refine G_aload_n (i := 0) hk dX6_fails_0 rfl rfl ?_
  refine G_iload_n (i := 1) hk dX6_fails_1 rfl rfl ?_
  refine G_put hk fX6_37 iX6_0 dX6_fails_2 (by assumption) (Nat.le_of_ble_eq_true rfl) (by first | decide | omega) ?_
  refine G_E (E2 := va_up E 34 (mO ad w tr (nI n) at1 rr dn wo (nI rd))) rfl ?_
  refine G_bipush (v := (-10)) hk dX6_fails_5 (by decide) ?_
  refine G_iload_n (i := 1) hk dX6_fails_7 rfl rfl ?_
  refine G_isub hk dX6_fails_8 ?_
  refine G_iret hk dX6_fails_9 ?_
  exact ⟨rfl, ⟨_, _, _, _, _, _, _, _, _, _, _, _, _, hC.o m3, hrd8, hag, hrd, hso, hsl, hsz⟩, frM.up (by omega)⟩

set_option maxHeartbeats 4000000 in
set_option maxRecDepth 100000 in
theorem c_X6_lost (l : Launch) (V : gV) (ad : Nat → Nat) (E : Nat → va_E) (n rd : Nat) (R : Nat → Nat → Int32) (rp rw : Nat → Int32) (tr fa : Int32) (la : Nat → Int32) (sz : Nat → Nat) (cl : Nat → Nat → Int32) (hR : mR V ad E (n, R, rd, rp, rw, tr, fa, la, sz, cl)) (ho0 : sOk n R) (w : Int32) : Ct l V ad 44 44 yX6_lost cX6_lost 2 (some .long) { frames := 0, cells := 0, slots := 0, locals := 0 } [.ref (ad 34), .int w] E (pJ ad (fun v E2 => v = sLost ∧ mR V ad E2 (n, R, rd, rp, rw, tr, w, la, sz, cl) ∧ frM E E2)) := by
  refine gCt mX6_lost (Nat.le_of_ble_eq_true rfl) ?_
  intro K hk
  obtain ⟨at1, rr, dn, wo, so, sl, ce, pa, rz, dl, ke, p2, w2, hC, hrd8, hag, hrd, hso, hsl, hsz⟩ := id hR
  obtain ⟨m0, g35, g36, g37, g38, g39, g40, g41, g42, g43, m3⟩ := id hC
  have hM := hC.k
  have ho : ∀ i, i < n → rOk (pR pa i) := fun i hi => rOk_cw (hag i hi) (ho0 i hi)
  have hn0 : nI n = 0 ↔ n = 0 := neq (b := 0) (by omega) (by omega)
  refine G_aload_n (i := 0) hk dX6_lost_0 rfl rfl ?_
  refine G_iload_n (i := 1) hk dX6_lost_1 rfl rfl ?_
  refine G_put hk fX6_37 iX6_0 dX6_lost_2 (by assumption) (Nat.le_of_ble_eq_true rfl) (by first | decide | omega) ?_
  refine G_E (E2 := va_up E 34 (mO ad w tr (nI n) at1 rr dn wo (nI rd))) rfl ?_
  refine G_ldc2 (v := sLost) hk jcX6_41 dX6_lost_5 ?_
  refine G_lret hk dX6_lost_8 ?_
  exact ⟨rfl, ⟨_, _, _, _, _, _, _, _, _, _, _, _, _, hC.o m3, hrd8, hag, hrd, hso, hsl, hsz⟩, frM.up (by omega)⟩

set_option maxHeartbeats 4000000 in
set_option maxRecDepth 100000 in
theorem c_X6_begins (l : Launch) (V : gV) (ad : Nat → Nat) (E : Nat → va_E) (n rd : Nat) (R : Nat → Nat → Int32) (rp rw : Nat → Int32) (tr fa : Int32) (la : Nat → Int32) (sz : Nat → Nat) (cl : Nat → Nat → Int32) (hR : mR V ad E (n, R, rd, rp, rw, tr, fa, la, sz, cl)) (ho0 : sOk n R) (w : Int32) : Ct l V ad 44 44 yX6_begins cX6_begins 2 none { frames := 0, cells := 0, slots := 0, locals := 0 } [.ref (ad 34), .int w] E (pV ad (fun E2 => mR V ad E2 (n, R, rd, rp, rw, 31 * tr + w, fa, la, sz, cl) ∧ frM E E2)) := by
  refine gCt mX6_begins (Nat.le_of_ble_eq_true rfl) ?_
  intro K hk
  obtain ⟨at1, rr, dn, wo, so, sl, ce, pa, rz, dl, ke, p2, w2, hC, hrd8, hag, hrd, hso, hsl, hsz⟩ := id hR
  obtain ⟨m0, g35, g36, g37, g38, g39, g40, g41, g42, g43, m3⟩ := id hC
  have hM := hC.k
  have ho : ∀ i, i < n → rOk (pR pa i) := fun i hi => rOk_cw (hag i hi) (ho0 i hi)
  have hn0 : nI n = 0 ↔ n = 0 := neq (b := 0) (by omega) (by omega)
  refine G_aload_n (i := 0) hk dX6_begins_0 rfl rfl ?_
  refine G_bipush (v := 31) hk dX6_begins_1 (by decide) ?_
  refine G_aload_n (i := 0) hk dX6_begins_3 rfl rfl ?_
  refine G_get hk fX6_179 dX6_begins_4 (by assumption) (by rfl) (by first | decide | omega) ?_
  refine G_imul hk dX6_begins_7 ?_
  refine G_iload_n (i := 1) hk dX6_begins_8 rfl rfl ?_
  refine G_iadd hk dX6_begins_9 ?_
  refine G_put hk fX6_179 iX6_1 dX6_begins_10 (by assumption) (Nat.le_of_ble_eq_true rfl) (by first | decide | omega) ?_
  refine G_E (E2 := va_up E 34 (mO ad fa (31 * tr + w) (nI n) at1 rr dn wo (nI rd))) rfl ?_
  refine G_vret hk dX6_begins_13 ?_
  exact ⟨⟨_, _, _, _, _, _, _, _, _, _, _, _, _, hC.o m3, hrd8, hag, hrd, hso, hsl, hsz⟩, frM.up (by omega)⟩

set_option maxHeartbeats 4000000 in
set_option maxRecDepth 100000 in
theorem c_X6_ofRule (l : Launch) (V : gV) (ad : Nat → Nat) (E : Nat → va_E) (n rd : Nat) (R : Nat → Nat → Int32) (rp rw : Nat → Int32) (tr fa : Int32) (la : Nat → Int32) (sz : Nat → Nat) (cl : Nat → Nat → Int32) (hR : mR V ad E (n, R, rd, rp, rw, tr, fa, la, sz, cl)) (ho0 : sOk n R) (r w : Int32) : Ct l V ad 44 44 yX6_ofRule cX6_ofRule 3 (some .int) { frames := 4, cells := 0, slots := 0, locals := 91 } [.ref (ad 34), .int r, .int w] E (pI ad (fun v E2 => v = vOfRule n R r w ∧ mR V ad E2 (n, R, rd, rp, rw, tr, fa, la, sz, cl) ∧ frM E E2)) := by
  refine gCt mX6_ofRule (Nat.le_of_ble_eq_true rfl) ?_
  intro K hk
  obtain ⟨at1, rr, dn, wo, so, sl, ce, pa, rz, dl, ke, p2, w2, hC, hrd8, hag, hrd, hso, hsl, hsz⟩ := id hR
  obtain ⟨m0, g35, g36, g37, g38, g39, g40, g41, g42, g43, m3⟩ := id hC
  have hM := hC.k
  have ho : ∀ i, i < n → rOk (pR pa i) := fun i hi => rOk_cw (hag i hi) (ho0 i hi)
  have hn0 : nI n = 0 ↔ n = 0 := neq (b := 0) (by omega) (by omega)
  refine G_aload_n (i := 0) hk dX6_ofRule_0 rfl rfl ?_
  refine G_iload_n (i := 1) hk dX6_ofRule_1 rfl rfl ?_
  refine G_cVi hk (c_X6_isRule l V ad E fa tr at1 rr (nI rd) n pa dn wo dl hM r) mX6_isRule vX6_isRule kX6_116 dX6_ofRule_2 (by assumption) (by rfl) (by first | decide | omega) rfl (by decide) (by decide) rfl (Nat.le_of_ble_eq_true rfl) (fun r_2 E_2 h_2 => ?_)
  obtain ⟨rfl, rfl⟩ := h_2
  refine G_if_ne (tgt := 10) hk dX6_ofRule_5 (by decide) (fun c_5 => ?_) (fun c_5 => ?_)
  · try simp only [gB_ne, gB_eq, Decidable.not_not] at c_5
    obtain ⟨j, hj, rfl⟩ := gIx (Int32.not_lt.mpr c_5.1) c_5.2 (by omega)
    have hix : ix (nI j) = j := ix_nI (by omega)
    have haj := hag j hj
    refine G_iload_n (i := 2) hk dX6_ofRule_10 rfl rfl ?_
    refine G_iconst (v := 0) hk dX6_ofRule_11 (by decide) ?_
    refine G_iconst (v := 4) hk dX6_ofRule_12 (by decide) ?_
    refine G_cSi hk (c_X6_within l V ad E w 0 4) mX6_within sX6_within kX6_43 dX6_ofRule_13 rfl (by decide) (by decide) rfl (Nat.le_of_ble_eq_true rfl) (fun r_13 E_13 h_13 => ?_)
    obtain ⟨rfl, rfl⟩ := h_13
    refine G_if_eq (tgt := 30) hk dX6_ofRule_16 (by decide) (fun c_16 => ?_) (fun c_16 => ?_)
    · try simp only [gB_ne, gB_eq, Decidable.not_not] at c_16
      have w0 : ¬ w = 0 := fun q => c_16 (by rw [q]; decide)
      have w1 : ¬ w = 1 := fun q => c_16 (by rw [q]; decide)
      have w2' : ¬ w = 2 := fun q => c_16 (by rw [q]; decide)
      have w3 : ¬ w = 3 := fun q => c_16 (by rw [q]; decide)
      have w4 : ¬ w = 4 := fun q => c_16 (by rw [q]; decide)
      refine G_iload_n (i := 2) hk dX6_ofRule_30 rfl rfl ?_
      refine G_iconst (v := 5) hk dX6_ofRule_31 (by decide) ?_
      refine G_icmp_ne (tgt := 43) hk dX6_ofRule_32 (by decide) (fun c_32 => ?_) (fun c_32 => ?_)
      · try simp only [gB_ne, gB_eq, Decidable.not_not] at c_32
        refine G_iload_n (i := 2) hk dX6_ofRule_43 rfl rfl ?_
        refine G_bipush (v := 6) hk dX6_ofRule_44 (by decide) ?_
        refine G_icmp_ne (tgt := 57) hk dX6_ofRule_46 (by decide) (fun c_46 => ?_) (fun c_46 => ?_)
        · try simp only [gB_ne, gB_eq, Decidable.not_not] at c_46
          refine G_bipush (v := (-2)) hk dX6_ofRule_57 (by decide) ?_
          refine G_iret hk dX6_ofRule_59 ?_
          exact ⟨by unfold vOfRule; rw [hix, if_pos c_5, if_neg w0, if_neg w1, if_neg w2', if_neg w3, if_neg w4, if_neg c_32, if_neg c_46], hR, frM.rf⟩
        · try simp only [gB_ne, gB_eq, Decidable.not_not] at c_46
          refine G_aload_n (i := 0) hk dX6_ofRule_49 rfl rfl ?_
          refine G_iload_n (i := 1) hk dX6_ofRule_50 rfl rfl ?_
          refine G_cVi hk (c_X6_wins l V ad E fa tr at1 rr (nI rd) n pa dn wo dl hM (nI j)) mX6_wins vX6_wins kX6_119 dX6_ofRule_51 (by assumption) (by rfl) (by first | decide | omega) rfl (by decide) (by decide) rfl (Nat.le_of_ble_eq_true rfl) (fun r_51 E_51 h_51 => ?_)
          obtain ⟨rfl, rfl⟩ := h_51
          refine G_goto (tgt := 59) hk dX6_ofRule_54 (by decide) ?_
          refine G_iret hk dX6_ofRule_59 ?_
          exact ⟨by unfold vOfRule; rw [hix, if_pos c_5, if_neg w0, if_neg w1, if_neg w2', if_neg w3, if_neg w4, if_neg c_32, if_pos (by first | exact c_46 | exact Decidable.not_not.mp c_46), sWon_cw hag], hR, frM.rf⟩
      · try simp only [gB_ne, gB_eq, Decidable.not_not] at c_32
        refine G_aload_n (i := 0) hk dX6_ofRule_35 rfl rfl ?_
        refine G_iload_n (i := 1) hk dX6_ofRule_36 rfl rfl ?_
        refine G_cVi hk (c_X6_worthOf l V ad E fa tr at1 rr (nI rd) n pa dn wo dl hM j (by omega) (ho j hj)) mX6_worthOf vX6_worthOf kX6_110 dX6_ofRule_37 (by assumption) (by rfl) (by first | decide | omega) rfl (by decide) (by decide) rfl (Nat.le_of_ble_eq_true rfl) (fun r_37 E_37 h_37 => ?_)
        obtain ⟨rfl, rfl⟩ := h_37
        refine G_goto (tgt := 59) hk dX6_ofRule_40 (by decide) ?_
        refine G_iret hk dX6_ofRule_59 ?_
        exact ⟨by unfold vOfRule; rw [hix, if_pos c_5, if_neg w0, if_neg w1, if_neg w2', if_neg w3, if_neg w4, if_pos (by first | exact c_32 | exact Decidable.not_not.mp c_32), sWr_cw haj], hR, frM.rf⟩
    · try simp only [gB_ne, gB_eq, Decidable.not_not] at c_16
      obtain ⟨t, ht, rfl⟩ := gIe (n := 4) c_16.1 c_16.2 (by omega)
      refine G_aload_n (i := 0) hk dX6_ofRule_19 rfl rfl ?_
      refine G_get hk fX6_19 dX6_ofRule_20 (by assumption) (by rfl) (by first | decide | omega) ?_
      refine G_iconst (v := 5) hk dX6_ofRule_23 (by decide) ?_
      refine G_iload_n (i := 1) hk dX6_ofRule_24 rfl rfl ?_
      refine G_imul hk dX6_ofRule_25 ?_
      refine G_iload_n (i := 2) hk dX6_ofRule_26 rfl rfl ?_
      refine G_iadd hk dX6_ofRule_27 ?_
      rw [show (5 : Int32) * nI j + nI t = nI (5 * j + t) by rw [show (5 : Int32) * nI j = nI (5 * j) from pk_mul 5 j, nI_add]]
      refine G_ialdX (j := (5 * j + t)) hk dX6_ofRule_28 (by assumption) rfl (by omega) (by decide) (by first | decide | omega) ?_
      refine G_iret hk dX6_ofRule_29 ?_
      exact ⟨by rw [vOfRule_t hj m3 ht]; exact haj t (by omega), hR, frM.rf⟩
  · try simp only [gB_ne, gB_eq, Decidable.not_not] at c_5
    refine G_iconst (v := (-1)) hk dX6_ofRule_8 (by decide) ?_
    refine G_iret hk dX6_ofRule_9 ?_
    exact ⟨by unfold vOfRule; rw [if_neg c_5], hR, frM.rf⟩

set_option maxHeartbeats 4000000 in
set_option maxRecDepth 100000 in
theorem c_X6_number (l : Launch) (V : gV) (ad : Nat → Nat) (E : Nat → va_E) (n rd : Nat) (R : Nat → Nat → Int32) (rp rw : Nat → Int32) (tr fa : Int32) (la : Nat → Int32) (sz : Nat → Nat) (cl : Nat → Nat → Int32) (hR : mR V ad E (n, R, rd, rp, rw, tr, fa, la, sz, cl)) (ho0 : sOk n R) (r v : Int32) : Ct l V ad 44 44 yX6_number cX6_number 4 (some .int) { frames := 1, cells := 0, slots := 0, locals := 22 } [.ref (ad 34), .int r, .int v] E (pI ad (fun z E2 => z = vNumber n R r v ∧ mR V ad E2 (n, rNumber n R r v, rd, rp, rw, tr, fa, la, sz, cl) ∧ frM E E2)) := by
  refine gCt mX6_number (Nat.le_of_ble_eq_true rfl) ?_
  intro K hk
  obtain ⟨at1, rr, dn, wo, so, sl, ce, pa, rz, dl, ke, p2, w2, hC, hrd8, hag, hrd, hso, hsl, hsz⟩ := id hR
  obtain ⟨m0, g35, g36, g37, g38, g39, g40, g41, g42, g43, m3⟩ := id hC
  have hM := hC.k
  have ho : ∀ i, i < n → rOk (pR pa i) := fun i hi => rOk_cw (hag i hi) (ho0 i hi)
  have hn0 : nI n = 0 ↔ n = 0 := neq (b := 0) (by omega) (by omega)
  refine G_aload_n (i := 0) hk dX6_number_0 rfl rfl ?_
  refine G_iload_n (i := 1) hk dX6_number_1 rfl rfl ?_
  refine G_cVi hk (c_X6_isRule l V ad E fa tr at1 rr (nI rd) n pa dn wo dl hM r) mX6_isRule vX6_isRule kX6_116 dX6_number_2 (by assumption) (by rfl) (by first | decide | omega) rfl (by decide) (by decide) rfl (Nat.le_of_ble_eq_true rfl) (fun r_2 E_2 h_2 => ?_)
  obtain ⟨rfl, rfl⟩ := h_2
  refine G_if_ne (tgt := 10) hk dX6_number_5 (by decide) (fun c_5 => ?_) (fun c_5 => ?_)
  · try simp only [gB_ne, gB_eq, Decidable.not_not] at c_5
    obtain ⟨j, hj, rfl⟩ := gIx (Int32.not_lt.mpr c_5.1) c_5.2 (by omega)
    have hix : ix (nI j) = j := ix_nI (by omega)
    have haj := hag j hj
    refine G_iload_n (i := 2) hk dX6_number_10 rfl rfl ?_
    refine G_iconst (v := 1) hk dX6_number_11 (by decide) ?_
    refine G_bipush (v := 9) hk dX6_number_12 (by decide) ?_
    refine G_cSi hk (c_X6_within l V ad E v 1 9) mX6_within sX6_within kX6_43 dX6_number_14 rfl (by decide) (by decide) rfl (Nat.le_of_ble_eq_true rfl) (fun r_14 E_14 h_14 => ?_)
    obtain ⟨rfl, rfl⟩ := h_14
    refine G_if_ne (tgt := 23) hk dX6_number_17 (by decide) (fun c_17 => ?_) (fun c_17 => ?_)
    · try simp only [gB_ne, gB_eq, Decidable.not_not] at c_17
      refine G_aload_n (i := 0) hk dX6_number_23 rfl rfl ?_
      refine G_iload_n (i := 1) hk dX6_number_24 rfl rfl ?_
      refine G_cVi hk (c_X6_numberOf l V ad E fa tr at1 rr (nI rd) n pa dn wo dl hM j (by omega)) mX6_numberOf vX6_numberOf kX6_54 dX6_number_25 (by assumption) (by rfl) (by first | decide | omega) rfl (by decide) (by decide) rfl (Nat.le_of_ble_eq_true rfl) (fun r_25 E_25 h_25 => ?_)
      obtain ⟨rfl, rfl⟩ := h_25
      refine G_istore_n (i := 3) hk dX6_number_28 rfl (by decide) rfl ?_
      refine G_aload_n (i := 0) hk dX6_number_29 rfl rfl ?_
      refine G_get hk fX6_19 dX6_number_30 (by assumption) (by rfl) (by first | decide | omega) ?_
      refine G_iconst (v := 5) hk dX6_number_33 (by decide) ?_
      refine G_iload_n (i := 1) hk dX6_number_34 rfl rfl ?_
      refine G_imul hk dX6_number_35 ?_
      refine G_iconst (v := 2) hk dX6_number_36 (by decide) ?_
      refine G_iadd hk dX6_number_37 ?_
      rw [show (5 : Int32) * nI j + 2 = nI (5 * j + 2) by rw [show (5 : Int32) * nI j = nI (5 * j) from pk_mul 5 j]; exact nI_add _ 2]
      refine G_iload_n (i := 2) hk dX6_number_38 rfl rfl ?_
      refine G_iastX (j := (5 * j + 2)) hk dX6_number_39 (by assumption) rfl (by omega) (by decide) (by first | decide | omega) ?_
      refine G_iload_n (i := 3) hk dX6_number_40 rfl rfl ?_
      refine G_iret hk dX6_number_41 ?_
      refine ⟨by unfold vNumber; rw [if_pos c_5, if_pos c_17, hix]; exact haj 2 (by omega), ⟨_, _, _, _, _, _, _, _, _, _, _, _, _, hC.s_pa _, hrd8, fun i hi q hq => ?_, hrd, hso, hsl, hsz⟩, frM.up (by omega)⟩
      unfold rNumber
      rw [if_pos (show (0 ≤ nI j ∧ nI j < nI n) ∧ (1 ≤ v ∧ v ≤ 9) from ⟨c_5, c_17⟩), hix]
      show upd pa (5 * j + 2) v (5 * i + q) = _
      unfold upd sNum
      by_cases hij : i = j
      · subst hij
        rw [if_pos rfl]
        by_cases hq2 : q = 2
        · rw [if_pos (by omega), if_pos hq2]
        · rw [if_neg (by omega), if_neg hq2]; exact hag i hi q hq
      · rw [if_neg hij, if_neg (by omega)]; exact hag i hi q hq
    · try simp only [gB_ne, gB_eq, Decidable.not_not] at c_17
      refine G_bipush (v := (-2)) hk dX6_number_20 (by decide) ?_
      refine G_iret hk dX6_number_22 ?_
      exact ⟨by unfold vNumber; rw [if_pos c_5, if_neg c_17], ⟨_, _, _, _, _, _, _, _, _, _, _, _, _, hC, hrd8, fun i hi q hq => (hag i hi q hq).trans (by unfold rNumber; rw [if_neg (fun z => c_17 z.2)]), hrd, hso, hsl, hsz⟩, frM.rf⟩
  · try simp only [gB_ne, gB_eq, Decidable.not_not] at c_5
    refine G_iconst (v := (-1)) hk dX6_number_8 (by decide) ?_
    refine G_iret hk dX6_number_9 ?_
    exact ⟨by unfold vNumber; rw [if_neg c_5], ⟨_, _, _, _, _, _, _, _, _, _, _, _, _, hC, hrd8, fun i hi q hq => (hag i hi q hq).trans (by unfold rNumber; rw [if_neg (fun z => c_5 z.1)]), hrd, hso, hsl, hsz⟩, frM.rf⟩

set_option maxHeartbeats 4000000 in
set_option maxRecDepth 100000 in
theorem c_X6_winner (l : Launch) (V : gV) (ad : Nat → Nat) (E : Nat → va_E) (n rd : Nat) (R : Nat → Nat → Int32) (rp rw : Nat → Int32) (tr fa : Int32) (la : Nat → Int32) (sz : Nat → Nat) (cl : Nat → Nat → Int32) (hR : mR V ad E (n, R, rd, rp, rw, tr, fa, la, sz, cl)) (ho0 : sOk n R) (x : Int32) : Ct l V ad 44 44 yX6_winner cX6_winner 2 (some .int) { frames := 3, cells := 0, slots := 0, locals := 68 } [.ref (ad 34), .int x] E (pI ad (fun v E2 => v = vWinner n R x ∧ mR V ad E2 (n, R, rd, rp, rw, tr, fa, la, sz, cl) ∧ frM E E2)) := by
  refine gCt mX6_winner (Nat.le_of_ble_eq_true rfl) ?_
  intro K hk
  obtain ⟨at1, rr, dn, wo, so, sl, ce, pa, rz, dl, ke, p2, w2, hC, hrd8, hag, hrd, hso, hsl, hsz⟩ := id hR
  obtain ⟨m0, g35, g36, g37, g38, g39, g40, g41, g42, g43, m3⟩ := id hC
  have hM := hC.k
  have ho : ∀ i, i < n → rOk (pR pa i) := fun i hi => rOk_cw (hag i hi) (ho0 i hi)
  have hn0 : nI n = 0 ↔ n = 0 := neq (b := 0) (by omega) (by omega)
  refine G_iload_n (i := 1) hk dX6_winner_0 rfl rfl ?_
  refine G_cSi hk (c_X6_isPoint l V ad E x) mX6_isPoint sX6_isPoint kX6_122 dX6_winner_1 rfl (by decide) (by decide) rfl (Nat.le_of_ble_eq_true rfl) (fun r_1 E_1 h_1 => ?_)
  obtain ⟨rfl, rfl⟩ := h_1
  refine G_if_ne (tgt := 10) hk dX6_winner_4 (by decide) (fun c_4 => ?_) (fun c_4 => ?_)
  · try simp only [gB_ne, gB_eq, Decidable.not_not] at c_4
    refine G_aload_n (i := 0) hk dX6_winner_10 rfl rfl ?_
    refine G_get hk fX6_47 dX6_winner_11 (by assumption) (by rfl) (by first | decide | omega) ?_
    refine G_if_ne (tgt := 22) hk dX6_winner_14 (by decide) (fun c_14 => ?_) (fun c_14 => ?_)
    · try simp only [gB_ne, gB_eq, Decidable.not_not] at c_14
      have hn : ¬ n = 0 := fun q => c_14 (hn0.mpr q)
      refine G_aload_n (i := 0) hk dX6_winner_22 rfl rfl ?_
      refine G_iload_n (i := 1) hk dX6_winner_23 rfl rfl ?_
      refine G_cVi hk (c_X6_winnerOf l V ad E fa tr at1 rr (nI rd) n pa dn wo dl hM x) mX6_winnerOf vX6_winnerOf kX6_113 dX6_winner_24 (by assumption) (by rfl) (by first | decide | omega) rfl (by decide) (by decide) rfl (Nat.le_of_ble_eq_true rfl) (fun r_24 E_24 h_24 => ?_)
      obtain ⟨rfl, rfl⟩ := h_24
      refine G_iret hk dX6_winner_27 ?_
      exact ⟨by unfold vWinner; (try first | rw [if_pos c_4] | rw [if_neg c_4]); (try first | rw [if_pos c_14] | rw [if_neg c_14]); (try first | rw [if_pos hn] | rw [if_neg hn]); (try rw [sW_cw hag]), hR, frM.rf⟩
    · try simp only [gB_ne, gB_eq, Decidable.not_not] at c_14
      have hn : n = 0 := hn0.mp (by first | exact c_14 | exact Decidable.not_not.mp c_14)
      refine G_bipush (v := (-3)) hk dX6_winner_17 (by decide) ?_
      refine G_goto (tgt := 27) hk dX6_winner_19 (by decide) ?_
      refine G_iret hk dX6_winner_27 ?_
      exact ⟨by unfold vWinner; (try first | rw [if_pos c_4] | rw [if_neg c_4]); (try first | rw [if_pos c_14] | rw [if_neg c_14]); (try first | rw [if_pos hn] | rw [if_neg hn]); (try rw [sW_cw hag]), hR, frM.rf⟩
  · try simp only [gB_ne, gB_eq, Decidable.not_not] at c_4
    refine G_bipush (v := (-2)) hk dX6_winner_7 (by decide) ?_
    refine G_iret hk dX6_winner_9 ?_
    exact ⟨by unfold vWinner; (try first | rw [if_pos c_4] | rw [if_neg c_4]); (try first | rw [if_pos hn] | rw [if_neg hn]); (try rw [sW_cw hag]), hR, frM.rf⟩

set_option maxHeartbeats 4000000 in
set_option maxRecDepth 100000 in
theorem c_X6_many (l : Launch) (V : gV) (ad : Nat → Nat) (E : Nat → va_E) (n rd : Nat) (R : Nat → Nat → Int32) (rp rw : Nat → Int32) (tr fa : Int32) (la : Nat → Int32) (sz : Nat → Nat) (cl : Nat → Nat → Int32) (hR : mR V ad E (n, R, rd, rp, rw, tr, fa, la, sz, cl)) (ho0 : sOk n R) (w : Int32) : Ct l V ad 44 44 yX6_many cX6_many 2 (some .int) { frames := 4, cells := 0, slots := 0, locals := 90 } [.ref (ad 34), .int w] E (pI ad (fun v E2 => v = vMany n R rd w ∧ mR V ad E2 (n, R, rd, rp, rw, tr, fa, la, sz, cl) ∧ frM E E2)) := by
  refine gCt mX6_many (Nat.le_of_ble_eq_true rfl) ?_
  intro K hk
  obtain ⟨at1, rr, dn, wo, so, sl, ce, pa, rz, dl, ke, p2, w2, hC, hrd8, hag, hrd, hso, hsl, hsz⟩ := id hR
  obtain ⟨m0, g35, g36, g37, g38, g39, g40, g41, g42, g43, m3⟩ := id hC
  have hM := hC.k
  have ho : ∀ i, i < n → rOk (pR pa i) := fun i hi => rOk_cw (hag i hi) (ho0 i hi)
  have hn0 : nI n = 0 ↔ n = 0 := neq (b := 0) (by omega) (by omega)
  refine G_iload_n (i := 1) hk dX6_many_0 rfl rfl ?_
  by_cases q1_0 : w = 0
  · skip
    refine G_tbl (off := 27) (tgt := 28) 0 hk dX6_many_1 (by rw [q1_0]; decide) (by decide) (by decide) (by rfl) (by decide) ?_
    refine G_aload_n (i := 0) hk dX6_many_28 rfl rfl ?_
    refine G_get hk fX6_47 dX6_many_29 (by assumption) (by rfl) (by first | decide | omega) ?_
    refine G_iret hk dX6_many_32 ?_
    exact ⟨by unfold vMany; (try first | rw [if_pos q1_0] | rw [if_neg q1_0]); (try rw [sRunsN_cw hag]), hR, frM.rf⟩
  · skip
    by_cases q1_1 : w = 1
    · skip
      refine G_tbl (off := 32) (tgt := 33) 1 hk dX6_many_1 (by rw [q1_1]; decide) (by decide) (by decide) (by rfl) (by decide) ?_
      refine G_aload_n (i := 0) hk dX6_many_33 rfl rfl ?_
      refine G_cVi hk (c_X6_runs l V ad E fa tr at1 rr (nI rd) n pa dn wo dl hM) mX6_runs vX6_runs kX6_156 dX6_many_34 (by assumption) (by rfl) (by first | decide | omega) rfl (by decide) (by decide) rfl (Nat.le_of_ble_eq_true rfl) (fun r_34 E_34 h_34 => ?_)
      obtain ⟨rfl, rfl⟩ := h_34
      refine G_iret hk dX6_many_37 ?_
      exact ⟨by unfold vMany; (try first | rw [if_pos q1_0] | rw [if_neg q1_0]); (try first | rw [if_pos q1_1] | rw [if_neg q1_1]); (try rw [sRunsN_cw hag]), hR, frM.rf⟩
    · skip
      by_cases q1_2 : w = 2
      · skip
        refine G_tbl (off := 37) (tgt := 38) 2 hk dX6_many_1 (by rw [q1_2]; decide) (by decide) (by decide) (by rfl) (by decide) ?_
        refine G_aload_n (i := 0) hk dX6_many_38 rfl rfl ?_
        refine G_get hk fX6_80 dX6_many_39 (by assumption) (by rfl) (by first | decide | omega) ?_
        refine G_iret hk dX6_many_42 ?_
        exact ⟨by unfold vMany; (try first | rw [if_pos q1_0] | rw [if_neg q1_0]); (try first | rw [if_pos q1_1] | rw [if_neg q1_1]); (try first | rw [if_pos q1_2] | rw [if_neg q1_2]); (try rw [sRunsN_cw hag]), hR, frM.rf⟩
      · skip
        refine G_tableOut (tgt := 43) hk dX6_many_1 (by have a_0 := lv_neT (a := 0) q1_0 (by decide); have a_1 := lv_neT (a := 1) q1_1 (by decide); have a_2 := lv_neT (a := 2) q1_2 (by decide); omega) (by decide) ?_
        refine G_bipush (v := (-2)) hk dX6_many_43 (by decide) ?_
        refine G_iret hk dX6_many_45 ?_
        exact ⟨by unfold vMany; (try first | rw [if_pos q1_0] | rw [if_neg q1_0]); (try first | rw [if_pos q1_1] | rw [if_neg q1_1]); (try first | rw [if_pos q1_2] | rw [if_neg q1_2]); (try rw [sRunsN_cw hag]), hR, frM.rf⟩

set_option maxHeartbeats 4000000 in
set_option maxRecDepth 100000 in
theorem c_X6_whole (l : Launch) (V : gV) (ad : Nat → Nat) (E : Nat → va_E) (n rd : Nat) (R : Nat → Nat → Int32) (rp rw : Nat → Int32) (tr fa : Int32) (la : Nat → Int32) (sz : Nat → Nat) (cl : Nat → Nat → Int32) (hR : mR V ad E (n, R, rd, rp, rw, tr, fa, la, sz, cl)) (ho0 : sOk n R) (w : Int32) : Ct l V ad 44 44 yX6_whole cX6_whole 2 (some .int) { frames := 5, cells := 0, slots := 0, locals := 113 } [.ref (ad 34), .int w] E (pI ad (fun v E2 => v = vWhole n R w ∧ mR V ad E2 (n, R, rd, rp, rw, tr, fa, la, sz, cl) ∧ frM E E2)) := by
  refine gCt mX6_whole (Nat.le_of_ble_eq_true rfl) ?_
  intro K hk
  obtain ⟨at1, rr, dn, wo, so, sl, ce, pa, rz, dl, ke, p2, w2, hC, hrd8, hag, hrd, hso, hsl, hsz⟩ := id hR
  obtain ⟨m0, g35, g36, g37, g38, g39, g40, g41, g42, g43, m3⟩ := id hC
  have hM := hC.k
  have ho : ∀ i, i < n → rOk (pR pa i) := fun i hi => rOk_cw (hag i hi) (ho0 i hi)
  have hn0 : nI n = 0 ↔ n = 0 := neq (b := 0) (by omega) (by omega)
  refine G_iload_n (i := 1) hk dX6_whole_0 rfl rfl ?_
  refine G_iconst (v := 0) hk dX6_whole_1 (by decide) ?_
  refine G_iconst (v := 4) hk dX6_whole_2 (by decide) ?_
  refine G_cSi hk (c_X6_within l V ad E w 0 4) mX6_within sX6_within kX6_43 dX6_whole_3 rfl (by decide) (by decide) rfl (Nat.le_of_ble_eq_true rfl) (fun r_3 E_3 h_3 => ?_)
  obtain ⟨rfl, rfl⟩ := h_3
  refine G_if_ne (tgt := 12) hk dX6_whole_6 (by decide) (fun c_6 => ?_) (fun c_6 => ?_)
  · try simp only [gB_ne, gB_eq, Decidable.not_not] at c_6
    refine G_aload_n (i := 0) hk dX6_whole_12 rfl rfl ?_
    refine G_get hk fX6_47 dX6_whole_13 (by assumption) (by rfl) (by first | decide | omega) ?_
    refine G_if_ne (tgt := 22) hk dX6_whole_16 (by decide) (fun c_16 => ?_) (fun c_16 => ?_)
    · try simp only [gB_ne, gB_eq, Decidable.not_not] at c_16
      have hn : ¬ n = 0 := fun q => c_16 (hn0.mpr q)
      refine G_iload_n (i := 1) hk dX6_whole_22 rfl rfl ?_
      refine G_if_ne (tgt := 33) hk dX6_whole_23 (by decide) (fun c_23 => ?_) (fun c_23 => ?_)
      · try simp only [gB_ne, gB_eq, Decidable.not_not] at c_23
        refine G_iload_n (i := 1) hk dX6_whole_33 rfl rfl ?_
        refine G_iconst (v := 1) hk dX6_whole_34 (by decide) ?_
        refine G_icmp_ne (tgt := 45) hk dX6_whole_35 (by decide) (fun c_35 => ?_) (fun c_35 => ?_)
        · try simp only [gB_ne, gB_eq, Decidable.not_not] at c_35
          refine G_iload_n (i := 1) hk dX6_whole_45 rfl rfl ?_
          refine G_iconst (v := 2) hk dX6_whole_46 (by decide) ?_
          refine G_icmp_ne (tgt := 57) hk dX6_whole_47 (by decide) (fun c_47 => ?_) (fun c_47 => ?_)
          · try simp only [gB_ne, gB_eq, Decidable.not_not] at c_47
            refine G_iload_n (i := 1) hk dX6_whole_57 rfl rfl ?_
            refine G_iconst (v := 3) hk dX6_whole_58 (by decide) ?_
            refine G_icmp_ne (tgt := 69) hk dX6_whole_59 (by decide) (fun c_59 => ?_) (fun c_59 => ?_)
            · try simp only [gB_ne, gB_eq, Decidable.not_not] at c_59
              refine G_aload_n (i := 0) hk dX6_whole_69 rfl rfl ?_
              refine G_cVi hk (c_X6_worthInAll l V ad E fa tr at1 rr (nI rd) n pa dn wo dl hM ho) mX6_worthInAll vX6_worthInAll kX6_159 dX6_whole_70 (by assumption) (by rfl) (by first | decide | omega) rfl (by decide) (by decide) rfl (Nat.le_of_ble_eq_true rfl) (fun r_70 E_70 h_70 => ?_)
              obtain ⟨rfl, hX⟩ := h_70
              refine G_iret hk dX6_whole_73 ?_
              exact ⟨by unfold vWhole; rw [if_pos c_6, if_neg hn, if_neg c_23, if_neg c_35, if_neg c_47, if_neg c_59, sSum_cw hag], ⟨_, _, _, _, _, _, _, _, _, _, _, _, _, hC.ex hX.1 hX.2.choose_spec.choose_spec.choose_spec, hrd8, hag, hrd, hso, hsl, hsz⟩, frM.ex hX.1⟩
            · try simp only [gB_ne, gB_eq, Decidable.not_not] at c_59
              have c_59 : w = 3 := by first | exact c_59 | exact Decidable.not_not.mp c_59
              refine G_aload_n (i := 0) hk dX6_whole_62 rfl rfl ?_
              refine G_cVi hk (c_X6_manyDenied l V ad E fa tr at1 rr (nI rd) n pa dn wo dl hM ho) mX6_manyDenied vX6_manyDenied kX6_149 dX6_whole_63 (by assumption) (by rfl) (by first | decide | omega) rfl (by decide) (by decide) rfl (Nat.le_of_ble_eq_true rfl) (fun r_63 E_63 h_63 => ?_)
              obtain ⟨rfl, hX⟩ := h_63
              refine G_goto (tgt := 73) hk dX6_whole_66 (by decide) ?_
              refine G_iret hk dX6_whole_73 ?_
              exact ⟨by unfold vWhole; rw [if_pos c_6, if_neg hn, if_neg c_23, if_neg c_35, if_neg c_47, if_pos c_59, sCw_cw hag], ⟨_, _, _, _, _, _, _, _, _, _, _, _, _, hC.ex hX.1 hX.2.choose_spec.choose_spec.choose_spec, hrd8, hag, hrd, hso, hsl, hsz⟩, frM.ex hX.1⟩
          · try simp only [gB_ne, gB_eq, Decidable.not_not] at c_47
            have c_47 : w = 2 := by first | exact c_47 | exact Decidable.not_not.mp c_47
            refine G_aload_n (i := 0) hk dX6_whole_50 rfl rfl ?_
            refine G_cVi hk (c_X6_needed l V ad E fa tr at1 rr (nI rd) n pa dn wo dl hM ho) mX6_needed vX6_needed kX6_162 dX6_whole_51 (by assumption) (by rfl) (by first | decide | omega) rfl (by decide) (by decide) rfl (Nat.le_of_ble_eq_true rfl) (fun r_51 E_51 h_51 => ?_)
            obtain ⟨rfl, hX⟩ := h_51
            refine G_goto (tgt := 73) hk dX6_whole_54 (by decide) ?_
            refine G_iret hk dX6_whole_73 ?_
            exact ⟨by unfold vWhole; rw [if_pos c_6, if_neg hn, if_neg c_23, if_neg c_35, if_pos c_47, sNeeds_cw hag], ⟨_, _, _, _, _, _, _, _, _, _, _, _, _, hC.ex hX.1 hX.2.choose_spec.choose_spec.choose_spec, hrd8, hag, hrd, hso, hsl, hsz⟩, frM.ex hX.1⟩
        · try simp only [gB_ne, gB_eq, Decidable.not_not] at c_35
          have c_35 : w = 1 := by first | exact c_35 | exact Decidable.not_not.mp c_35
          refine G_aload_n (i := 0) hk dX6_whole_38 rfl rfl ?_
          refine G_cVi hk (c_X6_shadowed l V ad E fa tr at1 rr (nI rd) n pa dn wo dl hM) mX6_shadowed vX6_shadowed kX6_153 dX6_whole_39 (by assumption) (by rfl) (by first | decide | omega) rfl (by decide) (by decide) rfl (Nat.le_of_ble_eq_true rfl) (fun r_39 E_39 h_39 => ?_)
          obtain ⟨rfl, rfl⟩ := h_39
          refine G_goto (tgt := 73) hk dX6_whole_42 (by decide) ?_
          refine G_iret hk dX6_whole_73 ?_
          exact ⟨by unfold vWhole; rw [if_pos c_6, if_neg hn, if_neg c_23, if_pos c_35, sShad_cw hag], hR, frM.rf⟩
      · try simp only [gB_ne, gB_eq, Decidable.not_not] at c_23
        have c_23 : w = 0 := by first | exact c_23 | exact Decidable.not_not.mp c_23
        refine G_aload_n (i := 0) hk dX6_whole_26 rfl rfl ?_
        refine G_cVi hk (c_X6_runs l V ad E fa tr at1 rr (nI rd) n pa dn wo dl hM) mX6_runs vX6_runs kX6_156 dX6_whole_27 (by assumption) (by rfl) (by first | decide | omega) rfl (by decide) (by decide) rfl (Nat.le_of_ble_eq_true rfl) (fun r_27 E_27 h_27 => ?_)
        obtain ⟨rfl, rfl⟩ := h_27
        refine G_goto (tgt := 73) hk dX6_whole_30 (by decide) ?_
        refine G_iret hk dX6_whole_73 ?_
        exact ⟨by unfold vWhole; rw [if_pos c_6, if_neg hn, if_pos c_23, ← sRuns_cw hag]; unfold sRunsN; rw [if_neg hn], hR, frM.rf⟩
    · try simp only [gB_ne, gB_eq, Decidable.not_not] at c_16
      have hn : n = 0 := hn0.mp (by first | exact c_16 | exact Decidable.not_not.mp c_16)
      refine G_bipush (v := (-3)) hk dX6_whole_19 (by decide) ?_
      refine G_iret hk dX6_whole_21 ?_
      exact ⟨by unfold vWhole; rw [if_pos c_6, if_pos hn], hR, frM.rf⟩
  · try simp only [gB_ne, gB_eq, Decidable.not_not] at c_6
    refine G_bipush (v := (-2)) hk dX6_whole_9 (by decide) ?_
    refine G_iret hk dX6_whole_11 ?_
    exact ⟨by unfold vWhole; rw [if_neg c_6], hR, frM.rf⟩

set_option maxHeartbeats 4000000 in
set_option maxRecDepth 100000 in
theorem c_X6_ask (l : Launch) (V : gV) (ad : Nat → Nat) (E : Nat → va_E) (n rd : Nat) (R : Nat → Nat → Int32) (rp rw : Nat → Int32) (tr fa : Int32) (la : Nat → Int32) (sz : Nat → Nat) (cl : Nat → Nat → Int32) (hR : mR V ad E (n, R, rd, rp, rw, tr, fa, la, sz, cl)) (ho0 : sOk n R) (x w : Int32) : Ct l V ad 44 44 yX6_ask cX6_ask 3 (some .int) { frames := 3, cells := 0, slots := 0, locals := 70 } [.ref (ad 34), .int x, .int w] E (pI ad (fun v E2 => v = vAsk n R x w ∧ mR V ad E2 (n, R, rd, rp, rw, tr, fa, la, sz, cl) ∧ frM E E2)) := by
  refine gCt mX6_ask (Nat.le_of_ble_eq_true rfl) ?_
  intro K hk
  obtain ⟨at1, rr, dn, wo, so, sl, ce, pa, rz, dl, ke, p2, w2, hC, hrd8, hag, hrd, hso, hsl, hsz⟩ := id hR
  obtain ⟨m0, g35, g36, g37, g38, g39, g40, g41, g42, g43, m3⟩ := id hC
  have hM := hC.k
  have ho : ∀ i, i < n → rOk (pR pa i) := fun i hi => rOk_cw (hag i hi) (ho0 i hi)
  have hn0 : nI n = 0 ↔ n = 0 := neq (b := 0) (by omega) (by omega)
  refine G_iload_n (i := 1) hk dX6_ask_0 rfl rfl ?_
  refine G_cSi hk (c_X6_isPoint l V ad E x) mX6_isPoint sX6_isPoint kX6_122 dX6_ask_1 rfl (by decide) (by decide) rfl (Nat.le_of_ble_eq_true rfl) (fun r_1 E_1 h_1 => ?_)
  obtain ⟨rfl, rfl⟩ := h_1
  refine G_if_eq (tgt := 27) hk dX6_ask_4 (by decide) (fun c_4 => ?_) (fun c_4 => ?_)
  · try simp only [gB_ne, gB_eq, Decidable.not_not] at c_4
    refine G_bipush (v := (-2)) hk dX6_ask_27 (by decide) ?_
    refine G_iret hk dX6_ask_29 ?_
    exact ⟨by unfold vAsk; rw [if_neg c_4], hR, frM.rf⟩
  · try simp only [gB_ne, gB_eq, Decidable.not_not] at c_4
    refine G_iload_n (i := 2) hk dX6_ask_7 rfl rfl ?_
    refine G_iconst (v := 0) hk dX6_ask_8 (by decide) ?_
    refine G_iconst (v := 1) hk dX6_ask_9 (by decide) ?_
    refine G_cSi hk (c_X6_within l V ad E w 0 1) mX6_within sX6_within kX6_43 dX6_ask_10 rfl (by decide) (by decide) rfl (Nat.le_of_ble_eq_true rfl) (fun r_10 E_10 h_10 => ?_)
    obtain ⟨rfl, rfl⟩ := h_10
    refine G_if_ne (tgt := 30) hk dX6_ask_13 (by decide) (fun c_13 => ?_) (fun c_13 => ?_)
    · try simp only [gB_ne, gB_eq, Decidable.not_not] at c_13
      have hw : (0 ≤ w ∧ w ≤ 1) ∨ (10 ≤ w ∧ w ≤ 17) := Or.inl c_13
      refine G_aload_n (i := 0) hk dX6_ask_30 rfl rfl ?_
      refine G_get hk fX6_47 dX6_ask_31 (by assumption) (by rfl) (by first | decide | omega) ?_
      refine G_if_ne (tgt := 40) hk dX6_ask_34 (by decide) (fun c_34 => ?_) (fun c_34 => ?_)
      · try simp only [gB_ne, gB_eq, Decidable.not_not] at c_34
        have hn : ¬ n = 0 := fun q => c_34 (hn0.mpr q)
        refine G_aload_n (i := 0) hk dX6_ask_40 rfl rfl ?_
        refine G_iload_n (i := 1) hk dX6_ask_41 rfl rfl ?_
        refine G_bipush (v := (-9)) hk dX6_ask_42 (by decide) ?_
        refine G_cVv hk (c_X6_asks l V ad E fa tr at1 rr (nI rd) n pa dn wo dl hM ho 99 (-9) hw99' x) mX6_asks vX6_asks kX6_132 dX6_ask_44 (by assumption) (by rfl) (by first | decide | omega) rfl (by decide) (by decide) rfl (Nat.le_of_ble_eq_true rfl) (fun E_44 h_44 => ?_)
        have hX := h_44.x
        obtain ⟨-, dl3, hM3, hd3⟩ := h_44
        have hF : sAn (pR pa) 99 n 0 x = sAn R 99 n 0 x := sAn_cw hag (Nat.zero_le n)
        rw [hF] at hM3 hd3
        have hlen : (sAn R 99 n 0 x).2.length ≤ 8 := Nat.le_trans sAn_len (by omega)
        obtain ⟨q0, q1, q2, q3⟩ := id hM3
        refine G_iload_n (i := 2) hk dX6_ask_47 rfl rfl ?_
        refine G_bipush (v := 10) hk dX6_ask_48 (by decide) ?_
        refine G_icmp_lt (tgt := 79) hk dX6_ask_50 (by decide) (fun c_50 => ?_) (fun c_50 => ?_)
        · try simp only [gB_ne, gB_eq, Decidable.not_not] at c_50
          have hw01 : 0 ≤ w ∧ w ≤ 1 := hw.elim id (fun q => absurd q.1 (Int32.not_le.mpr c_50))
          refine G_iload_n (i := 2) hk dX6_ask_79 rfl rfl ?_
          refine G_if_ne (tgt := 90) hk dX6_ask_80 (by decide) (fun c_80 => ?_) (fun c_80 => ?_)
          · try simp only [gB_ne, gB_eq, Decidable.not_not] at c_80
            have w1 : w = 1 := by
              have a := hw01.1
              have b := hw01.2
              have c := c_80
              (simp only [fa_lt, fa_le, fa_eq, iT_0, iT_1, iTm1, iTm2, iTm3, iTm4, iTm9] at *; omega)
            refine G_aload_n (i := 0) hk dX6_ask_90 rfl rfl ?_
            refine G_get hk fX6_97 dX6_ask_91 (by assumption) (by rfl) (by first | decide | omega) ?_
            refine G_iret hk dX6_ask_94 ?_
            exact ⟨by unfold vAsk; rw [if_pos c_4, if_pos hw, if_neg hn, if_neg c_80, if_pos w1], ⟨_, _, _, _, _, _, _, _, _, _, _, _, _, hC.ex hX.1 hX.2.choose_spec.choose_spec.choose_spec, hrd8, hag, hrd, hso, hsl, hsz⟩, frM.ex hX.1⟩
          · try simp only [gB_ne, gB_eq, Decidable.not_not] at c_80
            have c_80 : w = 0 := by first | exact c_80 | exact Decidable.not_not.mp c_80
            refine G_aload_n (i := 0) hk dX6_ask_83 rfl rfl ?_
            refine G_get hk fX6_100 dX6_ask_84 (by assumption) (by rfl) (by first | decide | omega) ?_
            refine G_goto (tgt := 94) hk dX6_ask_87 (by decide) ?_
            refine G_iret hk dX6_ask_94 ?_
            exact ⟨by unfold vAsk; rw [if_pos c_4, if_pos hw, if_neg hn, if_pos c_80], ⟨_, _, _, _, _, _, _, _, _, _, _, _, _, hC.ex hX.1 hX.2.choose_spec.choose_spec.choose_spec, hrd8, hag, hrd, hso, hsl, hsz⟩, frM.ex hX.1⟩
        · try simp only [gB_ne, gB_eq, Decidable.not_not] at c_50
          have hw10 : 10 ≤ w := Int32.not_lt.mp c_50
          have hw2 : 10 ≤ w ∧ w ≤ 17 := hw.elim (fun q => by exfalso; have a := q.2; have b := hw10; (simp only [fa_lt, fa_le, fa_eq, iT_1, iT_10, iTm1, iTm2, iTm3, iTm4, iTm9] at *; omega)) id
          have hw0 : ¬ w = 0 := fun q => absurd hw10 (by rw [q]; decide)
          have hw1 : ¬ w = 1 := fun q => absurd hw10 (by rw [q]; decide)
          obtain ⟨t, ht, e⟩ : ∃ t : Nat, t ≤ 7 ∧ w - 10 = nI t := by
            have a : (w - 10).toInt = w.toInt - 10 := by
              have a1 := (fa_le _ _).mp hw2.1
              have a2 := (fa_le _ _).mp hw2.2
              rw [iT_10] at a1
              rw [show (17 : Int32).toInt = 17 by decide] at a2
              have := Int32.toInt_sub w 10
              rw [iT_10] at this
              rw [this]
              exact i32_bmod (by omega) (by omega)
            refine gIe (n := 7) ?_ ?_ (by omega)
            · rw [fa_le, a, iT_0]
              have a1 := (fa_le _ _).mp hw2.1
              rw [iT_10] at a1
              omega
            · rw [fa_le, a, show (nI 7).toInt = 7 by decide]
              have a2 := (fa_le _ _).mp hw2.2
              rw [show (17 : Int32).toInt = 17 by decide] at a2
              omega
          refine G_iload_n (i := 2) hk dX6_ask_53 rfl rfl ?_
          refine G_bipush (v := 10) hk dX6_ask_54 (by decide) ?_
          refine G_isub hk dX6_ask_56 ?_
          rw [e]
          refine G_aload_n (i := 0) hk dX6_ask_57 rfl rfl ?_
          refine G_get hk fX6_97 dX6_ask_58 (by assumption) (by rfl) (by first | decide | omega) ?_
          refine G_icmp_ge (tgt := 76) hk dX6_ask_61 (by decide) (fun c_61 => ?_) (fun c_61 => ?_)
          · try simp only [gB_ne, gB_eq, Decidable.not_not] at c_61
            have hge := (nle (by omega) (by omega)).mp c_61
            refine G_bipush (v := (-9)) hk dX6_ask_76 (by decide) ?_
            refine G_iret hk dX6_ask_78 ?_
            exact ⟨by unfold vAsk; rw [if_pos c_4, if_pos hw, if_neg hn, if_neg hw0, if_neg hw1, e, ix_nI (by omega), getD_ge (by omega)], ⟨_, _, _, _, _, _, _, _, _, _, _, _, _, hC.ex hX.1 hX.2.choose_spec.choose_spec.choose_spec, hrd8, hag, hrd, hso, hsl, hsz⟩, frM.ex hX.1⟩
          · try simp only [gB_ne, gB_eq, Decidable.not_not] at c_61
            have hlt : t < (sAn R 99 n 0 x).2.length := Nat.lt_of_not_le (fun q => c_61 ((nle (by omega) (by omega)).mpr q))
            refine G_aload_n (i := 0) hk dX6_ask_64 rfl rfl ?_
            refine G_get hk fX6_25 dX6_ask_65 (by assumption) (by rfl) (by first | decide | omega) ?_
            refine G_iload_n (i := 2) hk dX6_ask_68 rfl rfl ?_
            refine G_bipush (v := 10) hk dX6_ask_69 (by decide) ?_
            refine G_isub hk dX6_ask_71 ?_
            rw [e]
            refine G_ialdX (j := t) hk dX6_ask_72 q2 rfl (by omega) (by decide) (by first | decide | omega) ?_
            refine G_goto (tgt := 78) hk dX6_ask_73 (by decide) ?_
            refine G_iret hk dX6_ask_78 ?_
            exact ⟨by unfold vAsk; rw [if_pos c_4, if_pos hw, if_neg hn, if_neg hw0, if_neg hw1, e, ix_nI (by omega), hd3 t hlt, getD_lt hlt], ⟨_, _, _, _, _, _, _, _, _, _, _, _, _, hC.ex hX.1 hX.2.choose_spec.choose_spec.choose_spec, hrd8, hag, hrd, hso, hsl, hsz⟩, frM.ex hX.1⟩
      · try simp only [gB_ne, gB_eq, Decidable.not_not] at c_34
        have hn : n = 0 := hn0.mp (by first | exact c_34 | exact Decidable.not_not.mp c_34)
        refine G_bipush (v := (-3)) hk dX6_ask_37 (by decide) ?_
        refine G_iret hk dX6_ask_39 ?_
        exact ⟨by unfold vAsk; rw [if_pos c_4, if_pos hw, if_pos hn], hR, frM.rf⟩
    · try simp only [gB_ne, gB_eq, Decidable.not_not] at c_13
      refine G_iload_n (i := 2) hk dX6_ask_16 rfl rfl ?_
      refine G_bipush (v := 10) hk dX6_ask_17 (by decide) ?_
      refine G_bipush (v := 17) hk dX6_ask_19 (by decide) ?_
      refine G_cSi hk (c_X6_within l V ad E w 10 17) mX6_within sX6_within kX6_43 dX6_ask_21 rfl (by decide) (by decide) rfl (Nat.le_of_ble_eq_true rfl) (fun r_21 E_21 h_21 => ?_)
      obtain ⟨rfl, rfl⟩ := h_21
      refine G_if_ne (tgt := 30) hk dX6_ask_24 (by decide) (fun c_24 => ?_) (fun c_24 => ?_)
      · try simp only [gB_ne, gB_eq, Decidable.not_not] at c_24
        have hw : (0 ≤ w ∧ w ≤ 1) ∨ (10 ≤ w ∧ w ≤ 17) := Or.inr c_24
        refine G_aload_n (i := 0) hk dX6_ask_30 rfl rfl ?_
        refine G_get hk fX6_47 dX6_ask_31 (by assumption) (by rfl) (by first | decide | omega) ?_
        refine G_if_ne (tgt := 40) hk dX6_ask_34 (by decide) (fun c_34 => ?_) (fun c_34 => ?_)
        · try simp only [gB_ne, gB_eq, Decidable.not_not] at c_34
          have hn : ¬ n = 0 := fun q => c_34 (hn0.mpr q)
          refine G_aload_n (i := 0) hk dX6_ask_40 rfl rfl ?_
          refine G_iload_n (i := 1) hk dX6_ask_41 rfl rfl ?_
          refine G_bipush (v := (-9)) hk dX6_ask_42 (by decide) ?_
          refine G_cVv hk (c_X6_asks l V ad E fa tr at1 rr (nI rd) n pa dn wo dl hM ho 99 (-9) hw99' x) mX6_asks vX6_asks kX6_132 dX6_ask_44 (by assumption) (by rfl) (by first | decide | omega) rfl (by decide) (by decide) rfl (Nat.le_of_ble_eq_true rfl) (fun E_44 h_44 => ?_)
          have hX := h_44.x
          obtain ⟨-, dl3, hM3, hd3⟩ := h_44
          have hF : sAn (pR pa) 99 n 0 x = sAn R 99 n 0 x := sAn_cw hag (Nat.zero_le n)
          rw [hF] at hM3 hd3
          have hlen : (sAn R 99 n 0 x).2.length ≤ 8 := Nat.le_trans sAn_len (by omega)
          obtain ⟨q0, q1, q2, q3⟩ := id hM3
          refine G_iload_n (i := 2) hk dX6_ask_47 rfl rfl ?_
          refine G_bipush (v := 10) hk dX6_ask_48 (by decide) ?_
          refine G_icmp_lt (tgt := 79) hk dX6_ask_50 (by decide) (fun c_50 => ?_) (fun c_50 => ?_)
          · try simp only [gB_ne, gB_eq, Decidable.not_not] at c_50
            have hw01 : 0 ≤ w ∧ w ≤ 1 := hw.elim id (fun q => absurd q.1 (Int32.not_le.mpr c_50))
            refine G_iload_n (i := 2) hk dX6_ask_79 rfl rfl ?_
            refine G_if_ne (tgt := 90) hk dX6_ask_80 (by decide) (fun c_80 => ?_) (fun c_80 => ?_)
            · try simp only [gB_ne, gB_eq, Decidable.not_not] at c_80
              have w1 : w = 1 := by
                have a := hw01.1
                have b := hw01.2
                have c := c_80
                (simp only [fa_lt, fa_le, fa_eq, iT_0, iT_1, iTm1, iTm2, iTm3, iTm4, iTm9] at *; omega)
              refine G_aload_n (i := 0) hk dX6_ask_90 rfl rfl ?_
              refine G_get hk fX6_97 dX6_ask_91 (by assumption) (by rfl) (by first | decide | omega) ?_
              refine G_iret hk dX6_ask_94 ?_
              exact ⟨by unfold vAsk; rw [if_pos c_4, if_pos hw, if_neg hn, if_neg c_80, if_pos w1], ⟨_, _, _, _, _, _, _, _, _, _, _, _, _, hC.ex hX.1 hX.2.choose_spec.choose_spec.choose_spec, hrd8, hag, hrd, hso, hsl, hsz⟩, frM.ex hX.1⟩
            · try simp only [gB_ne, gB_eq, Decidable.not_not] at c_80
              have c_80 : w = 0 := by first | exact c_80 | exact Decidable.not_not.mp c_80
              refine G_aload_n (i := 0) hk dX6_ask_83 rfl rfl ?_
              refine G_get hk fX6_100 dX6_ask_84 (by assumption) (by rfl) (by first | decide | omega) ?_
              refine G_goto (tgt := 94) hk dX6_ask_87 (by decide) ?_
              refine G_iret hk dX6_ask_94 ?_
              exact ⟨by unfold vAsk; rw [if_pos c_4, if_pos hw, if_neg hn, if_pos c_80], ⟨_, _, _, _, _, _, _, _, _, _, _, _, _, hC.ex hX.1 hX.2.choose_spec.choose_spec.choose_spec, hrd8, hag, hrd, hso, hsl, hsz⟩, frM.ex hX.1⟩
          · try simp only [gB_ne, gB_eq, Decidable.not_not] at c_50
            have hw10 : 10 ≤ w := Int32.not_lt.mp c_50
            have hw2 : 10 ≤ w ∧ w ≤ 17 := hw.elim (fun q => by exfalso; have a := q.2; have b := hw10; (simp only [fa_lt, fa_le, fa_eq, iT_1, iT_10, iTm1, iTm2, iTm3, iTm4, iTm9] at *; omega)) id
            have hw0 : ¬ w = 0 := fun q => absurd hw10 (by rw [q]; decide)
            have hw1 : ¬ w = 1 := fun q => absurd hw10 (by rw [q]; decide)
            obtain ⟨t, ht, e⟩ : ∃ t : Nat, t ≤ 7 ∧ w - 10 = nI t := by
              have a : (w - 10).toInt = w.toInt - 10 := by
                have a1 := (fa_le _ _).mp hw2.1
                have a2 := (fa_le _ _).mp hw2.2
                rw [iT_10] at a1
                rw [show (17 : Int32).toInt = 17 by decide] at a2
                have := Int32.toInt_sub w 10
                rw [iT_10] at this
                rw [this]
                exact i32_bmod (by omega) (by omega)
              refine gIe (n := 7) ?_ ?_ (by omega)
              · rw [fa_le, a, iT_0]
                have a1 := (fa_le _ _).mp hw2.1
                rw [iT_10] at a1
                omega
              · rw [fa_le, a, show (nI 7).toInt = 7 by decide]
                have a2 := (fa_le _ _).mp hw2.2
                rw [show (17 : Int32).toInt = 17 by decide] at a2
                omega
            refine G_iload_n (i := 2) hk dX6_ask_53 rfl rfl ?_
            refine G_bipush (v := 10) hk dX6_ask_54 (by decide) ?_
            refine G_isub hk dX6_ask_56 ?_
            rw [e]
            refine G_aload_n (i := 0) hk dX6_ask_57 rfl rfl ?_
            refine G_get hk fX6_97 dX6_ask_58 (by assumption) (by rfl) (by first | decide | omega) ?_
            refine G_icmp_ge (tgt := 76) hk dX6_ask_61 (by decide) (fun c_61 => ?_) (fun c_61 => ?_)
            · try simp only [gB_ne, gB_eq, Decidable.not_not] at c_61
              have hge := (nle (by omega) (by omega)).mp c_61
              refine G_bipush (v := (-9)) hk dX6_ask_76 (by decide) ?_
              refine G_iret hk dX6_ask_78 ?_
              exact ⟨by unfold vAsk; rw [if_pos c_4, if_pos hw, if_neg hn, if_neg hw0, if_neg hw1, e, ix_nI (by omega), getD_ge (by omega)], ⟨_, _, _, _, _, _, _, _, _, _, _, _, _, hC.ex hX.1 hX.2.choose_spec.choose_spec.choose_spec, hrd8, hag, hrd, hso, hsl, hsz⟩, frM.ex hX.1⟩
            · try simp only [gB_ne, gB_eq, Decidable.not_not] at c_61
              have hlt : t < (sAn R 99 n 0 x).2.length := Nat.lt_of_not_le (fun q => c_61 ((nle (by omega) (by omega)).mpr q))
              refine G_aload_n (i := 0) hk dX6_ask_64 rfl rfl ?_
              refine G_get hk fX6_25 dX6_ask_65 (by assumption) (by rfl) (by first | decide | omega) ?_
              refine G_iload_n (i := 2) hk dX6_ask_68 rfl rfl ?_
              refine G_bipush (v := 10) hk dX6_ask_69 (by decide) ?_
              refine G_isub hk dX6_ask_71 ?_
              rw [e]
              refine G_ialdX (j := t) hk dX6_ask_72 q2 rfl (by omega) (by decide) (by first | decide | omega) ?_
              refine G_goto (tgt := 78) hk dX6_ask_73 (by decide) ?_
              refine G_iret hk dX6_ask_78 ?_
              exact ⟨by unfold vAsk; rw [if_pos c_4, if_pos hw, if_neg hn, if_neg hw0, if_neg hw1, e, ix_nI (by omega), hd3 t hlt, getD_lt hlt], ⟨_, _, _, _, _, _, _, _, _, _, _, _, _, hC.ex hX.1 hX.2.choose_spec.choose_spec.choose_spec, hrd8, hag, hrd, hso, hsl, hsz⟩, frM.ex hX.1⟩
        · try simp only [gB_ne, gB_eq, Decidable.not_not] at c_34
          have hn : n = 0 := hn0.mp (by first | exact c_34 | exact Decidable.not_not.mp c_34)
          refine G_bipush (v := (-3)) hk dX6_ask_37 (by decide) ?_
          refine G_iret hk dX6_ask_39 ?_
          exact ⟨by unfold vAsk; rw [if_pos c_4, if_pos hw, if_pos hn], hR, frM.rf⟩
      · try simp only [gB_ne, gB_eq, Decidable.not_not] at c_24
        have hw : ¬ ((0 ≤ w ∧ w ≤ 1) ∨ (10 ≤ w ∧ w ≤ 17)) := fun q => q.elim c_13 c_24
        refine G_bipush (v := (-2)) hk dX6_ask_27 (by decide) ?_
        refine G_iret hk dX6_ask_29 ?_
        exact ⟨by unfold vAsk; rw [if_pos c_4, if_neg hw], hR, frM.rf⟩
