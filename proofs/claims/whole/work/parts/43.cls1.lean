set_option maxHeartbeats 4000000 in
set_option maxRecDepth 100000 in
theorem c_X5_isPoint (l : Launch) (V : gV) (ad : Nat → Nat) (E : Nat → va_E) (v : Int32) : Ct l V ad 44 44 yX5_isPoint cX5_isPoint 1 (some .boolean) { frames := 1, cells := 0, slots := 0, locals := 22 } [.int v] E (pI ad (pS E (gB (0 ≤ v ∧ v ≤ 25)))) := by
  refine gCt mX5_isPoint (Nat.le_of_ble_eq_true rfl) ?_
  intro K hk
  refine G_iload_n (i := 0) hk dX5_isPoint_0 rfl rfl ?_
  refine G_iconst (v := 0) hk dX5_isPoint_1 (by decide) ?_
  refine G_bipush (v := 25) hk dX5_isPoint_2 (by decide) ?_
  refine G_cSi hk (c_X5_isIn l V ad E v 0 25) mX5_isIn sX5_isIn kX5_43 dX5_isPoint_4 rfl (by decide) (by decide) rfl (Nat.le_of_ble_eq_true rfl) (fun r_4 E_4 h_4 => ?_)
  obtain ⟨rfl, rfl⟩ := h_4
  refine G_zret hk dX5_isPoint_7 (by first | rfl | exact gB_nar _) ?_
  exact ⟨rfl, rfl⟩

set_option maxHeartbeats 4000000 in
set_option maxRecDepth 100000 in
theorem c_X5_isSheet (l : Launch) (V : gV) (ad : Nat → Nat) (E : Nat → va_E) (v : Int32) : Ct l V ad 44 44 yX5_isSheet cX5_isSheet 1 (some .boolean) { frames := 1, cells := 0, slots := 0, locals := 22 } [.int v] E (pI ad (pS E (gB (0 ≤ v ∧ v ≤ 3)))) := by
  refine gCt mX5_isSheet (Nat.le_of_ble_eq_true rfl) ?_
  intro K hk
  refine G_iload_n (i := 0) hk dX5_isSheet_0 rfl rfl ?_
  refine G_iconst (v := 0) hk dX5_isSheet_1 (by decide) ?_
  refine G_iconst (v := 3) hk dX5_isSheet_2 (by decide) ?_
  refine G_cSi hk (c_X5_isIn l V ad E v 0 3) mX5_isIn sX5_isIn kX5_43 dX5_isSheet_3 rfl (by decide) (by decide) rfl (Nat.le_of_ble_eq_true rfl) (fun r_3 E_3 h_3 => ?_)
  obtain ⟨rfl, rfl⟩ := h_3
  refine G_zret hk dX5_isSheet_6 (by first | rfl | exact gB_nar _) ?_
  exact ⟨rfl, rfl⟩

set_option maxHeartbeats 4000000 in
set_option maxRecDepth 100000 in
theorem c_X5_faulted (l : Launch) (V : gV) (ad : Nat → Nat) (E : Nat → va_E) (n rd : Nat) (R : Nat → Nat → Int32) (rp rw : Nat → Int32) (tr fa : Int32) (la : Nat → Int32) (sz : Nat → Nat) (cl : Nat → Nat → Int32) (hC : cR V ad E (n, R, rd, rp, rw, tr, fa, la, sz, cl)) (w : Int32) : Ct l V ad 44 44 yX5_faulted cX5_faulted 2 (some .int) { frames := 0, cells := 0, slots := 0, locals := 0 } [.ref (ad 0), .int w] E (pI ad (fun v E2 => v = -10 - w ∧ cR V ad E2 (n, R, rd, rp, rw, tr, w, la, sz, cl) ∧ fr E E2)) := by
  refine gCt mX5_faulted (Nat.le_of_ble_eq_true rfl) ?_
  intro K hk
  obtain ⟨h0, ⟨π, hB⟩, ⟨dn, wo, dl, hA⟩, ⟨n2, π2, R2, hB2⟩, ⟨dn2, wo2, dl2, hA2⟩, h3, h4, h5, h6, h7⟩ := id hC
  obtain ⟨b0, b1, b2, b3, b4, b5, -⟩ := id hB
  obtain ⟨a0, a1⟩ := id hA
  have hn0 : nI n = 0 ↔ n = 0 := neq (b := 0) (by omega) (by omega)
  refine G_aload_n (i := 0) hk dX5_faulted_0 rfl rfl ?_
  refine G_iload_n (i := 1) hk dX5_faulted_1 rfl rfl ?_
  refine G_put hk fX5_35 iX5_7 dX5_faulted_2 (by assumption) (Nat.le_of_ble_eq_true rfl) (by first | decide | omega) ?_
  refine G_bipush (v := (-10)) hk dX5_faulted_5 (by decide) ?_
  refine G_iload_n (i := 1) hk dX5_faulted_7 rfl rfl ?_
  refine G_isub hk dX5_faulted_8 ?_
  refine G_iret hk dX5_faulted_9 ?_
  exact ⟨rfl, hC.sc h7, fr.up (by omega)⟩

set_option maxHeartbeats 4000000 in
set_option maxRecDepth 100000 in
theorem c_X5_leave (l : Launch) (V : gV) (ad : Nat → Nat) (E : Nat → va_E) (n rd : Nat) (R : Nat → Nat → Int32) (rp rw : Nat → Int32) (tr fa : Int32) (la : Nat → Int32) (sz : Nat → Nat) (cl : Nat → Nat → Int32) (hC : cR V ad E (n, R, rd, rp, rw, tr, fa, la, sz, cl)) (w : Int32) : Ct l V ad 44 44 yX5_leave cX5_leave 2 none { frames := 0, cells := 0, slots := 0, locals := 0 } [.ref (ad 0), .int w] E (pV ad (fun E2 => cR V ad E2 (n, R, rd, rp, rw, 31 * tr + w, fa, la, sz, cl) ∧ fr E E2)) := by
  refine gCt mX5_leave (Nat.le_of_ble_eq_true rfl) ?_
  intro K hk
  obtain ⟨h0, ⟨π, hB⟩, ⟨dn, wo, dl, hA⟩, ⟨n2, π2, R2, hB2⟩, ⟨dn2, wo2, dl2, hA2⟩, h3, h4, h5, h6, h7⟩ := id hC
  obtain ⟨b0, b1, b2, b3, b4, b5, -⟩ := id hB
  obtain ⟨a0, a1⟩ := id hA
  have hn0 : nI n = 0 ↔ n = 0 := neq (b := 0) (by omega) (by omega)
  refine G_aload_n (i := 0) hk dX5_leave_0 rfl rfl ?_
  refine G_bipush (v := 31) hk dX5_leave_1 (by decide) ?_
  refine G_aload_n (i := 0) hk dX5_leave_3 rfl rfl ?_
  refine G_get hk fX5_239 dX5_leave_4 (by assumption) (by rfl) (by first | decide | omega) ?_
  refine G_imul hk dX5_leave_7 ?_
  refine G_iload_n (i := 1) hk dX5_leave_8 rfl rfl ?_
  refine G_iadd hk dX5_leave_9 ?_
  refine G_put hk fX5_239 iX5_6 dX5_leave_10 (by assumption) (Nat.le_of_ble_eq_true rfl) (by first | decide | omega) ?_
  refine G_vret hk dX5_leave_13 ?_
  exact ⟨hC.sc h7, fr.up (by omega)⟩

set_option maxHeartbeats 4000000 in
set_option maxRecDepth 100000 in
theorem c_X5_trace (l : Launch) (V : gV) (ad : Nat → Nat) (E : Nat → va_E) (n rd : Nat) (R : Nat → Nat → Int32) (rp rw : Nat → Int32) (tr fa : Int32) (la : Nat → Int32) (sz : Nat → Nat) (cl : Nat → Nat → Int32) (hC : cR V ad E (n, R, rd, rp, rw, tr, fa, la, sz, cl)) : Ct l V ad 44 44 yX5_trace cX5_trace 1 (some .int) { frames := 0, cells := 0, slots := 0, locals := 0 } [.ref (ad 0)] E (pI ad (fun v E2 => v = tr ∧ cR V ad E2 (n, R, rd, rp, rw, tr, fa, la, sz, cl) ∧ fr E E2)) := by
  refine gCt mX5_trace (Nat.le_of_ble_eq_true rfl) ?_
  intro K hk
  obtain ⟨h0, ⟨π, hB⟩, ⟨dn, wo, dl, hA⟩, ⟨n2, π2, R2, hB2⟩, ⟨dn2, wo2, dl2, hA2⟩, h3, h4, h5, h6, h7⟩ := id hC
  obtain ⟨b0, b1, b2, b3, b4, b5, -⟩ := id hB
  obtain ⟨a0, a1⟩ := id hA
  have hn0 : nI n = 0 ↔ n = 0 := neq (b := 0) (by omega) (by omega)
  refine G_aload_n (i := 0) hk dX5_trace_0 rfl rfl ?_
  refine G_get hk fX5_239 dX5_trace_1 (by assumption) (by rfl) (by first | decide | omega) ?_
  refine G_iret hk dX5_trace_4 ?_
  exact ⟨rfl, hC, fr.rf⟩

set_option maxHeartbeats 4000000 in
set_option maxRecDepth 100000 in
theorem c_X5_fault (l : Launch) (V : gV) (ad : Nat → Nat) (E : Nat → va_E) (n rd : Nat) (R : Nat → Nat → Int32) (rp rw : Nat → Int32) (tr fa : Int32) (la : Nat → Int32) (sz : Nat → Nat) (cl : Nat → Nat → Int32) (hC : cR V ad E (n, R, rd, rp, rw, tr, fa, la, sz, cl)) : Ct l V ad 44 44 yX5_fault cX5_fault 1 (some .int) { frames := 0, cells := 0, slots := 0, locals := 0 } [.ref (ad 0)] E (pI ad (fun v E2 => v = fa ∧ cR V ad E2 (n, R, rd, rp, rw, tr, fa, la, sz, cl) ∧ fr E E2)) := by
  refine gCt mX5_fault (Nat.le_of_ble_eq_true rfl) ?_
  intro K hk
  obtain ⟨h0, ⟨π, hB⟩, ⟨dn, wo, dl, hA⟩, ⟨n2, π2, R2, hB2⟩, ⟨dn2, wo2, dl2, hA2⟩, h3, h4, h5, h6, h7⟩ := id hC
  obtain ⟨b0, b1, b2, b3, b4, b5, -⟩ := id hB
  obtain ⟨a0, a1⟩ := id hA
  have hn0 : nI n = 0 ↔ n = 0 := neq (b := 0) (by omega) (by omega)
  refine G_aload_n (i := 0) hk dX5_fault_0 rfl rfl ?_
  refine G_get hk fX5_35 dX5_fault_1 (by assumption) (by rfl) (by first | decide | omega) ?_
  refine G_iret hk dX5_fault_4 ?_
  exact ⟨rfl, hC, fr.rf⟩

set_option maxHeartbeats 4000000 in
set_option maxRecDepth 100000 in
theorem c_X5_runsNow (l : Launch) (V : gV) (ad : Nat → Nat) (E : Nat → va_E) (n rd : Nat) (R : Nat → Nat → Int32) (rp rw : Nat → Int32) (tr fa : Int32) (la : Nat → Int32) (sz : Nat → Nat) (cl : Nat → Nat → Int32) (hC : cR V ad E (n, R, rd, rp, rw, tr, fa, la, sz, cl)) : Ct l V ad 44 44 yX5_runsNow cX5_runsNow 1 (some .int) { frames := 4, cells := 0, slots := 0, locals := 86 } [.ref (ad 0)] E (pI ad (pS E (nI (sRunsN R n)))) := by
  refine gCt mX5_runsNow (Nat.le_of_ble_eq_true rfl) ?_
  intro K hk
  obtain ⟨h0, ⟨π, hB⟩, ⟨dn, wo, dl, hA⟩, ⟨n2, π2, R2, hB2⟩, ⟨dn2, wo2, dl2, hA2⟩, h3, h4, h5, h6, h7⟩ := id hC
  obtain ⟨b0, b1, b2, b3, b4, b5, -⟩ := id hB
  obtain ⟨a0, a1⟩ := id hA
  have hn0 : nI n = 0 ↔ n = 0 := neq (b := 0) (by omega) (by omega)
  refine G_aload_n (i := 0) hk dX5_runsNow_0 rfl rfl ?_
  refine G_get hk fX5_12 dX5_runsNow_1 (by assumption) (by rfl) (by first | decide | omega) ?_
  refine G_get hk fX5_71 dX5_runsNow_4 (by assumption) (by rfl) (by first | decide | omega) ?_
  refine G_if_ne (tgt := 14) hk dX5_runsNow_7 (by decide) (fun c_7 => ?_) (fun c_7 => ?_)
  · try simp only [gB_ne, gB_eq, Decidable.not_not] at c_7
    have hn : ¬ n = 0 := fun q => c_7 (hn0.mpr q)
    refine G_aload_n (i := 0) hk dX5_runsNow_14 rfl rfl ?_
    refine G_get hk fX5_12 dX5_runsNow_15 (by assumption) (by rfl) (by first | decide | omega) ?_
    refine G_cVi hk (c_X1_countRuns l V ad E 1 n π R hB) mX1_countRuns vX1_countRuns kX5_167 dX5_runsNow_18 (by assumption) (by rfl) (by first | decide | omega) rfl (by decide) (by decide) rfl (Nat.le_of_ble_eq_true rfl) (fun r_18 E_18 h_18 => ?_)
    obtain ⟨rfl, rfl⟩ := h_18
    refine G_iret hk dX5_runsNow_21 ?_
    first | exact ⟨rfl, by unfold sRunsN; rw [if_pos hn]; rfl⟩ | exact ⟨rfl, by unfold sRunsN; rw [if_neg hn]⟩
  · try simp only [gB_ne, gB_eq, Decidable.not_not] at c_7
    have hn : n = 0 := hn0.mp (by first | exact c_7 | exact Decidable.not_not.mp c_7)
    refine G_iconst (v := 0) hk dX5_runsNow_10 (by decide) ?_
    refine G_goto (tgt := 21) hk dX5_runsNow_11 (by decide) ?_
    refine G_iret hk dX5_runsNow_21 ?_
    first | exact ⟨rfl, by unfold sRunsN; rw [if_pos hn]; rfl⟩ | exact ⟨rfl, by unfold sRunsN; rw [if_neg hn]⟩

set_option maxHeartbeats 4000000 in
set_option maxRecDepth 100000 in
theorem c_X5_many (l : Launch) (V : gV) (ad : Nat → Nat) (E : Nat → va_E) (n rd : Nat) (R : Nat → Nat → Int32) (rp rw : Nat → Int32) (tr fa : Int32) (la : Nat → Int32) (sz : Nat → Nat) (cl : Nat → Nat → Int32) (hC : cR V ad E (n, R, rd, rp, rw, tr, fa, la, sz, cl)) (w : Int32) : Ct l V ad 44 44 yX5_many cX5_many 2 (some .int) { frames := 5, cells := 0, slots := 0, locals := 106 } [.ref (ad 0), .int w] E (pI ad (fun v E2 => v = vMany n R rd w ∧ cR V ad E2 (n, R, rd, rp, rw, tr, fa, la, sz, cl) ∧ fr E E2)) := by
  refine gCt mX5_many (Nat.le_of_ble_eq_true rfl) ?_
  intro K hk
  obtain ⟨h0, ⟨π, hB⟩, ⟨dn, wo, dl, hA⟩, ⟨n2, π2, R2, hB2⟩, ⟨dn2, wo2, dl2, hA2⟩, h3, h4, h5, h6, h7⟩ := id hC
  obtain ⟨b0, b1, b2, b3, b4, b5, -⟩ := id hB
  obtain ⟨a0, a1⟩ := id hA
  have hn0 : nI n = 0 ↔ n = 0 := neq (b := 0) (by omega) (by omega)
  refine G_iload_n (i := 1) hk dX5_many_0 rfl rfl ?_
  by_cases q1_0 : w = 0
  · skip
    refine G_tbl (off := 27) (tgt := 28) 0 hk dX5_many_1 (by rw [q1_0]; decide) (by decide) (by decide) (by rfl) (by decide) ?_
    refine G_aload_n (i := 0) hk dX5_many_28 rfl rfl ?_
    refine G_get hk fX5_12 dX5_many_29 (by assumption) (by rfl) (by first | decide | omega) ?_
    refine G_get hk fX5_71 dX5_many_32 (by assumption) (by rfl) (by first | decide | omega) ?_
    refine G_iret hk dX5_many_35 ?_
    exact ⟨by unfold vMany; (try first | rw [if_pos q1_0] | rw [if_neg q1_0]), hC, fr.rf⟩
  · skip
    by_cases q1_1 : w = 1
    · skip
      refine G_tbl (off := 35) (tgt := 36) 1 hk dX5_many_1 (by rw [q1_1]; decide) (by decide) (by decide) (by rfl) (by decide) ?_
      refine G_aload_n (i := 0) hk dX5_many_36 rfl rfl ?_
      refine G_cVi hk (c_X5_runsNow l V ad E n rd R rp rw tr fa la sz cl hC) mX5_runsNow vX5_runsNow kX5_161 dX5_many_37 (by assumption) (by rfl) (by first | decide | omega) rfl (by decide) (by decide) rfl (Nat.le_of_ble_eq_true rfl) (fun r_37 E_37 h_37 => ?_)
      obtain ⟨rfl, rfl⟩ := h_37
      refine G_iret hk dX5_many_40 ?_
      exact ⟨by unfold vMany; (try first | rw [if_pos q1_0] | rw [if_neg q1_0]); (try first | rw [if_pos q1_1] | rw [if_neg q1_1]), hC, fr.rf⟩
    · skip
      by_cases q1_2 : w = 2
      · skip
        refine G_tbl (off := 40) (tgt := 41) 2 hk dX5_many_1 (by rw [q1_2]; decide) (by decide) (by decide) (by rfl) (by decide) ?_
        refine G_aload_n (i := 0) hk dX5_many_41 rfl rfl ?_
        refine G_get hk fX5_68 dX5_many_42 (by assumption) (by rfl) (by first | decide | omega) ?_
        refine G_iret hk dX5_many_45 ?_
        exact ⟨by unfold vMany; (try first | rw [if_pos q1_0] | rw [if_neg q1_0]); (try first | rw [if_pos q1_1] | rw [if_neg q1_1]); (try first | rw [if_pos q1_2] | rw [if_neg q1_2]), hC, fr.rf⟩
      · skip
        refine G_tableOut (tgt := 46) hk dX5_many_1 (by have a_0 := lv_neT (a := 0) q1_0 (by decide); have a_1 := lv_neT (a := 1) q1_1 (by decide); have a_2 := lv_neT (a := 2) q1_2 (by decide); omega) (by decide) ?_
        refine G_bipush (v := (-2)) hk dX5_many_46 (by decide) ?_
        refine G_iret hk dX5_many_48 ?_
        exact ⟨by unfold vMany; (try first | rw [if_pos q1_0] | rw [if_neg q1_0]); (try first | rw [if_pos q1_1] | rw [if_neg q1_1]); (try first | rw [if_pos q1_2] | rw [if_neg q1_2]), hC, fr.rf⟩

set_option maxHeartbeats 4000000 in
set_option maxRecDepth 100000 in
theorem c_X5_ofRule (l : Launch) (V : gV) (ad : Nat → Nat) (E : Nat → va_E) (n rd : Nat) (R : Nat → Nat → Int32) (rp rw : Nat → Int32) (tr fa : Int32) (la : Nat → Int32) (sz : Nat → Nat) (cl : Nat → Nat → Int32) (hC : cR V ad E (n, R, rd, rp, rw, tr, fa, la, sz, cl)) (r w : Int32) : Ct l V ad 44 44 yX5_ofRule cX5_ofRule 4 (some .int) { frames := 3, cells := 0, slots := 0, locals := 66 } [.ref (ad 0), .int r, .int w] E (pI ad (fun v E2 => v = vOfRule n R r w ∧ cR V ad E2 (n, R, rd, rp, rw, tr, fa, la, sz, cl) ∧ fr E E2)) := by
  refine gCt mX5_ofRule (Nat.le_of_ble_eq_true rfl) ?_
  intro K hk
  obtain ⟨h0, ⟨π, hB⟩, ⟨dn, wo, dl, hA⟩, ⟨n2, π2, R2, hB2⟩, ⟨dn2, wo2, dl2, hA2⟩, h3, h4, h5, h6, h7⟩ := id hC
  obtain ⟨b0, b1, b2, b3, b4, b5, -⟩ := id hB
  obtain ⟨a0, a1⟩ := id hA
  have hn0 : nI n = 0 ↔ n = 0 := neq (b := 0) (by omega) (by omega)
  refine G_aload_n (i := 0) hk dX5_ofRule_0 rfl rfl ?_
  refine G_get hk fX5_12 dX5_ofRule_1 (by assumption) (by rfl) (by first | decide | omega) ?_
  refine G_iload_n (i := 1) hk dX5_ofRule_4 rfl rfl ?_
  refine G_cVi hk (c_X1_isRule l V ad E 1 n π R hB r) mX1_isRule vX1_isRule kX5_74 dX5_ofRule_5 (by assumption) (by rfl) (by first | decide | omega) rfl (by decide) (by decide) rfl (Nat.le_of_ble_eq_true rfl) (fun r_5 E_5 h_5 => ?_)
  obtain ⟨rfl, rfl⟩ := h_5
  refine G_if_ne (tgt := 13) hk dX5_ofRule_8 (by decide) (fun c_8 => ?_) (fun c_8 => ?_)
  · try simp only [gB_ne, gB_eq, Decidable.not_not] at c_8
    obtain ⟨j, hj, rfl⟩ := gIx (Int32.not_lt.mpr c_8.1) c_8.2 (by omega)
    have hix : ix (nI j) = j := ix_nI (by omega)
    have pj := b4 j (by omega)
    have bj := b2 j (by omega)
    refine G_aload_n (i := 0) hk dX5_ofRule_13 rfl rfl ?_
    refine G_get hk fX5_12 dX5_ofRule_14 (by assumption) (by rfl) (by first | decide | omega) ?_
    refine G_get hk fX5_77 dX5_ofRule_17 (by assumption) (by rfl) (by first | decide | omega) ?_
    refine G_iload_n (i := 1) hk dX5_ofRule_20 rfl rfl ?_
    refine G_aaldRlX (j := j) hk dX5_ofRule_21 (by assumption) rfl (by omega) (by decide) (by rfl) (by first | decide | omega) ?_
    refine G_astore_n (i := 3) hk dX5_ofRule_22 rfl (by decide) rfl ?_
    refine G_iload_n (i := 2) hk dX5_ofRule_23 rfl rfl ?_
    by_cases q24_0 : w = 0
    · skip
      refine G_tbl (off := 44) (tgt := 68) 0 hk dX5_ofRule_24 (by rw [q24_0]; decide) (by decide) (by decide) (by rfl) (by decide) ?_
      refine G_aload_n (i := 3) hk dX5_ofRule_68 rfl rfl ?_
      refine G_get hk fX5_81 dX5_ofRule_69 (by assumption) (by rfl) (by first | decide | omega) ?_
      refine G_iret hk dX5_ofRule_72 ?_
      exact ⟨by unfold vOfRule; (try rw [hix]); (try first | rw [if_pos c_8] | rw [if_neg c_8]); (try first | rw [if_pos q24_0] | rw [if_neg q24_0]), hC, fr.rf⟩
    · skip
      by_cases q24_1 : w = 1
      · skip
        refine G_tbl (off := 49) (tgt := 73) 1 hk dX5_ofRule_24 (by rw [q24_1]; decide) (by decide) (by decide) (by rfl) (by decide) ?_
        refine G_aload_n (i := 3) hk dX5_ofRule_73 rfl rfl ?_
        refine G_get hk fX5_86 dX5_ofRule_74 (by assumption) (by rfl) (by first | decide | omega) ?_
        refine G_iret hk dX5_ofRule_77 ?_
        exact ⟨by unfold vOfRule; (try rw [hix]); (try first | rw [if_pos c_8] | rw [if_neg c_8]); (try first | rw [if_pos q24_0] | rw [if_neg q24_0]); (try first | rw [if_pos q24_1] | rw [if_neg q24_1]), hC, fr.rf⟩
      · skip
        by_cases q24_2 : w = 2
        · skip
          refine G_tbl (off := 54) (tgt := 78) 2 hk dX5_ofRule_24 (by rw [q24_2]; decide) (by decide) (by decide) (by rfl) (by decide) ?_
          refine G_aload_n (i := 3) hk dX5_ofRule_78 rfl rfl ?_
          refine G_get hk fX5_89 dX5_ofRule_79 (by assumption) (by rfl) (by first | decide | omega) ?_
          refine G_iret hk dX5_ofRule_82 ?_
          exact ⟨by unfold vOfRule; (try rw [hix]); (try first | rw [if_pos c_8] | rw [if_neg c_8]); (try first | rw [if_pos q24_0] | rw [if_neg q24_0]); (try first | rw [if_pos q24_1] | rw [if_neg q24_1]); (try first | rw [if_pos q24_2] | rw [if_neg q24_2]), hC, fr.rf⟩
        · skip
          by_cases q24_3 : w = 3
          · skip
            refine G_tbl (off := 59) (tgt := 83) 3 hk dX5_ofRule_24 (by rw [q24_3]; decide) (by decide) (by decide) (by rfl) (by decide) ?_
            refine G_aload_n (i := 3) hk dX5_ofRule_83 rfl rfl ?_
            refine G_get hk fX5_92 dX5_ofRule_84 (by assumption) (by rfl) (by first | decide | omega) ?_
            refine G_iret hk dX5_ofRule_87 ?_
            exact ⟨by unfold vOfRule; (try rw [hix]); (try first | rw [if_pos c_8] | rw [if_neg c_8]); (try first | rw [if_pos q24_0] | rw [if_neg q24_0]); (try first | rw [if_pos q24_1] | rw [if_neg q24_1]); (try first | rw [if_pos q24_2] | rw [if_neg q24_2]); (try first | rw [if_pos q24_3] | rw [if_neg q24_3]), hC, fr.rf⟩
          · skip
            by_cases q24_4 : w = 4
            · skip
              refine G_tbl (off := 64) (tgt := 88) 4 hk dX5_ofRule_24 (by rw [q24_4]; decide) (by decide) (by decide) (by rfl) (by decide) ?_
              refine G_aload_n (i := 3) hk dX5_ofRule_88 rfl rfl ?_
              refine G_get hk fX5_95 dX5_ofRule_89 (by assumption) (by rfl) (by first | decide | omega) ?_
              refine G_iret hk dX5_ofRule_92 ?_
              exact ⟨by unfold vOfRule; (try rw [hix]); (try first | rw [if_pos c_8] | rw [if_neg c_8]); (try first | rw [if_pos q24_0] | rw [if_neg q24_0]); (try first | rw [if_pos q24_1] | rw [if_neg q24_1]); (try first | rw [if_pos q24_2] | rw [if_neg q24_2]); (try first | rw [if_pos q24_3] | rw [if_neg q24_3]); (try first | rw [if_pos q24_4] | rw [if_neg q24_4]), hC, fr.rf⟩
            · skip
              by_cases q24_5 : w = 5
              · skip
                refine G_tbl (off := 69) (tgt := 93) 5 hk dX5_ofRule_24 (by rw [q24_5]; decide) (by decide) (by decide) (by rfl) (by decide) ?_
                refine G_aload_n (i := 3) hk dX5_ofRule_93 rfl rfl ?_
                refine G_cVi hk (c_X3_ownWorth l V ad E (1 + 4 + π j) (by omega) (R j) bj) mX3_ownWorth vX3_ownWorth kX5_98 dX5_ofRule_94 (by assumption) (by rfl) (by first | decide | omega) rfl (by decide) (by decide) rfl (Nat.le_of_ble_eq_true rfl) (fun r_94 E_94 h_94 => ?_)
                obtain ⟨rfl, rfl⟩ := h_94
                refine G_iret hk dX5_ofRule_97 ?_
                exact ⟨by unfold vOfRule; (try rw [hix]); (try first | rw [if_pos c_8] | rw [if_neg c_8]); (try first | rw [if_pos q24_0] | rw [if_neg q24_0]); (try first | rw [if_pos q24_1] | rw [if_neg q24_1]); (try first | rw [if_pos q24_2] | rw [if_neg q24_2]); (try first | rw [if_pos q24_3] | rw [if_neg q24_3]); (try first | rw [if_pos q24_4] | rw [if_neg q24_4]); (try first | rw [if_pos q24_5] | rw [if_neg q24_5]), hC, fr.rf⟩
              · skip
                by_cases q24_6 : w = 6
                · skip
                  refine G_tbl (off := 74) (tgt := 98) 6 hk dX5_ofRule_24 (by rw [q24_6]; decide) (by decide) (by decide) (by rfl) (by decide) ?_
                  refine G_aload_n (i := 0) hk dX5_ofRule_98 rfl rfl ?_
                  refine G_get hk fX5_12 dX5_ofRule_99 (by assumption) (by rfl) (by first | decide | omega) ?_
                  refine G_iload_n (i := 1) hk dX5_ofRule_102 rfl rfl ?_
                  refine G_cVi hk (c_X1_pointsWonBy l V ad E 1 n π R hB (nI j)) mX1_pointsWonBy vX1_pointsWonBy kX5_102 dX5_ofRule_103 (by assumption) (by rfl) (by first | decide | omega) rfl (by decide) (by decide) rfl (Nat.le_of_ble_eq_true rfl) (fun r_103 E_103 h_103 => ?_)
                  obtain ⟨rfl, rfl⟩ := h_103
                  refine G_iret hk dX5_ofRule_106 ?_
                  exact ⟨by unfold vOfRule; (try rw [hix]); (try first | rw [if_pos c_8] | rw [if_neg c_8]); (try first | rw [if_pos q24_0] | rw [if_neg q24_0]); (try first | rw [if_pos q24_1] | rw [if_neg q24_1]); (try first | rw [if_pos q24_2] | rw [if_neg q24_2]); (try first | rw [if_pos q24_3] | rw [if_neg q24_3]); (try first | rw [if_pos q24_4] | rw [if_neg q24_4]); (try first | rw [if_pos q24_5] | rw [if_neg q24_5]); (try first | rw [if_pos q24_6] | rw [if_neg q24_6]), hC, fr.rf⟩
                · skip
                  refine G_tableOut (tgt := 107) hk dX5_ofRule_24 (by have a_0 := lv_neT (a := 0) q24_0 (by decide); have a_1 := lv_neT (a := 1) q24_1 (by decide); have a_2 := lv_neT (a := 2) q24_2 (by decide); have a_3 := lv_neT (a := 3) q24_3 (by decide); have a_4 := lv_neT (a := 4) q24_4 (by decide); have a_5 := lv_neT (a := 5) q24_5 (by decide); have a_6 := lv_neT (a := 6) q24_6 (by decide); omega) (by decide) ?_
                  refine G_bipush (v := (-2)) hk dX5_ofRule_107 (by decide) ?_
                  refine G_iret hk dX5_ofRule_109 ?_
                  exact ⟨by unfold vOfRule; (try rw [hix]); (try first | rw [if_pos c_8] | rw [if_neg c_8]); (try first | rw [if_pos q24_0] | rw [if_neg q24_0]); (try first | rw [if_pos q24_1] | rw [if_neg q24_1]); (try first | rw [if_pos q24_2] | rw [if_neg q24_2]); (try first | rw [if_pos q24_3] | rw [if_neg q24_3]); (try first | rw [if_pos q24_4] | rw [if_neg q24_4]); (try first | rw [if_pos q24_5] | rw [if_neg q24_5]); (try first | rw [if_pos q24_6] | rw [if_neg q24_6]), hC, fr.rf⟩
  · try simp only [gB_ne, gB_eq, Decidable.not_not] at c_8
    refine G_iconst (v := (-1)) hk dX5_ofRule_11 (by decide) ?_
    refine G_iret hk dX5_ofRule_12 ?_
    exact ⟨by unfold vOfRule; (try rw [hix]); (try first | rw [if_pos c_8] | rw [if_neg c_8]), hC, fr.rf⟩

set_option maxHeartbeats 4000000 in
set_option maxRecDepth 100000 in
theorem c_X5_number (l : Launch) (V : gV) (ad : Nat → Nat) (E : Nat → va_E) (n rd : Nat) (R : Nat → Nat → Int32) (rp rw : Nat → Int32) (tr fa : Int32) (la : Nat → Int32) (sz : Nat → Nat) (cl : Nat → Nat → Int32) (hC : cR V ad E (n, R, rd, rp, rw, tr, fa, la, sz, cl)) (r v : Int32) : Ct l V ad 44 44 yX5_number cX5_number 4 (some .int) { frames := 1, cells := 0, slots := 0, locals := 22 } [.ref (ad 0), .int r, .int v] E (pI ad (fun z E2 => z = vNumber n R r v ∧ (∃ R2, cR V ad E2 (n, R2, rd, rp, rw, tr, fa, la, sz, cl) ∧ ∀ i, i < n → R2 i = rNumber n R r v i) ∧ fr E E2)) := by
  refine gCt mX5_number (Nat.le_of_ble_eq_true rfl) ?_
  intro K hk
  obtain ⟨h0, ⟨π, hB⟩, ⟨dn, wo, dl, hA⟩, ⟨n2, π2, R2, hB2⟩, ⟨dn2, wo2, dl2, hA2⟩, h3, h4, h5, h6, h7⟩ := id hC
  obtain ⟨b0, b1, b2, b3, b4, b5, -⟩ := id hB
  obtain ⟨a0, a1⟩ := id hA
  have hn0 : nI n = 0 ↔ n = 0 := neq (b := 0) (by omega) (by omega)
  refine G_aload_n (i := 0) hk dX5_number_0 rfl rfl ?_
  refine G_get hk fX5_12 dX5_number_1 (by assumption) (by rfl) (by first | decide | omega) ?_
  refine G_iload_n (i := 1) hk dX5_number_4 rfl rfl ?_
  refine G_cVi hk (c_X1_isRule l V ad E 1 n π R hB r) mX1_isRule vX1_isRule kX5_74 dX5_number_5 (by assumption) (by rfl) (by first | decide | omega) rfl (by decide) (by decide) rfl (Nat.le_of_ble_eq_true rfl) (fun r_5 E_5 h_5 => ?_)
  obtain ⟨rfl, rfl⟩ := h_5
  refine G_if_ne (tgt := 13) hk dX5_number_8 (by decide) (fun c_8 => ?_) (fun c_8 => ?_)
  · try simp only [gB_ne, gB_eq, Decidable.not_not] at c_8
    obtain ⟨j, hj, rfl⟩ := gIx (Int32.not_lt.mpr c_8.1) c_8.2 (by omega)
    have hix : ix (nI j) = j := ix_nI (by omega)
    have pj := b4 j (by omega)
    have bj := b2 j (by omega)
    refine G_iload_n (i := 2) hk dX5_number_13 rfl rfl ?_
    refine G_iconst (v := 1) hk dX5_number_14 (by decide) ?_
    refine G_bipush (v := 9) hk dX5_number_15 (by decide) ?_
    refine G_cSi hk (c_X5_isIn l V ad E v 1 9) mX5_isIn sX5_isIn kX5_43 dX5_number_17 rfl (by decide) (by decide) rfl (Nat.le_of_ble_eq_true rfl) (fun r_17 E_17 h_17 => ?_)
    obtain ⟨rfl, rfl⟩ := h_17
    refine G_if_ne (tgt := 26) hk dX5_number_20 (by decide) (fun c_20 => ?_) (fun c_20 => ?_)
    · try simp only [gB_ne, gB_eq, Decidable.not_not] at c_20
      refine G_aload_n (i := 0) hk dX5_number_26 rfl rfl ?_
      refine G_get hk fX5_12 dX5_number_27 (by assumption) (by rfl) (by first | decide | omega) ?_
      refine G_get hk fX5_77 dX5_number_30 (by assumption) (by rfl) (by first | decide | omega) ?_
      refine G_iload_n (i := 1) hk dX5_number_33 rfl rfl ?_
      refine G_aaldRlX (j := j) hk dX5_number_34 (by assumption) rfl (by omega) (by decide) (by rfl) (by first | decide | omega) ?_
      refine G_get hk fX5_89 dX5_number_35 (by assumption) (by rfl) (by first | decide | omega) ?_
      refine G_istore_n (i := 3) hk dX5_number_38 rfl (by decide) rfl ?_
      refine G_aload_n (i := 0) hk dX5_number_39 rfl rfl ?_
      refine G_get hk fX5_12 dX5_number_40 (by assumption) (by rfl) (by first | decide | omega) ?_
      refine G_get hk fX5_77 dX5_number_43 (by assumption) (by rfl) (by first | decide | omega) ?_
      refine G_iload_n (i := 1) hk dX5_number_46 rfl rfl ?_
      refine G_aaldRlX (j := j) hk dX5_number_47 (by assumption) rfl (by omega) (by decide) (by rfl) (by first | decide | omega) ?_
      refine G_iload_n (i := 2) hk dX5_number_48 rfl rfl ?_
      refine G_put hk fX5_89 iX3_2 dX5_number_49 (by assumption) (Nat.le_of_ble_eq_true rfl) (by first | decide | omega) ?_
      refine G_iload_n (i := 3) hk dX5_number_52 rfl rfl ?_
      refine G_iret hk dX5_number_53 ?_
      refine ⟨by unfold vNumber; rw [hix]; (try first | rw [if_pos c_8] | rw [if_neg c_8]); (try first | rw [if_pos c_20] | rw [if_neg c_20]), ⟨_, hC.rule hB (by omega) (sNum (R j) v), fun i hi => ?_⟩, fr.up (by omega)⟩
      have e : rNumber n R (nI j) v i = (if i = j then sNum (R i) v else R i) := by
        unfold rNumber
        rw [if_pos (show (0 ≤ nI j ∧ nI j < nI n) ∧ (1 ≤ v ∧ v ≤ 9) from ⟨c_8, c_20⟩), hix]
      rw [e]
      by_cases hij : i = j
      · subst hij
        rfl
      · rw [if_neg hij]
        exact (if_neg hij).symm
    · try simp only [gB_ne, gB_eq, Decidable.not_not] at c_20
      refine G_bipush (v := (-2)) hk dX5_number_23 (by decide) ?_
      refine G_iret hk dX5_number_25 ?_
      exact ⟨by unfold vNumber; (try first | rw [if_pos c_8] | rw [if_neg c_8]); (try first | rw [if_pos c_20] | rw [if_neg c_20]), ⟨R, hC, fun i _ => (if_neg (fun q => c_20 q.2)).symm⟩, fr.rf⟩
  · try simp only [gB_ne, gB_eq, Decidable.not_not] at c_8
    refine G_iconst (v := (-1)) hk dX5_number_11 (by decide) ?_
    refine G_iret hk dX5_number_12 ?_
    exact ⟨by unfold vNumber; (try first | rw [if_pos c_8] | rw [if_neg c_8]), ⟨R, hC, fun i _ => (if_neg (fun q => c_8 q.1)).symm⟩, fr.rf⟩

set_option maxHeartbeats 4000000 in
set_option maxRecDepth 100000 in
theorem c_X5_insert (l : Launch) (V : gV) (ad : Nat → Nat) (E : Nat → va_E) (n rd : Nat) (R : Nat → Nat → Int32) (rp rw : Nat → Int32) (tr fa : Int32) (la : Nat → Int32) (sz : Nat → Nat) (cl : Nat → Nat → Int32) (hC : cR V ad E (n, R, rd, rp, rw, tr, fa, la, sz, cl)) (k kd de nu lo hi : Int32) : Ct l V ad 44 44 yX5_insert cX5_insert 7 (some .int) { frames := 1, cells := 0, slots := 0, locals := 25 } [.ref (ad 0), .int k, .int kd, .int de, .int nu, .int lo, .int hi] E (pI ad (fun v E2 => v = vInsert n k kd de nu lo hi ∧ (∃ R2, cR V ad E2 (nInsert n k kd de nu lo hi, R2, rd, rp, rw, tr, fa, la, sz, cl) ∧ ∀ i, i < nInsert n k kd de nu lo hi → R2 i = rInsert n R k kd de nu lo hi i) ∧ fr E E2)) := by
  refine gCt mX5_insert (Nat.le_of_ble_eq_true rfl) ?_
  intro K hk
  obtain ⟨h0, ⟨π, hB⟩, ⟨dn, wo, dl, hA⟩, ⟨n2, π2, R2, hB2⟩, ⟨dn2, wo2, dl2, hA2⟩, h3, h4, h5, h6, h7⟩ := id hC
  obtain ⟨b0, b1, b2, b3, b4, b5, -⟩ := id hB
  obtain ⟨a0, a1⟩ := id hA
  have hn0 : nI n = 0 ↔ n = 0 := neq (b := 0) (by omega) (by omega)
  refine G_aload_n (i := 0) hk dX5_insert_0 rfl rfl ?_
  refine G_get hk fX5_12 dX5_insert_1 (by assumption) (by rfl) (by first | decide | omega) ?_
  refine G_get hk fX5_71 dX5_insert_4 (by assumption) (by rfl) (by first | decide | omega) ?_
  refine G_if_ne (tgt := 13) hk dX5_insert_7 (by decide) (fun c_7 => ?_) (fun c_7 => ?_)
  · try simp only [gB_ne, gB_eq, Decidable.not_not] at c_7
    have hn : ¬ n = 0 := fun q => c_7 (hn0.mpr q)
    refine G_iload_n (i := 1) hk dX5_insert_13 rfl rfl ?_
    refine G_iconst (v := 0) hk dX5_insert_14 (by decide) ?_
    refine G_aload_n (i := 0) hk dX5_insert_15 rfl rfl ?_
    refine G_get hk fX5_12 dX5_insert_16 (by assumption) (by rfl) (by first | decide | omega) ?_
    refine G_get hk fX5_71 dX5_insert_19 (by assumption) (by rfl) (by first | decide | omega) ?_
    refine G_cSi hk (c_X5_isIn l V ad E k 0 (nI n)) mX5_isIn sX5_isIn kX5_43 dX5_insert_22 rfl (by decide) (by decide) rfl (Nat.le_of_ble_eq_true rfl) (fun r_22 E_22 h_22 => ?_)
    obtain ⟨rfl, rfl⟩ := h_22
    refine G_if_ne (tgt := 31) hk dX5_insert_25 (by decide) (fun c_25 => ?_) (fun c_25 => ?_)
    · try simp only [gB_ne, gB_eq, Decidable.not_not] at c_25
      refine G_iload_n (i := 2) hk dX5_insert_31 rfl rfl ?_
      refine G_iconst (v := 0) hk dX5_insert_32 (by decide) ?_
      refine G_iconst (v := 2) hk dX5_insert_33 (by decide) ?_
      refine G_cSi hk (c_X5_isIn l V ad E kd 0 2) mX5_isIn sX5_isIn kX5_43 dX5_insert_34 rfl (by decide) (by decide) rfl (Nat.le_of_ble_eq_true rfl) (fun r_34 E_34 h_34 => ?_)
      obtain ⟨rfl, rfl⟩ := h_34
      refine G_if_eq (tgt := 49) hk dX5_insert_37 (by decide) (fun c_37 => ?_) (fun c_37 => ?_)
      · try simp only [gB_ne, gB_eq, Decidable.not_not] at c_37
        refine G_bipush (v := (-2)) hk dX5_insert_49 (by decide) ?_
        refine G_iret hk dX5_insert_51 ?_
        first | exact ⟨by unfold vInsert; rw [if_neg hn, okInsD_f (fun q => c_37 q.2.1)]; rfl, by unfold nInsert rInsert; rw [if_neg hn, if_neg hn, okInsD_f (fun q => c_37 q.2.1)]; exact ⟨R, hC, fun _ _ => rfl⟩, fr.rf⟩ | exact ⟨by unfold vInsert; rw [if_neg hn, okInsD_f (fun q => c_46 q.2.2.1)]; rfl, by unfold nInsert rInsert; rw [if_neg hn, if_neg hn, okInsD_f (fun q => c_46 q.2.2.1)]; exact ⟨R, hC, fun _ _ => rfl⟩, fr.rf⟩
      · try simp only [gB_ne, gB_eq, Decidable.not_not] at c_37
        refine G_iload_n (i := 3) hk dX5_insert_40 rfl rfl ?_
        refine G_iconst (v := 0) hk dX5_insert_41 (by decide) ?_
        refine G_iconst (v := 2) hk dX5_insert_42 (by decide) ?_
        refine G_cSi hk (c_X5_isIn l V ad E de 0 2) mX5_isIn sX5_isIn kX5_43 dX5_insert_43 rfl (by decide) (by decide) rfl (Nat.le_of_ble_eq_true rfl) (fun r_43 E_43 h_43 => ?_)
        obtain ⟨rfl, rfl⟩ := h_43
        refine G_if_ne (tgt := 52) hk dX5_insert_46 (by decide) (fun c_46 => ?_) (fun c_46 => ?_)
        · try simp only [gB_ne, gB_eq, Decidable.not_not] at c_46
          refine G_iload hk dX5_insert_52 rfl ?_
          refine G_iconst (v := 1) hk dX5_insert_54 (by decide) ?_
          refine G_bipush (v := 9) hk dX5_insert_55 (by decide) ?_
          refine G_cSi hk (c_X5_isIn l V ad E nu 1 9) mX5_isIn sX5_isIn kX5_43 dX5_insert_57 rfl (by decide) (by decide) rfl (Nat.le_of_ble_eq_true rfl) (fun r_57 E_57 h_57 => ?_)
          obtain ⟨rfl, rfl⟩ := h_57
          refine G_if_ne (tgt := 66) hk dX5_insert_60 (by decide) (fun c_60 => ?_) (fun c_60 => ?_)
          · try simp only [gB_ne, gB_eq, Decidable.not_not] at c_60
            refine G_iload hk dX5_insert_66 rfl ?_
            refine G_iconst (v := 0) hk dX5_insert_68 (by decide) ?_
            refine G_bipush (v := 25) hk dX5_insert_69 (by decide) ?_
            refine G_cSi hk (c_X5_isIn l V ad E lo 0 25) mX5_isIn sX5_isIn kX5_43 dX5_insert_71 rfl (by decide) (by decide) rfl (Nat.le_of_ble_eq_true rfl) (fun r_71 E_71 h_71 => ?_)
            obtain ⟨rfl, rfl⟩ := h_71
            refine G_if_eq (tgt := 89) hk dX5_insert_74 (by decide) (fun c_74 => ?_) (fun c_74 => ?_)
            · try simp only [gB_ne, gB_eq, Decidable.not_not] at c_74
              refine G_bipush (v := (-2)) hk dX5_insert_89 (by decide) ?_
              refine G_iret hk dX5_insert_91 ?_
              first | exact ⟨by unfold vInsert; rw [if_neg hn, okInsD_f (fun q => c_74 q.2.2.2.2.1)]; rfl, by unfold nInsert rInsert; rw [if_neg hn, if_neg hn, okInsD_f (fun q => c_74 q.2.2.2.2.1)]; exact ⟨R, hC, fun _ _ => rfl⟩, fr.rf⟩ | exact ⟨by unfold vInsert; rw [if_neg hn, okInsD_f (fun q => c_86 q.2.2.2.2.2)]; rfl, by unfold nInsert rInsert; rw [if_neg hn, if_neg hn, okInsD_f (fun q => c_86 q.2.2.2.2.2)]; exact ⟨R, hC, fun _ _ => rfl⟩, fr.rf⟩
            · try simp only [gB_ne, gB_eq, Decidable.not_not] at c_74
              refine G_iload hk dX5_insert_77 rfl ?_
              refine G_iload hk dX5_insert_79 rfl ?_
              refine G_bipush (v := 25) hk dX5_insert_81 (by decide) ?_
              refine G_cSi hk (c_X5_isIn l V ad E hi lo 25) mX5_isIn sX5_isIn kX5_43 dX5_insert_83 rfl (by decide) (by decide) rfl (Nat.le_of_ble_eq_true rfl) (fun r_83 E_83 h_83 => ?_)
              obtain ⟨rfl, rfl⟩ := h_83
              refine G_if_ne (tgt := 92) hk dX5_insert_86 (by decide) (fun c_86 => ?_) (fun c_86 => ?_)
              · try simp only [gB_ne, gB_eq, Decidable.not_not] at c_86
                refine G_aload_n (i := 0) hk dX5_insert_92 rfl rfl ?_
                refine G_get hk fX5_12 dX5_insert_93 (by assumption) (by rfl) (by first | decide | omega) ?_
                refine G_get hk fX5_71 dX5_insert_96 (by assumption) (by rfl) (by first | decide | omega) ?_
                refine G_bipush (v := 7) hk dX5_insert_99 (by decide) ?_
                refine G_icmp_lt (tgt := 107) hk dX5_insert_101 (by decide) (fun c_101 => ?_) (fun c_101 => ?_)
                · try simp only [gB_ne, gB_eq, Decidable.not_not] at c_101
                  have hlt : n < 7 := (nlt (b := 7) (by omega) (by omega)).mp c_101
                  obtain ⟨j, hj, rfl⟩ := gIe c_25.1 c_25.2 (by omega)
                  have hix : ix (nI j) = j := ix_nI (by omega)
                  refine G_aload_n (i := 0) hk dX5_insert_107 rfl rfl ?_
                  refine G_get hk fX5_12 dX5_insert_108 (by assumption) (by rfl) (by first | decide | omega) ?_
                  refine G_iload_n (i := 1) hk dX5_insert_111 rfl rfl ?_
                  refine G_cVv hk (c_X1_openPlace l V ad E 1 n π R hB j hj hlt) mX1_openPlace vX1_openPlace kX5_105 dX5_insert_112 (by assumption) (by rfl) (by first | decide | omega) rfl (by decide) (by decide) rfl (Nat.le_of_ble_eq_true rfl) (fun E_112 h_112 => ?_)
                  have hM := h_112
                  obtain ⟨R2', hC2, hR2⟩ := hC.bk h_112
                  obtain ⟨g0, ⟨π', gB'⟩, -⟩ := id hC2
                  obtain ⟨e0, e1, e2, e3, e4, e5, -⟩ := id gB'
                  have pj := e4 j (by omega)
                  have bj := e2 j (by omega)
                  refine G_aload_n (i := 0) hk dX5_insert_115 rfl rfl ?_
                  refine G_get hk fX5_12 dX5_insert_116 (by assumption) (by rfl) (by first | decide | omega) ?_
                  refine G_get hk fX5_77 dX5_insert_119 (by assumption) (by rfl) (by first | decide | omega) ?_
                  refine G_iload_n (i := 1) hk dX5_insert_122 rfl rfl ?_
                  refine G_aaldRlX (j := j) hk dX5_insert_123 (by assumption) rfl (by omega) (by decide) (by rfl) (by first | decide | omega) ?_
                  refine G_iload_n (i := 2) hk dX5_insert_124 rfl rfl ?_
                  refine G_iload_n (i := 3) hk dX5_insert_125 rfl rfl ?_
                  refine G_iload hk dX5_insert_126 rfl ?_
                  refine G_iload hk dX5_insert_128 rfl ?_
                  refine G_iload hk dX5_insert_130 rfl ?_
                  refine G_cVv hk (c_X3_become l V ad E_112 (1 + 4 + π' j) (by omega) (R2' j) kd de nu lo hi bj) mX3_become vX3_become kX5_109 dX5_insert_132 (by assumption) (by rfl) (by first | decide | omega) rfl (by decide) (by decide) rfl (Nat.le_of_ble_eq_true rfl) (fun E_132 h_132 => ?_)
                  have hC3 := hC2.rule gB' (by omega : j < 7) (sQ kd de nu lo hi)
                  have z0 := (show E_132 0 = E_112 0 by rw [h_132, va_up_ne _ _ (by omega)]).trans g0
                  have z1 := (show E_132 1 = E_112 1 by rw [h_132, va_up_ne _ _ (by omega)]).trans e0
                  refine G_aload_n (i := 0) hk dX5_insert_135 rfl rfl ?_
                  refine G_get hk fX5_12 dX5_insert_136 (by assumption) (by rfl) (by first | decide | omega) ?_
                  refine G_get hk fX5_71 dX5_insert_139 (by assumption) (by rfl) (by first | decide | omega) ?_
                  refine G_iret hk dX5_insert_142 ?_
                  have hok : okIns n (nI j) kd de nu lo hi := ⟨c_25, c_37, c_46, c_60, c_74, c_86⟩
                  refine ⟨by unfold vInsert; rw [if_neg hn, okInsD_t hok, if_pos rfl, if_neg (by omega)], ?_, ?_⟩
                  · unfold nInsert rInsert
                    rw [if_neg hn, if_neg hn, okInsD_t hok, if_pos rfl, if_pos rfl, if_neg (by omega), if_neg (by omega), hix]
                    refine ⟨_, by rw [h_132]; exact hC3, fun i hi => ?_⟩
                    by_cases hij : i = j
                    · subst hij
                      rw [if_pos rfl]
                      unfold sIns
                      rw [if_neg (by omega), if_pos rfl]
                    · rw [if_neg hij, hR2 i hi]
                      unfold sIns
                      rw [if_neg hij, if_neg hij]
                  · rw [h_132]
                    exact (fr.bk hM (by omega)).tr (fr.up (by omega))
                · try simp only [gB_ne, gB_eq, Decidable.not_not] at c_101
                  have hge : ¬ n < 7 := fun q => c_101 ((nlt (b := 7) (by omega) (by omega)).mpr q)
                  have hn7 : n = 7 := by omega
                  refine G_bipush (v := (-4)) hk dX5_insert_104 (by decide) ?_
                  refine G_iret hk dX5_insert_106 ?_
                  have hok : okIns n k kd de nu lo hi := ⟨c_25, c_37, c_46, c_60, c_74, c_86⟩
                  exact ⟨by unfold vInsert; rw [if_neg hn, okInsD_t hok, if_pos rfl, if_pos hn7], by unfold nInsert rInsert; rw [if_neg hn, if_neg hn, okInsD_t hok, if_pos rfl, if_pos rfl, if_pos hn7, if_pos hn7]; exact ⟨R, hC, fun _ _ => rfl⟩, fr.rf⟩
              · try simp only [gB_ne, gB_eq, Decidable.not_not] at c_86
                refine G_bipush (v := (-2)) hk dX5_insert_89 (by decide) ?_
                refine G_iret hk dX5_insert_91 ?_
                first | exact ⟨by unfold vInsert; rw [if_neg hn, okInsD_f (fun q => c_74 q.2.2.2.2.1)]; rfl, by unfold nInsert rInsert; rw [if_neg hn, if_neg hn, okInsD_f (fun q => c_74 q.2.2.2.2.1)]; exact ⟨R, hC, fun _ _ => rfl⟩, fr.rf⟩ | exact ⟨by unfold vInsert; rw [if_neg hn, okInsD_f (fun q => c_86 q.2.2.2.2.2)]; rfl, by unfold nInsert rInsert; rw [if_neg hn, if_neg hn, okInsD_f (fun q => c_86 q.2.2.2.2.2)]; exact ⟨R, hC, fun _ _ => rfl⟩, fr.rf⟩
          · try simp only [gB_ne, gB_eq, Decidable.not_not] at c_60
            refine G_bipush (v := (-2)) hk dX5_insert_63 (by decide) ?_
            refine G_iret hk dX5_insert_65 ?_
            exact ⟨by unfold vInsert; rw [if_neg hn, okInsD_f (fun q => c_60 q.2.2.2.1)]; rfl, by unfold nInsert rInsert; rw [if_neg hn, if_neg hn, okInsD_f (fun q => c_60 q.2.2.2.1)]; exact ⟨R, hC, fun _ _ => rfl⟩, fr.rf⟩
        · try simp only [gB_ne, gB_eq, Decidable.not_not] at c_46
          refine G_bipush (v := (-2)) hk dX5_insert_49 (by decide) ?_
          refine G_iret hk dX5_insert_51 ?_
          first | exact ⟨by unfold vInsert; rw [if_neg hn, okInsD_f (fun q => c_37 q.2.1)]; rfl, by unfold nInsert rInsert; rw [if_neg hn, if_neg hn, okInsD_f (fun q => c_37 q.2.1)]; exact ⟨R, hC, fun _ _ => rfl⟩, fr.rf⟩ | exact ⟨by unfold vInsert; rw [if_neg hn, okInsD_f (fun q => c_46 q.2.2.1)]; rfl, by unfold nInsert rInsert; rw [if_neg hn, if_neg hn, okInsD_f (fun q => c_46 q.2.2.1)]; exact ⟨R, hC, fun _ _ => rfl⟩, fr.rf⟩
    · try simp only [gB_ne, gB_eq, Decidable.not_not] at c_25
      refine G_bipush (v := (-2)) hk dX5_insert_28 (by decide) ?_
      refine G_iret hk dX5_insert_30 ?_
      exact ⟨by unfold vInsert; rw [if_neg hn, okInsD_f (fun q => c_25 q.1)]; rfl, by unfold nInsert rInsert; rw [if_neg hn, if_neg hn, okInsD_f (fun q => c_25 q.1)]; exact ⟨R, hC, fun _ _ => rfl⟩, fr.rf⟩
  · try simp only [gB_ne, gB_eq, Decidable.not_not] at c_7
    have hn : n = 0 := hn0.mp (by first | exact c_7 | exact Decidable.not_not.mp c_7)
    refine G_bipush (v := (-3)) hk dX5_insert_10 (by decide) ?_
    refine G_iret hk dX5_insert_12 ?_
    exact ⟨by unfold vInsert; rw [if_pos hn], by unfold nInsert rInsert; rw [if_pos hn, if_pos hn]; exact ⟨R, hC, fun _ _ => rfl⟩, fr.rf⟩

set_option maxHeartbeats 4000000 in
set_option maxRecDepth 100000 in
theorem c_X5_remove (l : Launch) (V : gV) (ad : Nat → Nat) (E : Nat → va_E) (n rd : Nat) (R : Nat → Nat → Int32) (rp rw : Nat → Int32) (tr fa : Int32) (la : Nat → Int32) (sz : Nat → Nat) (cl : Nat → Nat → Int32) (hC : cR V ad E (n, R, rd, rp, rw, tr, fa, la, sz, cl)) (r : Int32) : Ct l V ad 44 44 yX5_remove cX5_remove 2 (some .int) { frames := 2, cells := 0, slots := 0, locals := 44 } [.ref (ad 0), .int r] E (pI ad (fun v E2 => v = vRemove n r ∧ (∃ R2, cR V ad E2 (nRemove n r, R2, rd, rp, rw, tr, fa, la, sz, cl) ∧ ∀ i, i < nRemove n r → R2 i = rRemove n R r i) ∧ fr E E2)) := by
  refine gCt mX5_remove (Nat.le_of_ble_eq_true rfl) ?_
  intro K hk
  obtain ⟨h0, ⟨π, hB⟩, ⟨dn, wo, dl, hA⟩, ⟨n2, π2, R2, hB2⟩, ⟨dn2, wo2, dl2, hA2⟩, h3, h4, h5, h6, h7⟩ := id hC
  obtain ⟨b0, b1, b2, b3, b4, b5, -⟩ := id hB
  obtain ⟨a0, a1⟩ := id hA
  have hn0 : nI n = 0 ↔ n = 0 := neq (b := 0) (by omega) (by omega)
  have hn1 : nI n = 1 ↔ n = 1 := neq (b := 1) (by omega) (by omega)
  refine G_aload_n (i := 0) hk dX5_remove_0 rfl rfl ?_
  refine G_get hk fX5_12 dX5_remove_1 (by assumption) (by rfl) (by first | decide | omega) ?_
  refine G_iload_n (i := 1) hk dX5_remove_4 rfl rfl ?_
  refine G_cVi hk (c_X1_isRule l V ad E 1 n π R hB r) mX1_isRule vX1_isRule kX5_74 dX5_remove_5 (by assumption) (by rfl) (by first | decide | omega) rfl (by decide) (by decide) rfl (Nat.le_of_ble_eq_true rfl) (fun r_5 E_5 h_5 => ?_)
  obtain ⟨rfl, rfl⟩ := h_5
  refine G_if_ne (tgt := 13) hk dX5_remove_8 (by decide) (fun c_8 => ?_) (fun c_8 => ?_)
  · try simp only [gB_ne, gB_eq, Decidable.not_not] at c_8
    obtain ⟨j, hj, rfl⟩ := gIx (Int32.not_lt.mpr c_8.1) c_8.2 (by omega)
    have hix : ix (nI j) = j := ix_nI (by omega)
    have pj := b4 j (by omega)
    have bj := b2 j (by omega)
    refine G_aload_n (i := 0) hk dX5_remove_13 rfl rfl ?_
    refine G_get hk fX5_12 dX5_remove_14 (by assumption) (by rfl) (by first | decide | omega) ?_
    refine G_get hk fX5_71 dX5_remove_17 (by assumption) (by rfl) (by first | decide | omega) ?_
    refine G_iconst (v := 1) hk dX5_remove_20 (by decide) ?_
    refine G_icmp_ne (tgt := 27) hk dX5_remove_21 (by decide) (fun c_21 => ?_) (fun c_21 => ?_)
    · try simp only [gB_ne, gB_eq, Decidable.not_not] at c_21
      have h1 : ¬ n = 1 := fun q => c_21 (hn1.mpr q)
      refine G_aload_n (i := 0) hk dX5_remove_27 rfl rfl ?_
      refine G_get hk fX5_12 dX5_remove_28 (by assumption) (by rfl) (by first | decide | omega) ?_
      refine G_iload_n (i := 1) hk dX5_remove_31 rfl rfl ?_
      refine G_cVv hk (c_X1_takeAway l V ad E 1 n π R hB j hj) mX1_takeAway vX1_takeAway kX5_113 dX5_remove_32 (by assumption) (by rfl) (by first | decide | omega) rfl (by decide) (by decide) rfl (Nat.le_of_ble_eq_true rfl) (fun E_32 h_32 => ?_)
      have hM := h_32
      obtain ⟨R2', hC2, hR2⟩ := hC.bk h_32
      obtain ⟨g0, ⟨π', gB'⟩, -⟩ := id hC2
      have e0 := gB'.1
      refine G_aload_n (i := 0) hk dX5_remove_35 rfl rfl ?_
      refine G_get hk fX5_12 dX5_remove_36 (by assumption) (by rfl) (by first | decide | omega) ?_
      refine G_get hk fX5_71 dX5_remove_39 (by assumption) (by rfl) (by first | decide | omega) ?_
      refine G_iret hk dX5_remove_42 ?_
      exact ⟨by unfold vRemove; rw [if_pos c_8, if_neg h1], by unfold nRemove rRemove; rw [if_pos c_8, if_pos c_8, if_neg h1, if_neg h1, hix]; exact ⟨R2', hC2, hR2⟩, fr.bk hM (by omega)⟩
    · try simp only [gB_ne, gB_eq, Decidable.not_not] at c_21
      have h1 : n = 1 := hn1.mp (by first | exact c_21 | exact Decidable.not_not.mp c_21)
      refine G_bipush (v := (-3)) hk dX5_remove_24 (by decide) ?_
      refine G_iret hk dX5_remove_26 ?_
      exact ⟨by unfold vRemove; rw [if_pos c_8, if_pos h1], by unfold nRemove rRemove; rw [if_pos c_8, if_pos c_8, if_pos h1, if_pos h1]; exact ⟨R, hC, fun _ _ => rfl⟩, fr.rf⟩
  · try simp only [gB_ne, gB_eq, Decidable.not_not] at c_8
    refine G_iconst (v := (-1)) hk dX5_remove_11 (by decide) ?_
    refine G_iret hk dX5_remove_12 ?_
    exact ⟨by unfold vRemove; (try first | rw [if_pos c_8] | rw [if_neg c_8]), by unfold nRemove rRemove; rw [if_neg c_8, if_neg c_8]; exact ⟨R, hC, fun _ _ => rfl⟩, fr.rf⟩

set_option maxHeartbeats 4000000 in
set_option maxRecDepth 100000 in
theorem c_X5_swap (l : Launch) (V : gV) (ad : Nat → Nat) (E : Nat → va_E) (n rd : Nat) (R : Nat → Nat → Int32) (rp rw : Nat → Int32) (tr fa : Int32) (la : Nat → Int32) (sz : Nat → Nat) (cl : Nat → Nat → Int32) (hC : cR V ad E (n, R, rd, rp, rw, tr, fa, la, sz, cl)) (r : Int32) : Ct l V ad 44 44 yX5_swap cX5_swap 2 (some .int) { frames := 2, cells := 0, slots := 0, locals := 43 } [.ref (ad 0), .int r] E (pI ad (fun v E2 => v = vSwap n r ∧ (∃ R2, cR V ad E2 (n, R2, rd, rp, rw, tr, fa, la, sz, cl) ∧ ∀ i, i < n → R2 i = rSwap n R r i) ∧ fr E E2)) := by
  refine gCt mX5_swap (Nat.le_of_ble_eq_true rfl) ?_
  intro K hk
  obtain ⟨h0, ⟨π, hB⟩, ⟨dn, wo, dl, hA⟩, ⟨n2, π2, R2, hB2⟩, ⟨dn2, wo2, dl2, hA2⟩, h3, h4, h5, h6, h7⟩ := id hC
  obtain ⟨b0, b1, b2, b3, b4, b5, -⟩ := id hB
  obtain ⟨a0, a1⟩ := id hA
  have hn0 : nI n = 0 ↔ n = 0 := neq (b := 0) (by omega) (by omega)
  refine G_aload_n (i := 0) hk dX5_swap_0 rfl rfl ?_
  refine G_get hk fX5_12 dX5_swap_1 (by assumption) (by rfl) (by first | decide | omega) ?_
  refine G_iload_n (i := 1) hk dX5_swap_4 rfl rfl ?_
  refine G_cVi hk (c_X1_isPair l V ad E 1 n π R hB r) mX1_isPair vX1_isPair kX5_116 dX5_swap_5 (by assumption) (by rfl) (by first | decide | omega) rfl (by decide) (by decide) rfl (Nat.le_of_ble_eq_true rfl) (fun r_5 E_5 h_5 => ?_)
  obtain ⟨rfl, rfl⟩ := h_5
  refine G_if_ne (tgt := 13) hk dX5_swap_8 (by decide) (fun c_8 => ?_) (fun c_8 => ?_)
  · try simp only [gB_ne, gB_eq, Decidable.not_not] at c_8
    have hn1 : nI n - 1 = nI (n - 1) := pk_sub (b := 1) (Nat.pos_of_ne_zero (fun q => by
      subst q
      have := c_8
      exact absurd (Int32.le_trans this.1 (Int32.le_of_lt this.2)) (by decide)))
    have hc2 := c_8.2
    rw [hn1] at hc2
    obtain ⟨j, hj, rfl⟩ := gIx (Int32.not_lt.mpr c_8.1) hc2 (by omega)
    have hix : ix (nI j) = j := ix_nI (by omega)
    refine G_aload_n (i := 0) hk dX5_swap_13 rfl rfl ?_
    refine G_get hk fX5_12 dX5_swap_14 (by assumption) (by rfl) (by first | decide | omega) ?_
    refine G_iload_n (i := 1) hk dX5_swap_17 rfl rfl ?_
    refine G_cVv hk (c_X1_changePlaces l V ad E 1 n π R hB j (by omega)) mX1_changePlaces vX1_changePlaces kX5_119 dX5_swap_18 (by assumption) (by rfl) (by first | decide | omega) rfl (by decide) (by decide) rfl (Nat.le_of_ble_eq_true rfl) (fun E_18 h_18 => ?_)
    have hM := h_18
    obtain ⟨R2', hC2, hR2⟩ := hC.bk h_18
    refine G_iload_n (i := 1) hk dX5_swap_21 rfl rfl ?_
    refine G_iret hk dX5_swap_22 ?_
    exact ⟨by unfold vSwap; (try first | rw [if_pos c_8] | rw [if_neg c_8]), by unfold rSwap; rw [if_pos c_8, hix]; exact ⟨R2', hC2, hR2⟩, fr.bk hM (by omega)⟩
  · try simp only [gB_ne, gB_eq, Decidable.not_not] at c_8
    refine G_iconst (v := (-1)) hk dX5_swap_11 (by decide) ?_
    refine G_iret hk dX5_swap_12 ?_
    exact ⟨by unfold vSwap; (try first | rw [if_pos c_8] | rw [if_neg c_8]), by unfold rSwap; rw [if_neg c_8]; exact ⟨R, hC, fun _ _ => rfl⟩, fr.rf⟩

set_option maxHeartbeats 4000000 in
set_option maxRecDepth 100000 in
theorem c_X5_winner (l : Launch) (V : gV) (ad : Nat → Nat) (E : Nat → va_E) (n rd : Nat) (R : Nat → Nat → Int32) (rp rw : Nat → Int32) (tr fa : Int32) (la : Nat → Int32) (sz : Nat → Nat) (cl : Nat → Nat → Int32) (hC : cR V ad E (n, R, rd, rp, rw, tr, fa, la, sz, cl)) (x : Int32) : Ct l V ad 44 44 yX5_winner cX5_winner 2 (some .int) { frames := 2, cells := 0, slots := 0, locals := 43 } [.ref (ad 0), .int x] E (pI ad (fun v E2 => v = vWinner n R x ∧ cR V ad E2 (n, R, rd, rp, rw, tr, fa, la, sz, cl) ∧ fr E E2)) := by
  refine gCt mX5_winner (Nat.le_of_ble_eq_true rfl) ?_
  intro K hk
  obtain ⟨h0, ⟨π, hB⟩, ⟨dn, wo, dl, hA⟩, ⟨n2, π2, R2, hB2⟩, ⟨dn2, wo2, dl2, hA2⟩, h3, h4, h5, h6, h7⟩ := id hC
  obtain ⟨b0, b1, b2, b3, b4, b5, -⟩ := id hB
  obtain ⟨a0, a1⟩ := id hA
  have hn0 : nI n = 0 ↔ n = 0 := neq (b := 0) (by omega) (by omega)
  refine G_iload_n (i := 1) hk dX5_winner_0 rfl rfl ?_
  refine G_cSi hk (c_X5_isPoint l V ad E x) mX5_isPoint sX5_isPoint kX5_122 dX5_winner_1 rfl (by decide) (by decide) rfl (Nat.le_of_ble_eq_true rfl) (fun r_1 E_1 h_1 => ?_)
  obtain ⟨rfl, rfl⟩ := h_1
  refine G_if_ne (tgt := 10) hk dX5_winner_4 (by decide) (fun c_4 => ?_) (fun c_4 => ?_)
  · try simp only [gB_ne, gB_eq, Decidable.not_not] at c_4
    refine G_aload_n (i := 0) hk dX5_winner_10 rfl rfl ?_
    refine G_get hk fX5_12 dX5_winner_11 (by assumption) (by rfl) (by first | decide | omega) ?_
    refine G_get hk fX5_71 dX5_winner_14 (by assumption) (by rfl) (by first | decide | omega) ?_
    refine G_if_ne (tgt := 23) hk dX5_winner_17 (by decide) (fun c_17 => ?_) (fun c_17 => ?_)
    · try simp only [gB_ne, gB_eq, Decidable.not_not] at c_17
      have hn : ¬ n = 0 := fun q => c_17 (hn0.mpr q)
      refine G_aload_n (i := 0) hk dX5_winner_23 rfl rfl ?_
      refine G_get hk fX5_12 dX5_winner_24 (by assumption) (by rfl) (by first | decide | omega) ?_
      refine G_iload_n (i := 1) hk dX5_winner_27 rfl rfl ?_
      refine G_cVi hk (c_X1_winnerOf l V ad E 1 n π R hB x) mX1_winnerOf vX1_winnerOf kX5_125 dX5_winner_28 (by assumption) (by rfl) (by first | decide | omega) rfl (by decide) (by decide) rfl (Nat.le_of_ble_eq_true rfl) (fun r_28 E_28 h_28 => ?_)
      obtain ⟨rfl, rfl⟩ := h_28
      refine G_iret hk dX5_winner_31 ?_
      exact ⟨by unfold vWinner; (try first | rw [if_pos c_4] | rw [if_neg c_4]); (try first | rw [if_pos c_17] | rw [if_neg c_17]); (try first | rw [if_pos hn] | rw [if_neg hn]), hC, fr.rf⟩
    · try simp only [gB_ne, gB_eq, Decidable.not_not] at c_17
      have hn : n = 0 := hn0.mp (by first | exact c_17 | exact Decidable.not_not.mp c_17)
      refine G_bipush (v := (-3)) hk dX5_winner_20 (by decide) ?_
      refine G_iret hk dX5_winner_22 ?_
      exact ⟨by unfold vWinner; (try first | rw [if_pos c_4] | rw [if_neg c_4]); (try first | rw [if_pos c_17] | rw [if_neg c_17]); (try first | rw [if_pos hn] | rw [if_neg hn]), hC, fr.rf⟩
  · try simp only [gB_ne, gB_eq, Decidable.not_not] at c_4
    refine G_bipush (v := (-2)) hk dX5_winner_7 (by decide) ?_
    refine G_iret hk dX5_winner_9 ?_
    exact ⟨by unfold vWinner; (try first | rw [if_pos c_4] | rw [if_neg c_4]); (try first | rw [if_pos hn] | rw [if_neg hn]), hC, fr.rf⟩
