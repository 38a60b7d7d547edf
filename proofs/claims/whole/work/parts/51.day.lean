set_option maxHeartbeats 4000000 in
set_option maxRecDepth 100000 in
theorem c_X5_isAct (l : Launch) (V : gV) (ad : Nat → Nat) (E : Nat → va_E) (a s : Int32) : Ct l V ad 44 44 yX5_isAct cX5_isAct 2 (some .boolean) { frames := 1, cells := 0, slots := 0, locals := 22 } [.int a, .int s] E (pI ad (pS E (gB (sIsA a s = true)))) := by
  refine gCt mX5_isAct (Nat.le_of_ble_eq_true rfl) ?_
  intro K hk
  refine G_iload_n (i := 1) hk dX5_isAct_0 rfl rfl ?_
  refine G_iconst (v := 0) hk dX5_isAct_1 (by decide) ?_
  refine G_bipush (v := 6) hk dX5_isAct_2 (by decide) ?_
  refine G_cSi hk (c_X5_isIn l V ad E s 0 6) mX5_isIn sX5_isIn kX5_43 dX5_isAct_4 rfl (by decide) (by decide) rfl (Nat.le_of_ble_eq_true rfl) (fun r_4 E_4 h_4 => ?_)
  obtain ⟨rfl, rfl⟩ := h_4
  refine G_if_eq (tgt := 18) hk dX5_isAct_7 (by decide) (fun c_7 => ?_) (fun c_7 => ?_)
  · try simp only [gB_ne, gB_eq, Decidable.not_not] at c_7
    refine G_iload_n (i := 1) hk dX5_isAct_18 rfl rfl ?_
    refine G_bipush (v := 10) hk dX5_isAct_19 (by decide) ?_
    refine G_bipush (v := 16) hk dX5_isAct_21 (by decide) ?_
    refine G_cSi hk (c_X5_isIn l V ad E s 10 16) mX5_isIn sX5_isIn kX5_43 dX5_isAct_23 rfl (by decide) (by decide) rfl (Nat.le_of_ble_eq_true rfl) (fun r_23 E_23 h_23 => ?_)
    obtain ⟨rfl, rfl⟩ := h_23
    refine G_if_eq (tgt := 39) hk dX5_isAct_26 (by decide) (fun c_26 => ?_) (fun c_26 => ?_)
    · try simp only [gB_ne, gB_eq, Decidable.not_not] at c_26
      refine G_iload_n (i := 1) hk dX5_isAct_39 rfl rfl ?_
      refine G_bipush (v := 20) hk dX5_isAct_40 (by decide) ?_
      refine G_icmp_ne (tgt := 58) hk dX5_isAct_42 (by decide) (fun c_42 => ?_) (fun c_42 => ?_)
      · try simp only [gB_ne, gB_eq, Decidable.not_not] at c_42
        refine G_iconst (v := 0) hk dX5_isAct_58 (by decide) ?_
        refine G_zret hk dX5_isAct_59 (by first | rfl | exact gB_nar _) ?_
        exact ⟨rfl, by unfold sIsA; rw [if_neg c_7, if_neg c_26]; first | exact (gB_t (decide_eq_true ⟨c_42, c_51⟩)).symm | exact (gB_t (decide_eq_true ⟨Decidable.not_not.mp c_42, c_51⟩)).symm | exact (gB_f (fun z => c_51 (of_decide_eq_true z).2)).symm | exact (gB_f (fun z => c_42 (of_decide_eq_true z).1)).symm⟩
      · try simp only [gB_ne, gB_eq, Decidable.not_not] at c_42
        refine G_iload_n (i := 0) hk dX5_isAct_45 rfl rfl ?_
        refine G_iconst (v := 0) hk dX5_isAct_46 (by decide) ?_
        refine G_iconst (v := 5) hk dX5_isAct_47 (by decide) ?_
        refine G_cSi hk (c_X5_isIn l V ad E a 0 5) mX5_isIn sX5_isIn kX5_43 dX5_isAct_48 rfl (by decide) (by decide) rfl (Nat.le_of_ble_eq_true rfl) (fun r_48 E_48 h_48 => ?_)
        obtain ⟨rfl, rfl⟩ := h_48
        refine G_if_eq (tgt := 58) hk dX5_isAct_51 (by decide) (fun c_51 => ?_) (fun c_51 => ?_)
        · try simp only [gB_ne, gB_eq, Decidable.not_not] at c_51
          refine G_iconst (v := 0) hk dX5_isAct_58 (by decide) ?_
          refine G_zret hk dX5_isAct_59 (by first | rfl | exact gB_nar _) ?_
          exact ⟨rfl, by unfold sIsA; rw [if_neg c_7, if_neg c_26]; first | exact (gB_t (decide_eq_true ⟨c_42, c_51⟩)).symm | exact (gB_t (decide_eq_true ⟨Decidable.not_not.mp c_42, c_51⟩)).symm | exact (gB_f (fun z => c_51 (of_decide_eq_true z).2)).symm | exact (gB_f (fun z => c_42 (of_decide_eq_true z).1)).symm⟩
        · try simp only [gB_ne, gB_eq, Decidable.not_not] at c_51
          refine G_iconst (v := 1) hk dX5_isAct_54 (by decide) ?_
          refine G_goto (tgt := 59) hk dX5_isAct_55 (by decide) ?_
          refine G_zret hk dX5_isAct_59 (by first | rfl | exact gB_nar _) ?_
          exact ⟨rfl, by unfold sIsA; rw [if_neg c_7, if_neg c_26]; first | exact (gB_t (decide_eq_true ⟨c_42, c_51⟩)).symm | exact (gB_t (decide_eq_true ⟨Decidable.not_not.mp c_42, c_51⟩)).symm | exact (gB_f (fun z => c_51 (of_decide_eq_true z).2)).symm | exact (gB_f (fun z => c_42 (of_decide_eq_true z).1)).symm⟩
    · try simp only [gB_ne, gB_eq, Decidable.not_not] at c_26
      refine G_iload_n (i := 0) hk dX5_isAct_29 rfl rfl ?_
      refine G_if_ne (tgt := 37) hk dX5_isAct_30 (by decide) (fun c_30 => ?_) (fun c_30 => ?_)
      · try simp only [gB_ne, gB_eq, Decidable.not_not] at c_30
        refine G_iconst (v := 0) hk dX5_isAct_37 (by decide) ?_
        refine G_zret hk dX5_isAct_38 (by first | rfl | exact gB_nar _) ?_
        exact ⟨rfl, by unfold sIsA; rw [if_neg c_7, if_pos c_26]; first | exact (gB_t (decide_eq_true c_30)).symm | exact (gB_t (decide_eq_true (Decidable.not_not.mp c_30))).symm | exact (gB_f (by simpa using c_30)).symm⟩
      · try simp only [gB_ne, gB_eq, Decidable.not_not] at c_30
        refine G_iconst (v := 1) hk dX5_isAct_33 (by decide) ?_
        refine G_goto (tgt := 38) hk dX5_isAct_34 (by decide) ?_
        refine G_zret hk dX5_isAct_38 (by first | rfl | exact gB_nar _) ?_
        exact ⟨rfl, by unfold sIsA; rw [if_neg c_7, if_pos c_26]; first | exact (gB_t (decide_eq_true c_30)).symm | exact (gB_t (decide_eq_true (Decidable.not_not.mp c_30))).symm | exact (gB_f (by simpa using c_30)).symm⟩
  · try simp only [gB_ne, gB_eq, Decidable.not_not] at c_7
    refine G_iload_n (i := 0) hk dX5_isAct_10 rfl rfl ?_
    refine G_iconst (v := 1) hk dX5_isAct_11 (by decide) ?_
    refine G_bipush (v := 9) hk dX5_isAct_12 (by decide) ?_
    refine G_cSi hk (c_X5_isIn l V ad E a 1 9) mX5_isIn sX5_isIn kX5_43 dX5_isAct_14 rfl (by decide) (by decide) rfl (Nat.le_of_ble_eq_true rfl) (fun r_14 E_14 h_14 => ?_)
    obtain ⟨rfl, rfl⟩ := h_14
    refine G_zret hk dX5_isAct_17 (by first | rfl | exact gB_nar _) ?_
    exact ⟨rfl, by unfold sIsA; rw [if_pos c_7]; exact gB_c (by simp)⟩

set_option maxHeartbeats 4000000 in
set_option maxRecDepth 100000 in
theorem lp_X5_areActs {l : Launch} {V : gV} {ad : Nat → Nat} {K : gX} (hk : gOk l { frames := 2, cells := 0, slots := 0, locals := 43 } K V cX5_areActs 4 RX5 (some .boolean) yX5_areActs.name) (E : Nat → va_E) (p : Nat) (hp : p + 1 < 44) (la : Int32) (sz : Nat) (hsz : sz ≤ 60) (cl : Nat → Int32) (hE : E p = wC ad p la (nI sz)) (hE1 : E (p + 1) = gI V 60 cl) (i m : Nat) (him : i + 2 * m ≤ sz) : ∀ (k q : Nat), m < q + k → q ≤ m → fa_cnt (sNoA (fun a => cl (i + a))) q = 0 → G K V 4 (gQ K V 44 0 0 (pI ad (pS E (gB (sAllA (fun a => cl (i + a)) m = true))))) ad 44 0 0 2 [(0, .ref (ad p)), (1, .int (nI i)), (2, .int (nI m)), (3, .int (nI q))] [] E := by
  intro k
  induction k with
  | zero => intro q hq; omega
  | succ k ih =>
    intro q hq hqm hc
    refine G_iload_n (i := 3) hk dX5_areActs_2 rfl rfl ?_
    refine G_iload_n (i := 2) hk dX5_areActs_3 rfl rfl ?_
    refine G_icmp_ge (tgt := 41) hk dX5_areActs_4 (by decide) (fun c_4 => ?_) (fun c_4 => ?_)
    · try simp only [gB_ne, gB_eq, Decidable.not_not] at c_4
      have hge : m ≤ q := (nle (by omega) (by omega)).mp c_4
      have hqe : q = m := by omega
      subst hqe
      refine G_iconst (v := 1) hk dX5_areActs_41 (by decide) ?_
      refine G_zret hk dX5_areActs_42 (by first | rfl | exact gB_nar _) ?_
      exact ⟨rfl, (gB_t (decide_eq_true hc)).symm⟩
    · try simp only [gB_ne, gB_eq, Decidable.not_not] at c_4
      have hlt : q < m := Nat.lt_of_not_le (fun z => c_4 ((nle (by omega) (by omega)).mpr z))
      have ha1 : nI i + 2 * nI q = nI (i + 2 * q) := by rw [show (2 : Int32) = nI 2 from rfl, pk_mul, nI_add]
      have ha2 : nI (i + 2 * q) + 1 = nI (i + (2 * q + 1)) := nI_add _ 1
      refine G_aload_n (i := 0) hk dX5_areActs_7 rfl rfl ?_
      refine G_iload_n (i := 1) hk dX5_areActs_8 rfl rfl ?_
      refine G_iconst (v := 2) hk dX5_areActs_9 (by decide) ?_
      refine G_iload_n (i := 3) hk dX5_areActs_10 rfl rfl ?_
      refine G_imul hk dX5_areActs_11 ?_
      refine G_iadd hk dX5_areActs_12 ?_
      rw [ha1]
      refine G_cVi hk (c_X2_read l V ad E p hp la sz hsz cl hE hE1 (i + 2 * q) (by omega)) mX2_read vX2_read kX5_208 dX5_areActs_13 (by assumption) (by rfl) (by first | decide | omega) rfl (by decide) (by decide) rfl (Nat.le_of_ble_eq_true rfl) (fun r_13 E_13 h_13 => ?_)
      obtain ⟨rfl, rfl⟩ := h_13
      refine G_aload_n (i := 0) hk dX5_areActs_16 rfl rfl ?_
      refine G_iload_n (i := 1) hk dX5_areActs_17 rfl rfl ?_
      refine G_iconst (v := 2) hk dX5_areActs_18 (by decide) ?_
      refine G_iload_n (i := 3) hk dX5_areActs_19 rfl rfl ?_
      refine G_imul hk dX5_areActs_20 ?_
      refine G_iadd hk dX5_areActs_21 ?_
      rw [ha1]
      refine G_iconst (v := 1) hk dX5_areActs_22 (by decide) ?_
      refine G_iadd hk dX5_areActs_23 ?_
      rw [ha2]
      refine G_cVi hk (c_X2_read l V ad E p hp la sz hsz cl hE hE1 (i + (2 * q + 1)) (by omega)) mX2_read vX2_read kX5_208 dX5_areActs_24 (by assumption) (by rfl) (by first | decide | omega) rfl (by decide) (by decide) rfl (Nat.le_of_ble_eq_true rfl) (fun r_24 E_24 h_24 => ?_)
      obtain ⟨rfl, rfl⟩ := h_24
      refine G_cSi hk (c_X5_isAct l V ad E _ _) mX5_isAct sX5_isAct kX5_250 dX5_areActs_27 rfl (by decide) (by decide) rfl (Nat.le_of_ble_eq_true rfl) (fun r_27 E_27 h_27 => ?_)
      obtain ⟨rfl, rfl⟩ := h_27
      refine G_if_ne (tgt := 35) hk dX5_areActs_30 (by decide) (fun c_30 => ?_) (fun c_30 => ?_)
      · try simp only [gB_ne, gB_eq, Decidable.not_not] at c_30
        refine G_iinc (v := nI (q + 1)) hk dX5_areActs_35 rfl (nI_inc q) (by decide) rfl ?_
        refine G_goto (tgt := 2) hk dX5_areActs_38 (by decide) ?_
        exact G_lv (by exact And.intro rfl (And.intro rfl (And.intro rfl (And.intro rfl (trivial))))) (ih (q + 1) (by omega) (by omega) (by rw [fa_cnt_no (show sNoA (fun a => cl (i + a)) q = false by unfold sNoA; rw [c_30]; rfl)]; exact hc))
      · try simp only [gB_ne, gB_eq, Decidable.not_not] at c_30
        refine G_iconst (v := 0) hk dX5_areActs_33 (by decide) ?_
        refine G_zret hk dX5_areActs_34 (by first | rfl | exact gB_nar _) ?_
        refine ⟨rfl, (gB_f (fun z => ?_)).symm⟩
        have z1 := of_decide_eq_true z
        have hm := fa_cnt_mono (sNoA (fun a => cl (i + a))) (a := q + 1) (b := m) (by omega)
        rw [fa_cnt_yes (show sNoA (fun a => cl (i + a)) q = true by unfold sNoA; rw [Bool.eq_false_iff.mpr c_30]; rfl)] at hm
        omega

set_option maxHeartbeats 4000000 in
set_option maxRecDepth 100000 in
theorem c_X5_areActs (l : Launch) (V : gV) (ad : Nat → Nat) (E : Nat → va_E) (p : Nat) (hp : p + 1 < 44) (la : Int32) (sz : Nat) (hsz : sz ≤ 60) (cl : Nat → Int32) (hE : E p = wC ad p la (nI sz)) (hE1 : E (p + 1) = gI V 60 cl) (i m : Nat) (him : i + 2 * m ≤ sz) : Ct l V ad 44 44 yX5_areActs cX5_areActs 4 (some .boolean) { frames := 2, cells := 0, slots := 0, locals := 43 } [.ref (ad p), .int (nI i), .int (nI m)] E (pI ad (pS E (gB (sAllA (fun a => cl (i + a)) m = true)))) := by
  refine gCt mX5_areActs (Nat.le_of_ble_eq_true rfl) ?_
  intro K hk
  refine G_iconst (v := 0) hk dX5_areActs_0 (by decide) ?_
  refine G_istore_n (i := 3) hk dX5_areActs_1 rfl (by decide) rfl ?_
  exact G_lv (by exact And.intro rfl (And.intro rfl (And.intro rfl (And.intro rfl (trivial))))) (lp_X5_areActs hk E p hp la sz hsz cl hE hE1 i m him (m + 1) 0 (by omega) (by omega) rfl)

set_option maxHeartbeats 4000000 in
set_option maxRecDepth 100000 in
theorem c_X5_playAct (l : Launch) (V : gV) (ad : Nat → Nat) (E : Nat → va_E) (n rd : Nat) (R : Nat → Nat → Int32) (rp rw : Nat → Int32) (tr fa : Int32) (la : Nat → Int32) (sz : Nat → Nat) (cl : Nat → Nat → Int32) (hC : cR V ad E (n, R, rd, rp, rw, tr, fa, la, sz, cl)) (nd : Nat) (Rd : Nat → Nat → Int32) (hD : dayB V ad E nd Rd) (a s : Int32) : Ct l V ad 44 44 yX5_playAct cX5_playAct 3 (some .boolean) { frames := 2, cells := 0, slots := 0, locals := 44 } [.ref (ad 0), .int a, .int s] E (pI ad (fun v E2 => v = gB ((sAct nd Rd a s).isSome = true) ∧ cR V ad E2 (n, R, rd, rp, rw, tr, fa, la, sz, cl) ∧ fr E E2 ∧ dayB V ad E2 ((sAct nd Rd a s).getD (nd, Rd)).1 ((sAct nd Rd a s).getD (nd, Rd)).2)) := by
  refine gCt mX5_playAct (Nat.le_of_ble_eq_true rfl) ?_
  intro K hk
  obtain ⟨h0, ⟨π, hB⟩, ⟨dn, wo, dl, hA⟩, ⟨n2, π2, R2, hB2⟩, ⟨dn2, wo2, dl2, hA2⟩, h3, h4, h5, h6, h7⟩ := id hC
  obtain ⟨b0, b1, b2, b3, b4, b5, -⟩ := id hB
  obtain ⟨a0, a1⟩ := id hA
  have hn0 : nI n = 0 ↔ n = 0 := neq (b := 0) (by omega) (by omega)
  obtain ⟨πd, R1, hBd, hR1⟩ := id hD
  obtain ⟨d0, d1, d2, d3, d4, d5, -⟩ := id hBd
  have hnd1 : nI nd = 1 ↔ nd = 1 := neq (b := 1) (by omega) (by omega)
  refine G_iload_n (i := 2) hk dX5_playAct_0 rfl rfl ?_
  refine G_bipush (v := 20) hk dX5_playAct_1 (by decide) ?_
  refine G_icmp_ne (tgt := 29) hk dX5_playAct_3 (by decide) (fun c_3 => ?_) (fun c_3 => ?_)
  · try simp only [gB_ne, gB_eq, Decidable.not_not] at c_3
    refine G_iload_n (i := 2) hk dX5_playAct_29 rfl rfl ?_
    refine G_bipush (v := 10) hk dX5_playAct_30 (by decide) ?_
    refine G_icmp_lt (tgt := 75) hk dX5_playAct_32 (by decide) (fun c_32 => ?_) (fun c_32 => ?_)
    · try simp only [gB_ne, gB_eq, Decidable.not_not] at c_32
      have h10 : ¬ 10 ≤ s := Int32.not_le.mpr c_32
      refine G_aload_n (i := 0) hk dX5_playAct_75 rfl rfl ?_
      refine G_get hk fX5_18 dX5_playAct_76 (by assumption) (by rfl) (by first | decide | omega) ?_
      refine G_iload_n (i := 2) hk dX5_playAct_79 rfl rfl ?_
      refine G_cVi hk (c_X1_isRule l V ad E 12 nd πd R1 hBd s) mX1_isRule vX1_isRule kX5_74 dX5_playAct_80 (by assumption) (by rfl) (by first | decide | omega) rfl (by decide) (by decide) rfl (Nat.le_of_ble_eq_true rfl) (fun r_80 E_80 h_80 => ?_)
      obtain ⟨rfl, rfl⟩ := h_80
      refine G_if_ne (tgt := 88) hk dX5_playAct_83 (by decide) (fun c_83 => ?_) (fun c_83 => ?_)
      · try simp only [gB_ne, gB_eq, Decidable.not_not] at c_83
        obtain ⟨j, hj, rfl⟩ := gIx (Int32.not_lt.mpr c_83.1) c_83.2 (by omega)
        have hix : ix (nI j) = j := ix_nI (by omega)
        have pj := d4 j (by omega)
        have bj := d2 j (by omega)
        refine G_aload_n (i := 0) hk dX5_playAct_88 rfl rfl ?_
        refine G_get hk fX5_18 dX5_playAct_89 (by assumption) (by rfl) (by first | decide | omega) ?_
        refine G_get hk fX5_77 dX5_playAct_92 (by assumption) (by rfl) (by first | decide | omega) ?_
        refine G_iload_n (i := 2) hk dX5_playAct_95 rfl rfl ?_
        refine G_aaldRlX (j := j) hk dX5_playAct_96 (by assumption) rfl (by omega) (by decide) (by rfl) (by first | decide | omega) ?_
        refine G_iload_n (i := 1) hk dX5_playAct_97 rfl rfl ?_
        refine G_put hk fX5_89 iX3_2 dX5_playAct_98 bj (Nat.le_of_ble_eq_true rfl) (by first | decide | omega) ?_
        refine G_E (E2 := va_up E (12 + 4 + πd j) (rC (sNum (R1 j) a))) rfl ?_
        refine G_iconst (v := 1) hk dX5_playAct_101 (by decide) ?_
        refine G_zret hk dX5_playAct_102 (by first | rfl | exact gB_nar _) ?_
        have e : sAct nd Rd a (nI j) = some (nd, sNumAt Rd j a) := by unfold sAct; rw [if_neg c_3, if_neg h10, if_pos c_83, hix]
        have hBx := hBd.rule (show j < 7 by omega) (sNum (R1 j) a)
        have hM : bkM V ad 12 E (va_up E (12 + 4 + πd j) (rC (sNum (R1 j) a))) nd (sNumAt R1 j a) := by
          refine ⟨⟨πd, _, hBx, fun i hi => ?_⟩, va_up_ne _ _ (by omega), va_up_ne _ _ (by omega), fun q hq => va_up_ne _ _ (by omega)⟩
          unfold sNumAt
          by_cases hij : i = j
          · subst hij
            rw [if_pos rfl]
          · rw [if_neg hij, if_neg hij]
        refine ⟨by rw [e]; rfl, hC.bkD hM, fr.bk hM (by omega), by rw [e]; exact hM.dayB (sNumAt_cong hR1)⟩
      · try simp only [gB_ne, gB_eq, Decidable.not_not] at c_83
        refine G_iconst (v := 0) hk dX5_playAct_86 (by decide) ?_
        refine G_zret hk dX5_playAct_87 (by first | rfl | exact gB_nar _) ?_
        have e : sAct nd Rd a s = none := by unfold sAct; rw [if_neg c_3, if_neg h10, if_neg c_83]
        refine ⟨by rw [e]; rfl, hC, fr.rf, by rw [e]; exact hD⟩
    · try simp only [gB_ne, gB_eq, Decidable.not_not] at c_32
      have h10 : 10 ≤ s := Int32.not_lt.mp c_32
      refine G_aload_n (i := 0) hk dX5_playAct_35 rfl rfl ?_
      refine G_get hk fX5_18 dX5_playAct_36 (by assumption) (by rfl) (by first | decide | omega) ?_
      refine G_iload_n (i := 2) hk dX5_playAct_39 rfl rfl ?_
      refine G_bipush (v := 10) hk dX5_playAct_40 (by decide) ?_
      refine G_isub hk dX5_playAct_42 ?_
      refine G_cVi hk (c_X1_isRule l V ad E 12 nd πd R1 hBd (s - 10)) mX1_isRule vX1_isRule kX5_74 dX5_playAct_43 (by assumption) (by rfl) (by first | decide | omega) rfl (by decide) (by decide) rfl (Nat.le_of_ble_eq_true rfl) (fun r_43 E_43 h_43 => ?_)
      obtain ⟨rfl, rfl⟩ := h_43
      refine G_if_eq (tgt := 60) hk dX5_playAct_46 (by decide) (fun c_46 => ?_) (fun c_46 => ?_)
      · try simp only [gB_ne, gB_eq, Decidable.not_not] at c_46
        refine G_iconst (v := 0) hk dX5_playAct_60 (by decide) ?_
        refine G_zret hk dX5_playAct_61 (by first | rfl | exact gB_nar _) ?_
        have e : sAct nd Rd a s = none := by unfold sAct; rw [if_neg c_3, if_pos h10, if_neg (fun z => c_46 z.1)]
        refine ⟨by rw [e]; rfl, hC, fr.rf, by rw [e]; exact hD⟩
      · try simp only [gB_ne, gB_eq, Decidable.not_not] at c_46
        refine G_aload_n (i := 0) hk dX5_playAct_49 rfl rfl ?_
        refine G_get hk fX5_18 dX5_playAct_50 (by assumption) (by rfl) (by first | decide | omega) ?_
        refine G_get hk fX5_71 dX5_playAct_53 (by assumption) (by rfl) (by first | decide | omega) ?_
        refine G_iconst (v := 1) hk dX5_playAct_56 (by decide) ?_
        refine G_icmp_ne (tgt := 62) hk dX5_playAct_57 (by decide) (fun c_57 => ?_) (fun c_57 => ?_)
        · try simp only [gB_ne, gB_eq, Decidable.not_not] at c_57
          have h1 : ¬ nd = 1 := fun q => c_57 (hnd1.mpr q)
          obtain ⟨j, hj, ej⟩ := gIx (Int32.not_lt.mpr c_46.1) c_46.2 (by omega)
          have hix : ix (nI j) = j := ix_nI (by omega)
          refine G_aload_n (i := 0) hk dX5_playAct_62 rfl rfl ?_
          refine G_get hk fX5_18 dX5_playAct_63 (by assumption) (by rfl) (by first | decide | omega) ?_
          refine G_iload_n (i := 2) hk dX5_playAct_66 rfl rfl ?_
          refine G_bipush (v := 10) hk dX5_playAct_67 (by decide) ?_
          refine G_isub hk dX5_playAct_69 ?_
          rw [ej]
          refine G_cVv hk (c_X1_takeAway l V ad E 12 nd πd R1 hBd j hj) mX1_takeAway vX1_takeAway kX5_113 dX5_playAct_70 (by assumption) (by rfl) (by first | decide | omega) rfl (by decide) (by decide) rfl (Nat.le_of_ble_eq_true rfl) (fun E_70 h_70 => ?_)
          have hM := h_70
          refine G_iconst (v := 1) hk dX5_playAct_73 (by decide) ?_
          refine G_zret hk dX5_playAct_74 (by first | rfl | exact gB_nar _) ?_
          have e : sAct nd Rd a s = some (nd - 1, sDel Rd j) := by unfold sAct; rw [if_neg c_3, if_pos h10, if_pos (show (0 ≤ s - 10 ∧ s - 10 < nI nd) ∧ nd ≠ 1 from ⟨c_46, h1⟩), ej, hix]
          refine ⟨by rw [e]; rfl, hC.bkD hM, fr.bk hM (by omega), by rw [e]; exact hM.dayB (sDel_cong hR1)⟩
        · try simp only [gB_ne, gB_eq, Decidable.not_not] at c_57
          have h1 : nd = 1 := hnd1.mp (by first | exact c_57 | exact Decidable.not_not.mp c_57)
          refine G_iconst (v := 0) hk dX5_playAct_60 (by decide) ?_
          refine G_zret hk dX5_playAct_61 (by first | rfl | exact gB_nar _) ?_
          have e : sAct nd Rd a s = none := by unfold sAct; rw [if_neg c_3, if_pos h10, if_neg (fun z => z.2 h1)]
          refine ⟨by rw [e]; rfl, hC, fr.rf, by rw [e]; exact hD⟩
  · try simp only [gB_ne, gB_eq, Decidable.not_not] at c_3
    have c_3 : s = 20 := by first | exact c_3 | exact Decidable.not_not.mp c_3
    refine G_aload_n (i := 0) hk dX5_playAct_6 rfl rfl ?_
    refine G_get hk fX5_18 dX5_playAct_7 (by assumption) (by rfl) (by first | decide | omega) ?_
    refine G_iload_n (i := 1) hk dX5_playAct_10 rfl rfl ?_
    refine G_cVi hk (c_X1_isPair l V ad E 12 nd πd R1 hBd a) mX1_isPair vX1_isPair kX5_116 dX5_playAct_11 (by assumption) (by rfl) (by first | decide | omega) rfl (by decide) (by decide) rfl (Nat.le_of_ble_eq_true rfl) (fun r_11 E_11 h_11 => ?_)
    obtain ⟨rfl, rfl⟩ := h_11
    refine G_if_ne (tgt := 19) hk dX5_playAct_14 (by decide) (fun c_14 => ?_) (fun c_14 => ?_)
    · try simp only [gB_ne, gB_eq, Decidable.not_not] at c_14
      have hn1 : nI nd - 1 = nI (nd - 1) := pk_sub (b := 1) (Nat.pos_of_ne_zero (fun q => by
        subst q
        have := c_14
        exact absurd (Int32.le_trans this.1 (Int32.le_of_lt this.2)) (by decide)))
      have hc2 := c_14.2
      rw [hn1] at hc2
      obtain ⟨j, hj, rfl⟩ := gIx (Int32.not_lt.mpr c_14.1) hc2 (by omega)
      have hix : ix (nI j) = j := ix_nI (by omega)
      refine G_aload_n (i := 0) hk dX5_playAct_19 rfl rfl ?_
      refine G_get hk fX5_18 dX5_playAct_20 (by assumption) (by rfl) (by first | decide | omega) ?_
      refine G_iload_n (i := 1) hk dX5_playAct_23 rfl rfl ?_
      refine G_cVv hk (c_X1_changePlaces l V ad E 12 nd πd R1 hBd j (by omega)) mX1_changePlaces vX1_changePlaces kX5_119 dX5_playAct_24 (by assumption) (by rfl) (by first | decide | omega) rfl (by decide) (by decide) rfl (Nat.le_of_ble_eq_true rfl) (fun E_24 h_24 => ?_)
      have hM := h_24
      refine G_iconst (v := 1) hk dX5_playAct_27 (by decide) ?_
      refine G_zret hk dX5_playAct_28 (by first | rfl | exact gB_nar _) ?_
      have e : sAct nd Rd (nI j) s = some (nd, sSwap Rd j) := by unfold sAct; rw [if_pos c_3, if_pos c_14, hix]
      refine ⟨by rw [e]; rfl, hC.bkD hM, fr.bk hM (by omega), by rw [e]; exact hM.dayB (sSwap_cong hR1 (by omega))⟩
    · try simp only [gB_ne, gB_eq, Decidable.not_not] at c_14
      refine G_iconst (v := 0) hk dX5_playAct_17 (by decide) ?_
      refine G_zret hk dX5_playAct_18 (by first | rfl | exact gB_nar _) ?_
      have e : sAct nd Rd a s = none := by unfold sAct; rw [if_pos c_3, if_neg c_14]
      refine ⟨by rw [e]; rfl, hC, fr.rf, by rw [e]; exact hD⟩

set_option maxHeartbeats 4000000 in
set_option maxRecDepth 100000 in
theorem lp_X5_playDay {l : Launch} {V : gV} {ad : Nat → Nat} {K : gX} (hk : gOk l { frames := 3, cells := 0, slots := 0, locals := 66 } K V cX5_playDay 5 RX5 (some .int) yX5_playDay.name) (E0 : Nat → va_E) (n rd : Nat) (R : Nat → Nat → Int32) (rp rw : Nat → Int32) (tr fa : Int32) (la : Nat → Int32) (sz : Nat → Nat) (cl : Nat → Nat → Int32) (j : Nat) (hj : j < 4) (i m : Nat) (him : i + 2 * m ≤ sz j) (F : Int32 × Nat × (Nat → Nat → Int32)) : ∀ (k q : Nat) (nd : Nat) (Rd : Nat → Nat → Int32) (E : Nat → va_E), q + k = m → cR V ad E (n, R, rd, rp, rw, tr, fa, la, sz, cl) → fr E0 E → dayB V ad E nd Rd → F = sPlay (fun a => cl j (i + a)) k q nd Rd → G K V 5 (gQ K V 44 0 0 (pI ad (fun v E2 => v = F.1 ∧ cR V ad E2 (n, R, rd, rp, rw, tr, fa, la, sz, cl) ∧ fr E0 E2 ∧ dayB V ad E2 F.2.1 F.2.2))) ad 44 0 0 3 [(0, .ref (ad 0)), (1, .ref (ad (26 + 2 * j))), (2, .int (nI i)), (3, .int (nI m)), (4, .int (nI q))] [] E := by
  intro k
  induction k with
  | zero =>
    intro q nd Rd E hq hC hfr hD hF
    obtain ⟨h0, -, -, -, -, -, -, -, h6, -⟩ := id hC
    have hsz := (h6 j hj).2.2
    subst hq
    refine G_iload hk dX5_playDay_3 rfl ?_
    refine G_iload_n (i := 3) hk dX5_playDay_5 rfl rfl ?_
    refine G_icmp_ge (tgt := 47) hk dX5_playDay_6 (by decide) (fun c_6 => ?_) (fun c_6 => ?_)
    · try simp only [gB_ne, gB_eq, Decidable.not_not] at c_6
      refine G_bipush (v := (-9)) hk dX5_playDay_47 (by decide) ?_
      refine G_iret hk dX5_playDay_49 ?_
      subst hF; exact ⟨rfl, hC, hfr, hD⟩
    · try simp only [gB_ne, gB_eq, Decidable.not_not] at c_6
      exact absurd (nI_le (by omega) (by omega)) c_6
  | succ k ih =>
    intro q nd Rd E hq hC hfr hD hF
    obtain ⟨h0, -, -, -, -, -, -, -, h6, -⟩ := id hC
    obtain ⟨s0j, s1j, s2j⟩ := h6 j hj
    refine G_iload hk dX5_playDay_3 rfl ?_
    refine G_iload_n (i := 3) hk dX5_playDay_5 rfl rfl ?_
    refine G_icmp_ge (tgt := 47) hk dX5_playDay_6 (by decide) (fun c_6 => ?_) (fun c_6 => ?_)
    · try simp only [gB_ne, gB_eq, Decidable.not_not] at c_6
      exact absurd ((nle (by omega) (by omega)).mp c_6) (by omega)
    · try simp only [gB_ne, gB_eq, Decidable.not_not] at c_6
      have ha1 : nI i + 2 * nI q = nI (i + 2 * q) := by rw [show (2 : Int32) = nI 2 from rfl, pk_mul, nI_add]
      have ha2 : nI (i + 2 * q) + 1 = nI (i + (2 * q + 1)) := nI_add _ 1
      refine G_aload_n (i := 0) hk dX5_playDay_9 rfl rfl ?_
      refine G_aload_n (i := 1) hk dX5_playDay_10 rfl rfl ?_
      refine G_iload_n (i := 2) hk dX5_playDay_11 rfl rfl ?_
      refine G_iconst (v := 2) hk dX5_playDay_12 (by decide) ?_
      refine G_iload hk dX5_playDay_13 rfl ?_
      refine G_imul hk dX5_playDay_15 ?_
      refine G_iadd hk dX5_playDay_16 ?_
      rw [ha1]
      refine G_cVi hk (c_X2_read l V ad E (26 + 2 * j) (by omega) (la j) (sz j) s2j (cl j) s0j s1j (i + 2 * q) (by omega)) mX2_read vX2_read kX5_208 dX5_playDay_17 (by assumption) (by rfl) (by first | decide | omega) rfl (by decide) (by decide) rfl (Nat.le_of_ble_eq_true rfl) (fun r_17 E_17 h_17 => ?_)
      obtain ⟨rfl, rfl⟩ := h_17
      refine G_aload_n (i := 1) hk dX5_playDay_20 rfl rfl ?_
      refine G_iload_n (i := 2) hk dX5_playDay_21 rfl rfl ?_
      refine G_iconst (v := 2) hk dX5_playDay_22 (by decide) ?_
      refine G_iload hk dX5_playDay_23 rfl ?_
      refine G_imul hk dX5_playDay_25 ?_
      refine G_iadd hk dX5_playDay_26 ?_
      rw [ha1]
      refine G_iconst (v := 1) hk dX5_playDay_27 (by decide) ?_
      refine G_iadd hk dX5_playDay_28 ?_
      rw [ha2]
      refine G_cVi hk (c_X2_read l V ad E (26 + 2 * j) (by omega) (la j) (sz j) s2j (cl j) s0j s1j (i + (2 * q + 1)) (by omega)) mX2_read vX2_read kX5_208 dX5_playDay_29 (by assumption) (by rfl) (by first | decide | omega) rfl (by decide) (by decide) rfl (Nat.le_of_ble_eq_true rfl) (fun r_29 E_29 h_29 => ?_)
      obtain ⟨rfl, rfl⟩ := h_29
      refine G_cVi hk (c_X5_playAct l V ad E n rd R rp rw tr fa la sz cl hC nd Rd hD _ _) mX5_playAct vX5_playAct kX5_253 dX5_playDay_32 (by assumption) (by rfl) (by first | decide | omega) rfl (by decide) (by decide) rfl (Nat.le_of_ble_eq_true rfl) (fun r_32 E_32 h_32 => ?_)
      obtain ⟨rfl, hC2, f2, hD2⟩ := h_32
      refine G_if_ne (tgt := 41) hk dX5_playDay_35 (by decide) (fun c_35 => ?_) (fun c_35 => ?_)
      · try simp only [gB_ne, gB_eq, Decidable.not_not] at c_35
        refine G_iinc (v := nI (q + 1)) hk dX5_playDay_41 rfl (nI_inc q) (by decide) rfl ?_
        refine G_goto (tgt := 3) hk dX5_playDay_44 (by decide) ?_
        obtain ⟨z, e⟩ := Option.isSome_iff_exists.mp c_35
        rw [e] at hD2
        exact G_lv (by exact And.intro rfl (And.intro rfl (And.intro rfl (And.intro rfl (And.intro rfl (trivial)))))) (ih (q + 1) z.1 z.2 _ (by omega) hC2 (hfr.tr f2) hD2 (by rw [hF, sPlay, e]))
      · try simp only [gB_ne, gB_eq, Decidable.not_not] at c_35
        refine G_iload hk dX5_playDay_38 rfl ?_
        refine G_iret hk dX5_playDay_40 ?_
        have e : sAct nd Rd (cl j (i + 2 * q)) (cl j (i + (2 * q + 1))) = none := by
          cases h : sAct nd Rd (cl j (i + 2 * q)) (cl j (i + (2 * q + 1))) with
          | none => rfl
          | some z => exact absurd (by rw [h]; rfl) c_35
        rw [e] at hD2
        have eF : F = (nI q, nd, Rd) := by rw [hF, sPlay, e]
        rw [eF]
        exact ⟨rfl, hC2, hfr.tr f2, hD2⟩
