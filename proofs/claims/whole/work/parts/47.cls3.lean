set_option maxHeartbeats 4000000 in
set_option maxRecDepth 100000 in
theorem lp_X5_greatestCommon {l : Launch} {V : gV} {ad : Nat → Nat} {K : gX} (hk : gOk l { frames := 1, cells := 0, slots := 0, locals := 60 } K V cX5_greatestCommon 6 RX5 (some .int) yX5_greatestCommon.name) (E : Nat → va_E) (g : Nat) (hg : 0 < g) : ∀ (k t a b : Nat), 26 < t + k → t ≤ 26 → b + t ≤ 26 → a ≤ 26 → Nat.gcd a b = g → G K V 6 (gQ K V 44 0 0 (pI ad (pS E (nI g)))) ad 44 0 0 7 [(2, .int (nI a)), (3, .int (nI b)), (4, .int (nI t))] [] E := by
  intro k
  induction k with
  | zero => intro t a b ht; omega
  | succ k ih =>
    intro t a b ht ht26 hbt ha hgc
    have hz : nI b = 0 ↔ b = 0 := neq (b := 0) (by omega) (by omega)
    refine G_iload hk dX5_greatestCommon_7 rfl ?_
    refine G_bipush (v := 26) hk dX5_greatestCommon_9 (by decide) ?_
    refine G_icmp_ge (tgt := 34) hk dX5_greatestCommon_11 (by decide) (fun c_11 => ?_) (fun c_11 => ?_)
    · try simp only [gB_ne, gB_eq, Decidable.not_not] at c_11
      have hge : 26 ≤ t := (nle (a := 26) (by omega) (by omega)).mp c_11
      have hb0 : b = 0 := by omega
      refine G_iload_n (i := 2) hk dX5_greatestCommon_34 rfl rfl ?_
      refine G_iconst (v := 1) hk dX5_greatestCommon_35 (by decide) ?_
      rw [hb0, Nat.gcd_zero_right] at hgc
      subst hgc
      refine G_mmax hk jkX5_245 dX5_greatestCommon_36 (Nat.le_of_ble_eq_true rfl) (by decide) (by decide) ?_
      rw [show (if nI a < 1 then (1 : Int32) else nI a) = nI a from if_neg (fun z => absurd ((nlt (b := 1) (by omega) (by omega)).mp z) (by omega))]
      refine G_iret hk dX5_greatestCommon_39 ?_
      exact ⟨rfl, rfl⟩
    · try simp only [gB_ne, gB_eq, Decidable.not_not] at c_11
      have hlt : t < 26 := Nat.lt_of_not_le (fun z => c_11 ((nle (a := 26) (by omega) (by omega)).mpr z))
      refine G_iload_n (i := 3) hk dX5_greatestCommon_14 rfl rfl ?_
      refine G_if_eq (tgt := 34) hk dX5_greatestCommon_15 (by decide) (fun c_15 => ?_) (fun c_15 => ?_)
      · try simp only [gB_ne, gB_eq, Decidable.not_not] at c_15
        have hb0 : b = 0 := hz.mp c_15
        refine G_iload_n (i := 2) hk dX5_greatestCommon_34 rfl rfl ?_
        refine G_iconst (v := 1) hk dX5_greatestCommon_35 (by decide) ?_
        rw [hb0, Nat.gcd_zero_right] at hgc
        subst hgc
        refine G_mmax hk jkX5_245 dX5_greatestCommon_36 (Nat.le_of_ble_eq_true rfl) (by decide) (by decide) ?_
        rw [show (if nI a < 1 then (1 : Int32) else nI a) = nI a from if_neg (fun z => absurd ((nlt (b := 1) (by omega) (by omega)).mp z) (by omega))]
        refine G_iret hk dX5_greatestCommon_39 ?_
        exact ⟨rfl, rfl⟩
      · try simp only [gB_ne, gB_eq, Decidable.not_not] at c_15
        have hb0 : ¬ b = 0 := fun z => c_15 (hz.mpr z)
        have hmod : a % b < b := Nat.mod_lt _ (by omega)
        refine G_iload_n (i := 2) hk dX5_greatestCommon_18 rfl rfl ?_
        refine G_iload_n (i := 3) hk dX5_greatestCommon_19 rfl rfl ?_
        refine G_irem hk dX5_greatestCommon_20 c_15 ?_
        rw [pk_remN (by omega) (by omega) (by omega)]
        refine G_istore hk dX5_greatestCommon_21 (by decide) rfl ?_
        refine G_iload_n (i := 3) hk dX5_greatestCommon_23 rfl rfl ?_
        refine G_istore_n (i := 2) hk dX5_greatestCommon_24 rfl (by decide) rfl ?_
        refine G_iload hk dX5_greatestCommon_25 rfl ?_
        refine G_istore_n (i := 3) hk dX5_greatestCommon_27 rfl (by decide) rfl ?_
        refine G_iinc (v := nI (t + 1)) hk dX5_greatestCommon_28 rfl (nI_inc t) (by decide) rfl ?_
        refine G_goto (tgt := 7) hk dX5_greatestCommon_31 (by decide) ?_
        exact G_lv (by exact And.intro rfl (And.intro rfl (And.intro rfl (trivial)))) (ih (t + 1) b (a % b) (by omega) (by omega) (by omega) (by omega) (by rw [← hgc, Nat.gcd_comm a b, Nat.gcd_rec b a]; exact Nat.gcd_comm _ _))

set_option maxHeartbeats 4000000 in
set_option maxRecDepth 100000 in
theorem c_X5_greatestCommon (l : Launch) (V : gV) (ad : Nat → Nat) (E : Nat → va_E) (u : Nat) (hu : u ≤ 26) : Ct l V ad 44 44 yX5_greatestCommon cX5_greatestCommon 6 (some .int) { frames := 1, cells := 0, slots := 0, locals := 60 } [.int (nI u), .int 26] E (pI ad (pS E (nI (Nat.gcd u 26)))) := by
  refine gCt mX5_greatestCommon (Nat.le_of_ble_eq_true rfl) ?_
  intro K hk
  refine G_iload_n (i := 0) hk dX5_greatestCommon_0 rfl rfl ?_
  refine G_istore_n (i := 2) hk dX5_greatestCommon_1 rfl (by decide) rfl ?_
  refine G_iload_n (i := 1) hk dX5_greatestCommon_2 rfl rfl ?_
  refine G_istore_n (i := 3) hk dX5_greatestCommon_3 rfl (by decide) rfl ?_
  refine G_iconst (v := 0) hk dX5_greatestCommon_4 (by decide) ?_
  refine G_istore hk dX5_greatestCommon_5 (by decide) rfl ?_
  exact G_lv (by exact And.intro rfl (And.intro rfl (And.intro rfl (trivial)))) (lp_X5_greatestCommon hk E _ (Nat.gcd_pos_of_pos_right u (by omega)) 27 0 u 26 (by omega) (by omega) (by omega) (by omega) rfl)

set_option maxHeartbeats 4000000 in
set_option maxRecDepth 100000 in
theorem c_X5_odds (l : Launch) (V : gV) (ad : Nat → Nat) (E : Nat → va_E) (n rd : Nat) (R : Nat → Nat → Int32) (rp rw : Nat → Int32) (tr fa : Int32) (la : Nat → Int32) (sz : Nat → Nat) (cl : Nat → Nat → Int32) (hC : cR V ad E (n, R, rd, rp, rw, tr, fa, la, sz, cl)) (v w : Int32) : Ct l V ad 44 44 yX5_odds cX5_odds 5 (some .long) { frames := 4, cells := 0, slots := 0, locals := 94 } [.ref (ad 0), .int v, .int w] E (pJ ad (fun z E2 => z = vOdds n R v w ∧ cR V ad E2 (n, R, rd, rp, rw, tr, fa, la, sz, cl) ∧ fr E E2)) := by
  refine gCt mX5_odds (Nat.le_of_ble_eq_true rfl) ?_
  intro K hk
  obtain ⟨h0, ⟨π, hB⟩, ⟨dn, wo, dl, hA⟩, ⟨n2, π2, R2, hB2⟩, ⟨dn2, wo2, dl2, hA2⟩, h3, h4, h5, h6, h7⟩ := id hC
  obtain ⟨b0, b1, b2, b3, b4, b5, -⟩ := id hB
  obtain ⟨a0, a1⟩ := id hA
  have hn0 : nI n = 0 ↔ n = 0 := neq (b := 0) (by omega) (by omega)
  have hcw : sCw R n v ≤ 26 := fa_cnt_le _ 26
  have hgp : 0 < Nat.gcd (sCw R n v) 26 := Nat.gcd_pos_of_pos_right _ (by omega)
  have hgl : Nat.gcd (sCw R n v) 26 ≤ 26 := Nat.gcd_le_right _ (by omega)
  have hgz : ¬ nI (Nat.gcd (sCw R n v) 26) = 0 := fun z => absurd ((neq (b := 0) (by omega) (by omega)).mp z) (by omega)
  refine G_iload_n (i := 1) hk dX5_odds_0 rfl rfl ?_
  refine G_iconst (v := 0) hk dX5_odds_1 (by decide) ?_
  refine G_sipush (v := 200) hk dX5_odds_2 (by decide) ?_
  refine G_cSi hk (c_X5_isIn l V ad E v 0 200) mX5_isIn sX5_isIn kX5_43 dX5_odds_5 rfl (by decide) (by decide) rfl (Nat.le_of_ble_eq_true rfl) (fun r_5 E_5 h_5 => ?_)
  obtain ⟨rfl, rfl⟩ := h_5
  refine G_if_eq (tgt := 20) hk dX5_odds_8 (by decide) (fun c_8 => ?_) (fun c_8 => ?_)
  · try simp only [gB_ne, gB_eq, Decidable.not_not] at c_8
    refine G_ldc2 (v := sLost) hk jcX5_186 dX5_odds_20 ?_
    refine G_lret hk dX5_odds_23 ?_
    first | exact ⟨by unfold vOdds; rw [if_neg (fun z => c_8 z.1)], hC, fr.rf⟩ | exact ⟨by unfold vOdds; rw [if_neg (fun z => c_17 z.2)], hC, fr.rf⟩
  · try simp only [gB_ne, gB_eq, Decidable.not_not] at c_8
    refine G_iload_n (i := 2) hk dX5_odds_11 rfl rfl ?_
    refine G_iconst (v := 0) hk dX5_odds_12 (by decide) ?_
    refine G_iconst (v := 1) hk dX5_odds_13 (by decide) ?_
    refine G_cSi hk (c_X5_isIn l V ad E w 0 1) mX5_isIn sX5_isIn kX5_43 dX5_odds_14 rfl (by decide) (by decide) rfl (Nat.le_of_ble_eq_true rfl) (fun r_14 E_14 h_14 => ?_)
    obtain ⟨rfl, rfl⟩ := h_14
    refine G_if_ne (tgt := 24) hk dX5_odds_17 (by decide) (fun c_17 => ?_) (fun c_17 => ?_)
    · try simp only [gB_ne, gB_eq, Decidable.not_not] at c_17
      refine G_aload_n (i := 0) hk dX5_odds_24 rfl rfl ?_
      refine G_get hk fX5_12 dX5_odds_25 (by assumption) (by rfl) (by first | decide | omega) ?_
      refine G_get hk fX5_71 dX5_odds_28 (by assumption) (by rfl) (by first | decide | omega) ?_
      refine G_if_ne (tgt := 38) hk dX5_odds_31 (by decide) (fun c_31 => ?_) (fun c_31 => ?_)
      · try simp only [gB_ne, gB_eq, Decidable.not_not] at c_31
        have hn : ¬ n = 0 := fun q => c_31 (hn0.mpr q)
        refine G_aload_n (i := 0) hk dX5_odds_38 rfl rfl ?_
        refine G_get hk fX5_12 dX5_odds_39 (by assumption) (by rfl) (by first | decide | omega) ?_
        refine G_iload_n (i := 1) hk dX5_odds_42 rfl rfl ?_
        refine G_cVi hk (c_X1_countWorth l V ad E 1 n π R hB dn wo dl hA v) mX1_countWorth vX1_countWorth kX5_188 dX5_odds_43 (by assumption) (by rfl) (by first | decide | omega) rfl (by decide) (by decide) rfl (Nat.le_of_ble_eq_true rfl) (fun r_43 E_43 h_43 => ?_)
        obtain ⟨rfl, hX⟩ := h_43
        refine G_istore_n (i := 3) hk dX5_odds_46 rfl (by decide) rfl ?_
        refine G_iload_n (i := 3) hk dX5_odds_47 rfl rfl ?_
        refine G_bipush (v := 26) hk dX5_odds_48 (by decide) ?_
        refine G_cSi hk (c_X5_greatestCommon l V ad E_43 (sCw R n v) hcw) mX5_greatestCommon sX5_greatestCommon kX5_191 dX5_odds_50 rfl (by decide) (by decide) rfl (Nat.le_of_ble_eq_true rfl) (fun r_50 E_50 h_50 => ?_)
        obtain ⟨rfl, rfl⟩ := h_50
        refine G_istore hk dX5_odds_53 (by decide) rfl ?_
        refine G_iload_n (i := 2) hk dX5_odds_55 rfl rfl ?_
        refine G_if_ne (tgt := 67) hk dX5_odds_56 (by decide) (fun c_56 => ?_) (fun c_56 => ?_)
        · try simp only [gB_ne, gB_eq, Decidable.not_not] at c_56
          refine G_bipush (v := 26) hk dX5_odds_67 (by decide) ?_
          refine G_iload hk dX5_odds_69 rfl ?_
          refine G_idiv hk dX5_odds_71 hgz ?_
          rw [show (26 : Int32) / nI (Nat.gcd (sCw R n v) 26) = nI (26 / Nat.gcd (sCw R n v) 26) from pk_div (a := 26) (by omega) hgp (by omega)]
          refine G_i2l hk dX5_odds_72 ?_
          rw [nI_l (Nat.lt_of_le_of_lt (Nat.div_le_self _ _) (by omega))]
          refine G_lret hk dX5_odds_73 ?_
          first | exact ⟨by unfold vOdds; rw [if_pos ⟨c_8, c_17⟩, if_neg hn, if_pos (by first | exact c_56 | exact Decidable.not_not.mp c_56)], hC.ask hX, fr.aX hX (by omega)⟩ | exact ⟨by unfold vOdds; rw [if_pos ⟨c_8, c_17⟩, if_neg hn, if_neg c_56], hC.ask hX, fr.aX hX (by omega)⟩
        · try simp only [gB_ne, gB_eq, Decidable.not_not] at c_56
          refine G_iload_n (i := 3) hk dX5_odds_59 rfl rfl ?_
          refine G_iload hk dX5_odds_60 rfl ?_
          refine G_idiv hk dX5_odds_62 hgz ?_
          rw [pk_div (by omega) hgp (by omega)]
          refine G_i2l hk dX5_odds_63 ?_
          rw [nI_l (Nat.lt_of_le_of_lt (Nat.div_le_self _ _) (by omega))]
          refine G_goto (tgt := 73) hk dX5_odds_64 (by decide) ?_
          refine G_lret hk dX5_odds_73 ?_
          first | exact ⟨by unfold vOdds; rw [if_pos ⟨c_8, c_17⟩, if_neg hn, if_pos (by first | exact c_56 | exact Decidable.not_not.mp c_56)], hC.ask hX, fr.aX hX (by omega)⟩ | exact ⟨by unfold vOdds; rw [if_pos ⟨c_8, c_17⟩, if_neg hn, if_neg c_56], hC.ask hX, fr.aX hX (by omega)⟩
      · try simp only [gB_ne, gB_eq, Decidable.not_not] at c_31
        have hn : n = 0 := hn0.mp (by first | exact c_31 | exact Decidable.not_not.mp c_31)
        refine G_ldc2 (v := sLost) hk jcX5_186 dX5_odds_34 ?_
        refine G_lret hk dX5_odds_37 ?_
        exact ⟨by unfold vOdds; rw [if_pos ⟨c_8, c_17⟩, if_pos hn], hC, fr.rf⟩
    · try simp only [gB_ne, gB_eq, Decidable.not_not] at c_17
      refine G_ldc2 (v := sLost) hk jcX5_186 dX5_odds_20 ?_
      refine G_lret hk dX5_odds_23 ?_
      first | exact ⟨by unfold vOdds; rw [if_neg (fun z => c_8 z.1)], hC, fr.rf⟩ | exact ⟨by unfold vOdds; rw [if_neg (fun z => c_17 z.2)], hC, fr.rf⟩

set_option maxHeartbeats 4000000 in
set_option maxRecDepth 100000 in
theorem c_leave (l : Launch) (V : gV) (ad : Nat → Nat) (E : Nat → va_E) (n rd : Nat) (R : Nat → Nat → Int32) (rp rw : Nat → Int32) (tr fa : Int32) (la : Nat → Int32) (sz : Nat → Nat) (cl : Nat → Nat → Int32) (hC : cR V ad E (n, R, rd, rp, rw, tr, fa, la, sz, cl)) (w : Int32) : Ct l V ad 44 44 yX5_leave cX5_leave 2 none { frames := 0, cells := 0, slots := 0, locals := 0 } [.ref (ad 0), .int w] E (pV ad (fun E2 => cR V ad E2 (n, R, rd, rp, rw, 31 * tr + w, fa, la, sz, cl) ∧ (∀ k, 0 < k → E2 k = E k))) := by
  refine gCt mX5_leave (Nat.le_of_ble_eq_true rfl) ?_
  intro K hk
  obtain ⟨h0, ⟨π, hB⟩, ⟨dn, wo, dl, hA⟩, ⟨n2, π2, R2, hB2⟩, ⟨dn2, wo2, dl2, hA2⟩, h3, h4, h5, h6, h7⟩ := id hC
  obtain ⟨b0, b1, b2, b3, b4, b5, -⟩ := id hB
  obtain ⟨a0, a1⟩ := id hA
  have hn0 : nI n = 0 ↔ n = 0 := neq (b := 0) (by omega) (by omega)
  refine G_aload_n (i := 0) hk dX5_leave_0 rfl rfl ?_
  refine G_bipush (v := 31) hk dX5_leave_1 (by decide) ?_
  refine G_aload_n (i := 0) hk dX5_leave_3 rfl rfl ?_
  refine G_get hk fX5_239 dX5_leave_4 (by assumption) (by rfl) (by first | decide | omega) ?_
  refine G_imul hk dX5_leave_7 ?_
  refine G_iload_n (i := 1) hk dX5_leave_8 rfl rfl ?_
  refine G_iadd hk dX5_leave_9 ?_
  refine G_put hk fX5_239 iX5_6 dX5_leave_10 (by assumption) (Nat.le_of_ble_eq_true rfl) (by first | decide | omega) ?_
  refine G_vret hk dX5_leave_13 ?_
  exact ⟨hC.sc h7, fun k hk => va_up_ne _ _ (by omega)⟩

set_option maxHeartbeats 4000000 in
set_option maxRecDepth 100000 in
theorem c_X5_plainBody (l : Launch) (V : gV) (ad : Nat → Nat) (E : Nat → va_E) (n rd : Nat) (R : Nat → Nat → Int32) (rp rw : Nat → Int32) (tr fa : Int32) (la : Nat → Int32) (sz : Nat → Nat) (cl : Nat → Nat → Int32) (hC : cR V ad E (n, R, rd, rp, rw, tr, fa, la, sz, cl)) (π : Nat → Nat) (hB1 : bkB V ad E 1 n π R) (j : Nat) (hj : j < n) : Ct l V ad 44 44 yX5_plainBody cX5_plainBody 2 (some .int) { frames := 1, cells := 0, slots := 0, locals := 21 } [.ref (ad 0), .ref (ad (1 + 4 + π j))] E (pI ad (fun v E2 => v = R j 2 ∧ cR V ad E2 (n, R, rd, rp, rw, 31 * tr + 1, fa, la, sz, cl) ∧ (∀ k, 0 < k → E2 k = E k))) := by
  refine gCt mX5_plainBody (Nat.le_of_ble_eq_true rfl) ?_
  intro K hk
  obtain ⟨h0, -⟩ := id hC
  obtain ⟨-, -, b2, b3, b4, b5, -⟩ := id hB1
  have pj := b4 j (by omega)
  have bj := b2 j (by omega)
  refine G_aload_n (i := 0) hk dX5_plainBody_0 rfl rfl ?_
  refine G_iconst (v := 1) hk dX5_plainBody_1 (by decide) ?_
  refine G_cVv hk (c_leave l V ad E n rd R rp rw (tr) fa la sz cl hC 1) mX5_leave vX5_leave kX5_256 dX5_plainBody_2 (by assumption) (by rfl) (by first | decide | omega) rfl (by decide) (by decide) rfl (Nat.le_of_ble_eq_true rfl) (fun E_2 h_2 => ?_)
  obtain ⟨hC2, x2⟩ := h_2
  have bj2 := (x2 (1 + 4 + π j) (by omega)).trans bj
  refine G_aload_n (i := 1) hk dX5_plainBody_5 rfl rfl ?_
  refine G_get hk fX5_89 dX5_plainBody_6 (by assumption) (by rfl) (by first | decide | omega) ?_
  refine G_iret hk dX5_plainBody_9 ?_
  exact ⟨rfl, hC2, x2⟩

set_option maxHeartbeats 4000000 in
set_option maxRecDepth 100000 in
theorem c_X5_lentCiteBody (l : Launch) (V : gV) (ad : Nat → Nat) (E : Nat → va_E) (n rd : Nat) (R : Nat → Nat → Int32) (rp rw : Nat → Int32) (tr fa : Int32) (la : Nat → Int32) (sz : Nat → Nat) (cl : Nat → Nat → Int32) (hC : cR V ad E (n, R, rd, rp, rw, tr, fa, la, sz, cl)) (π : Nat → Nat) (hB1 : bkB V ad E 1 n π R) (j : Nat) (hj : j < n) : Ct l V ad 44 44 yX5_lentCiteBody cX5_lentCiteBody 2 (some .int) { frames := 1, cells := 0, slots := 0, locals := 21 } [.ref (ad 0), .ref (ad (1 + 4 + π j))] E (pI ad (fun v E2 => v = R j 3 ∧ cR V ad E2 (n, R, rd, rp, rw, 31 * tr + 4, fa, la, sz, cl) ∧ (∀ k, 0 < k → E2 k = E k))) := by
  refine gCt mX5_lentCiteBody (Nat.le_of_ble_eq_true rfl) ?_
  intro K hk
  obtain ⟨h0, -⟩ := id hC
  obtain ⟨-, -, b2, b3, b4, b5, -⟩ := id hB1
  have pj := b4 j (by omega)
  have bj := b2 j (by omega)
  refine G_aload_n (i := 0) hk dX5_lentCiteBody_0 rfl rfl ?_
  refine G_iconst (v := 4) hk dX5_lentCiteBody_1 (by decide) ?_
  refine G_cVv hk (c_leave l V ad E n rd R rp rw (tr) fa la sz cl hC 4) mX5_leave vX5_leave kX5_256 dX5_lentCiteBody_2 (by assumption) (by rfl) (by first | decide | omega) rfl (by decide) (by decide) rfl (Nat.le_of_ble_eq_true rfl) (fun E_2 h_2 => ?_)
  obtain ⟨hC2, x2⟩ := h_2
  have bj2 := (x2 (1 + 4 + π j) (by omega)).trans bj
  refine G_aload_n (i := 1) hk dX5_lentCiteBody_5 rfl rfl ?_
  refine G_get hk fX5_92 dX5_lentCiteBody_6 (by assumption) (by rfl) (by first | decide | omega) ?_
  refine G_iret hk dX5_lentCiteBody_9 ?_
  exact ⟨rfl, hC2, x2⟩

set_option maxHeartbeats 4000000 in
set_option maxRecDepth 100000 in
theorem c_X5_ownCiteBody (l : Launch) (V : gV) (ad : Nat → Nat) (E : Nat → va_E) (n rd : Nat) (R : Nat → Nat → Int32) (rp rw : Nat → Int32) (tr fa : Int32) (la : Nat → Int32) (sz : Nat → Nat) (cl : Nat → Nat → Int32) (hC : cR V ad E (n, R, rd, rp, rw, tr, fa, la, sz, cl)) : Ct l V ad 44 44 yX5_ownCiteBody cX5_ownCiteBody 1 (some .int) { frames := 1, cells := 0, slots := 0, locals := 21 } [.ref (ad 0)] E (pI ad (fun v E2 => v = 60 ∧ cR V ad E2 (n, R, rd, rp, rw, 31 * tr + 5, fa, la, sz, cl) ∧ (∀ k, 0 < k → E2 k = E k))) := by
  refine gCt mX5_ownCiteBody (Nat.le_of_ble_eq_true rfl) ?_
  intro K hk
  obtain ⟨h0, -⟩ := id hC
  refine G_aload_n (i := 0) hk dX5_ownCiteBody_0 rfl rfl ?_
  refine G_iconst (v := 5) hk dX5_ownCiteBody_1 (by decide) ?_
  refine G_cVv hk (c_leave l V ad E n rd R rp rw (tr) fa la sz cl hC 5) mX5_leave vX5_leave kX5_256 dX5_ownCiteBody_2 (by assumption) (by rfl) (by first | decide | omega) rfl (by decide) (by decide) rfl (Nat.le_of_ble_eq_true rfl) (fun E_2 h_2 => ?_)
  obtain ⟨hC2, x2⟩ := h_2
  refine G_bipush (v := 60) hk dX5_ownCiteBody_5 (by decide) ?_
  refine G_iret hk dX5_ownCiteBody_7 ?_
  exact ⟨rfl, hC2, x2⟩

set_option maxHeartbeats 4000000 in
set_option maxRecDepth 100000 in
theorem c_X5_bulkyBody (l : Launch) (V : gV) (ad : Nat → Nat) (E : Nat → va_E) (n rd : Nat) (R : Nat → Nat → Int32) (rp rw : Nat → Int32) (tr fa : Int32) (la : Nat → Int32) (sz : Nat → Nat) (cl : Nat → Nat → Int32) (hC : cR V ad E (n, R, rd, rp, rw, tr, fa, la, sz, cl)) (π : Nat → Nat) (hB1 : bkB V ad E 1 n π R) (j : Nat) (hj : j < n) : Ct l V ad 44 44 yX5_bulkyBody cX5_bulkyBody 2 (some .int) { frames := 2, cells := 0, slots := 0, locals := 42 } [.ref (ad 0), .ref (ad (1 + 4 + π j))] E (pI ad (fun v E2 => v = R j 2 + 100 ∧ cR V ad E2 (n, R, rd, rp, rw, 31 * (31 * tr + 2) + 1, fa, la, sz, cl) ∧ (∀ k, 0 < k → E2 k = E k))) := by
  refine gCt mX5_bulkyBody (Nat.le_of_ble_eq_true rfl) ?_
  intro K hk
  obtain ⟨h0, -⟩ := id hC
  obtain ⟨-, -, b2, b3, b4, b5, -⟩ := id hB1
  have pj := b4 j (by omega)
  have bj := b2 j (by omega)
  refine G_aload_n (i := 0) hk dX5_bulkyBody_0 rfl rfl ?_
  refine G_iconst (v := 2) hk dX5_bulkyBody_1 (by decide) ?_
  refine G_cVv hk (c_leave l V ad E n rd R rp rw (tr) fa la sz cl hC 2) mX5_leave vX5_leave kX5_256 dX5_bulkyBody_2 (by assumption) (by rfl) (by first | decide | omega) rfl (by decide) (by decide) rfl (Nat.le_of_ble_eq_true rfl) (fun E_2 h_2 => ?_)
  obtain ⟨hC2, x2⟩ := h_2
  have z0 := hC2.1
  have hB2 := hB1.eq (E2 := E_2) (fun k a b => x2 k (by omega))
  refine G_aload_n (i := 0) hk dX5_bulkyBody_5 rfl rfl ?_
  refine G_aload_n (i := 1) hk dX5_bulkyBody_6 rfl rfl ?_
  refine G_cVi hk (c_X5_plainBody l V ad E_2 n rd R rp rw (31 * tr + 2) fa la sz cl hC2 π hB2 j hj) mX5_plainBody vX5_plainBody kX5_230 dX5_bulkyBody_7 (by assumption) (by rfl) (by first | decide | omega) rfl (by decide) (by decide) rfl (Nat.le_of_ble_eq_true rfl) (fun r_7 E_7 h_7 => ?_)
  obtain ⟨rfl, hC7, x7⟩ := h_7
  refine G_bipush (v := 100) hk dX5_bulkyBody_10 (by decide) ?_
  refine G_iadd hk dX5_bulkyBody_12 ?_
  refine G_iret hk dX5_bulkyBody_13 ?_
  exact ⟨rfl, hC7, fun k hk => (x7 k hk).trans (x2 k hk)⟩

set_option maxHeartbeats 4000000 in
set_option maxRecDepth 100000 in
theorem c_X5_doubleBody (l : Launch) (V : gV) (ad : Nat → Nat) (E : Nat → va_E) (n rd : Nat) (R : Nat → Nat → Int32) (rp rw : Nat → Int32) (tr fa : Int32) (la : Nat → Int32) (sz : Nat → Nat) (cl : Nat → Nat → Int32) (hC : cR V ad E (n, R, rd, rp, rw, tr, fa, la, sz, cl)) (π : Nat → Nat) (hB1 : bkB V ad E 1 n π R) (j : Nat) (hj : j < n) : Ct l V ad 44 44 yX5_doubleBody cX5_doubleBody 3 (some .int) { frames := 3, cells := 0, slots := 0, locals := 63 } [.ref (ad 0), .ref (ad (1 + 4 + π j))] E (pI ad (fun v E2 => v = R j 2 + 100 + R j 2 ∧ cR V ad E2 (n, R, rd, rp, rw, 31 * (31 * (31 * (31 * tr + 3) + 2) + 1) + 1, fa, la, sz, cl) ∧ (∀ k, 0 < k → E2 k = E k))) := by
  refine gCt mX5_doubleBody (Nat.le_of_ble_eq_true rfl) ?_
  intro K hk
  obtain ⟨h0, -⟩ := id hC
  obtain ⟨-, -, b2, b3, b4, b5, -⟩ := id hB1
  have pj := b4 j (by omega)
  have bj := b2 j (by omega)
  refine G_aload_n (i := 0) hk dX5_doubleBody_0 rfl rfl ?_
  refine G_iconst (v := 3) hk dX5_doubleBody_1 (by decide) ?_
  refine G_cVv hk (c_leave l V ad E n rd R rp rw (tr) fa la sz cl hC 3) mX5_leave vX5_leave kX5_256 dX5_doubleBody_2 (by assumption) (by rfl) (by first | decide | omega) rfl (by decide) (by decide) rfl (Nat.le_of_ble_eq_true rfl) (fun E_2 h_2 => ?_)
  obtain ⟨hC2, x2⟩ := h_2
  have z0 := hC2.1
  have hB2 := hB1.eq (E2 := E_2) (fun k a b => x2 k (by omega))
  refine G_aload_n (i := 0) hk dX5_doubleBody_5 rfl rfl ?_
  refine G_aload_n (i := 1) hk dX5_doubleBody_6 rfl rfl ?_
  refine G_cVi hk (c_X5_bulkyBody l V ad E_2 n rd R rp rw (31 * tr + 3) fa la sz cl hC2 π hB2 j hj) mX5_bulkyBody vX5_bulkyBody kX5_223 dX5_doubleBody_7 (by assumption) (by rfl) (by first | decide | omega) rfl (by decide) (by decide) rfl (Nat.le_of_ble_eq_true rfl) (fun r_7 E_7 h_7 => ?_)
  obtain ⟨rfl, hC7, x7⟩ := h_7
  have z7 := hC7.1
  have hB7 := hB2.eq (E2 := E_7) (fun k a b => x7 k (by omega))
  refine G_istore_n (i := 2) hk dX5_doubleBody_10 rfl (by decide) rfl ?_
  refine G_iload_n (i := 2) hk dX5_doubleBody_11 rfl rfl ?_
  refine G_aload_n (i := 0) hk dX5_doubleBody_12 rfl rfl ?_
  refine G_aload_n (i := 1) hk dX5_doubleBody_13 rfl rfl ?_
  refine G_cVi hk (c_X5_plainBody l V ad E_7 n rd R rp rw _ fa la sz cl hC7 π hB7 j hj) mX5_plainBody vX5_plainBody kX5_230 dX5_doubleBody_14 (by assumption) (by rfl) (by first | decide | omega) rfl (by decide) (by decide) rfl (Nat.le_of_ble_eq_true rfl) (fun r_14 E_14 h_14 => ?_)
  obtain ⟨rfl, hC14, x14⟩ := h_14
  refine G_iadd hk dX5_doubleBody_17 ?_
  refine G_iret hk dX5_doubleBody_18 ?_
  exact ⟨rfl, hC14, fun k hk => (x14 k hk).trans ((x7 k hk).trans (x2 k hk))⟩

set_option maxHeartbeats 4000000 in
set_option maxRecDepth 100000 in
theorem c_X5_tell (l : Launch) (V : gV) (ad : Nat → Nat) (E : Nat → va_E) (n rd : Nat) (R : Nat → Nat → Int32) (rp rw : Nat → Int32) (tr fa : Int32) (la : Nat → Int32) (sz : Nat → Nat) (cl : Nat → Nat → Int32) (hC : cR V ad E (n, R, rd, rp, rw, tr, fa, la, sz, cl)) (r : Int32) : Ct l V ad 44 44 yX5_tell cX5_tell 3 (some .int) { frames := 4, cells := 0, slots := 0, locals := 85 } [.ref (ad 0), .int r] E (pI ad (fun v E2 => v = vTell n R r ∧ cR V ad E2 (n, R, rd, rp, rw, tTell n R r tr, fa, la, sz, cl) ∧ fr E E2)) := by
  refine gCt mX5_tell (Nat.le_of_ble_eq_true rfl) ?_
  intro K hk
  obtain ⟨h0, ⟨π, hB⟩, ⟨dn, wo, dl, hA⟩, ⟨n2, π2, R2, hB2⟩, ⟨dn2, wo2, dl2, hA2⟩, h3, h4, h5, h6, h7⟩ := id hC
  obtain ⟨b0, b1, b2, b3, b4, b5, -⟩ := id hB
  obtain ⟨a0, a1⟩ := id hA
  have hn0 : nI n = 0 ↔ n = 0 := neq (b := 0) (by omega) (by omega)
  refine G_aload_n (i := 0) hk dX5_tell_0 rfl rfl ?_
  refine G_get hk fX5_12 dX5_tell_1 (by assumption) (by rfl) (by first | decide | omega) ?_
  refine G_iload_n (i := 1) hk dX5_tell_4 rfl rfl ?_
  refine G_cVi hk (c_X1_isRule l V ad E 1 n π R hB r) mX1_isRule vX1_isRule kX5_74 dX5_tell_5 (by assumption) (by rfl) (by first | decide | omega) rfl (by decide) (by decide) rfl (Nat.le_of_ble_eq_true rfl) (fun r_5 E_5 h_5 => ?_)
  obtain ⟨rfl, rfl⟩ := h_5
  refine G_if_ne (tgt := 13) hk dX5_tell_8 (by decide) (fun c_8 => ?_) (fun c_8 => ?_)
  · try simp only [gB_ne, gB_eq, Decidable.not_not] at c_8
    obtain ⟨j, hj, rfl⟩ := gIx (Int32.not_lt.mpr c_8.1) c_8.2 (by omega)
    have hix : ix (nI j) = j := ix_nI (by omega)
    have pj := b4 j (by omega)
    have bj := b2 j (by omega)
    refine G_aload_n (i := 0) hk dX5_tell_13 rfl rfl ?_
    refine G_get hk fX5_12 dX5_tell_14 (by assumption) (by rfl) (by first | decide | omega) ?_
    refine G_get hk fX5_77 dX5_tell_17 (by assumption) (by rfl) (by first | decide | omega) ?_
    refine G_iload_n (i := 1) hk dX5_tell_20 rfl rfl ?_
    refine G_aaldRlX (j := j) hk dX5_tell_21 (by assumption) rfl (by omega) (by decide) (by rfl) (by first | decide | omega) ?_
    refine G_astore_n (i := 2) hk dX5_tell_22 rfl (by decide) rfl ?_
    refine G_aload_n (i := 2) hk dX5_tell_23 rfl rfl ?_
    refine G_get hk fX5_81 dX5_tell_24 (by assumption) (by rfl) (by first | decide | omega) ?_
    by_cases q27_1 : R j 0 = 1
    · skip
      refine G_lookup (off := 25) (tgt := 52) hk dX5_tell_27 (by decide) (by rw [q27_1]; decide) (by decide) ?_
      refine G_aload_n (i := 0) hk dX5_tell_52 rfl rfl ?_
      refine G_aload_n (i := 2) hk dX5_tell_53 rfl rfl ?_
      refine G_cVi hk (c_X5_bulkyBody l V ad E n rd R rp rw tr fa la sz cl hC π hB j hj) mX5_bulkyBody vX5_bulkyBody kX5_223 dX5_tell_54 (by assumption) (by rfl) (by first | decide | omega) rfl (by decide) (by decide) rfl (Nat.le_of_ble_eq_true rfl) (fun r_54 E_54 h_54 => ?_)
      obtain ⟨rfl, hCb, xb⟩ := h_54
      refine G_iret hk dX5_tell_57 ?_
      exact ⟨by unfold vTell; rw [hix]; (try first | rw [if_pos c_8] | rw [if_neg c_8]); (try first | rw [if_pos q27_1] | rw [if_neg q27_1]), by unfold tTell; rw [hix]; (try first | rw [if_pos c_8] | rw [if_neg c_8]); (try first | rw [if_pos q27_1] | rw [if_neg q27_1]); exact hCb, fun k hk => xb k (by omega)⟩
    · skip
      by_cases q27_2 : R j 0 = 2
      · skip
        refine G_lookup (off := 31) (tgt := 58) hk dX5_tell_27 (by decide) (by rw [q27_2]; decide) (by decide) ?_
        refine G_aload_n (i := 0) hk dX5_tell_58 rfl rfl ?_
        refine G_aload_n (i := 2) hk dX5_tell_59 rfl rfl ?_
        refine G_cVi hk (c_X5_doubleBody l V ad E n rd R rp rw tr fa la sz cl hC π hB j hj) mX5_doubleBody vX5_doubleBody kX5_227 dX5_tell_60 (by assumption) (by rfl) (by first | decide | omega) rfl (by decide) (by decide) rfl (Nat.le_of_ble_eq_true rfl) (fun r_60 E_60 h_60 => ?_)
        obtain ⟨rfl, hCb, xb⟩ := h_60
        refine G_iret hk dX5_tell_63 ?_
        exact ⟨by unfold vTell; rw [hix]; (try first | rw [if_pos c_8] | rw [if_neg c_8]); (try first | rw [if_pos q27_1] | rw [if_neg q27_1]); (try first | rw [if_pos q27_2] | rw [if_neg q27_2]), by unfold tTell; rw [hix]; (try first | rw [if_pos c_8] | rw [if_neg c_8]); (try first | rw [if_pos q27_1] | rw [if_neg q27_1]); (try first | rw [if_pos q27_2] | rw [if_neg q27_2]); exact hCb, fun k hk => xb k (by omega)⟩
      · skip
        refine G_lookup (off := 37) (tgt := 64) hk dX5_tell_27 (by decide) (show Op.lookupswitch.offset [(1, 25), (2, 31)] 37 (Int32.toInt (R j 0)) = 37 by rw [lv_osw (k := 1) q27_1 (by decide), lv_osw (k := 2) q27_2 (by decide)]; rfl) (by decide) ?_
        refine G_aload_n (i := 0) hk dX5_tell_64 rfl rfl ?_
        refine G_aload_n (i := 2) hk dX5_tell_65 rfl rfl ?_
        refine G_cVi hk (c_X5_plainBody l V ad E n rd R rp rw tr fa la sz cl hC π hB j hj) mX5_plainBody vX5_plainBody kX5_230 dX5_tell_66 (by assumption) (by rfl) (by first | decide | omega) rfl (by decide) (by decide) rfl (Nat.le_of_ble_eq_true rfl) (fun r_66 E_66 h_66 => ?_)
        obtain ⟨rfl, hCb, xb⟩ := h_66
        refine G_iret hk dX5_tell_69 ?_
        exact ⟨by unfold vTell; rw [hix]; (try first | rw [if_pos c_8] | rw [if_neg c_8]); (try first | rw [if_pos q27_1] | rw [if_neg q27_1]); (try first | rw [if_pos q27_2] | rw [if_neg q27_2]), by unfold tTell; rw [hix]; (try first | rw [if_pos c_8] | rw [if_neg c_8]); (try first | rw [if_pos q27_1] | rw [if_neg q27_1]); (try first | rw [if_pos q27_2] | rw [if_neg q27_2]); exact hCb, fun k hk => xb k (by omega)⟩
  · try simp only [gB_ne, gB_eq, Decidable.not_not] at c_8
    refine G_iconst (v := (-1)) hk dX5_tell_11 (by decide) ?_
    refine G_iret hk dX5_tell_12 ?_
    exact ⟨by unfold vTell; (try first | rw [if_pos c_8] | rw [if_neg c_8]), by unfold tTell; (try first | rw [if_pos c_8] | rw [if_neg c_8]); exact hC, fr.rf⟩

set_option maxHeartbeats 4000000 in
set_option maxRecDepth 100000 in
theorem c_X5_cite (l : Launch) (V : gV) (ad : Nat → Nat) (E : Nat → va_E) (n rd : Nat) (R : Nat → Nat → Int32) (rp rw : Nat → Int32) (tr fa : Int32) (la : Nat → Int32) (sz : Nat → Nat) (cl : Nat → Nat → Int32) (hC : cR V ad E (n, R, rd, rp, rw, tr, fa, la, sz, cl)) (r : Int32) : Ct l V ad 44 44 yX5_cite cX5_cite 3 (some .int) { frames := 2, cells := 0, slots := 0, locals := 42 } [.ref (ad 0), .int r] E (pI ad (fun v E2 => v = vCite n R r ∧ cR V ad E2 (n, R, rd, rp, rw, tCite n R r tr, fa, la, sz, cl) ∧ fr E E2)) := by
  refine gCt mX5_cite (Nat.le_of_ble_eq_true rfl) ?_
  intro K hk
  obtain ⟨h0, ⟨π, hB⟩, ⟨dn, wo, dl, hA⟩, ⟨n2, π2, R2, hB2⟩, ⟨dn2, wo2, dl2, hA2⟩, h3, h4, h5, h6, h7⟩ := id hC
  obtain ⟨b0, b1, b2, b3, b4, b5, -⟩ := id hB
  obtain ⟨a0, a1⟩ := id hA
  have hn0 : nI n = 0 ↔ n = 0 := neq (b := 0) (by omega) (by omega)
  refine G_aload_n (i := 0) hk dX5_cite_0 rfl rfl ?_
  refine G_get hk fX5_12 dX5_cite_1 (by assumption) (by rfl) (by first | decide | omega) ?_
  refine G_iload_n (i := 1) hk dX5_cite_4 rfl rfl ?_
  refine G_cVi hk (c_X1_isRule l V ad E 1 n π R hB r) mX1_isRule vX1_isRule kX5_74 dX5_cite_5 (by assumption) (by rfl) (by first | decide | omega) rfl (by decide) (by decide) rfl (Nat.le_of_ble_eq_true rfl) (fun r_5 E_5 h_5 => ?_)
  obtain ⟨rfl, rfl⟩ := h_5
  refine G_if_ne (tgt := 13) hk dX5_cite_8 (by decide) (fun c_8 => ?_) (fun c_8 => ?_)
  · try simp only [gB_ne, gB_eq, Decidable.not_not] at c_8
    obtain ⟨j, hj, rfl⟩ := gIx (Int32.not_lt.mpr c_8.1) c_8.2 (by omega)
    have hix : ix (nI j) = j := ix_nI (by omega)
    have pj := b4 j (by omega)
    have bj := b2 j (by omega)
    refine G_aload_n (i := 0) hk dX5_cite_13 rfl rfl ?_
    refine G_get hk fX5_12 dX5_cite_14 (by assumption) (by rfl) (by first | decide | omega) ?_
    refine G_get hk fX5_77 dX5_cite_17 (by assumption) (by rfl) (by first | decide | omega) ?_
    refine G_iload_n (i := 1) hk dX5_cite_20 rfl rfl ?_
    refine G_aaldRlX (j := j) hk dX5_cite_21 (by assumption) rfl (by omega) (by decide) (by rfl) (by first | decide | omega) ?_
    refine G_astore_n (i := 2) hk dX5_cite_22 rfl (by decide) rfl ?_
    refine G_aload_n (i := 2) hk dX5_cite_23 rfl rfl ?_
    refine G_get hk fX5_81 dX5_cite_24 (by assumption) (by rfl) (by first | decide | omega) ?_
    refine G_iconst (v := 2) hk dX5_cite_27 (by decide) ?_
    refine G_icmp_ne (tgt := 38) hk dX5_cite_28 (by decide) (fun c_28 => ?_) (fun c_28 => ?_)
    · try simp only [gB_ne, gB_eq, Decidable.not_not] at c_28
      refine G_aload_n (i := 0) hk dX5_cite_38 rfl rfl ?_
      refine G_aload_n (i := 2) hk dX5_cite_39 rfl rfl ?_
      refine G_cVi hk (c_X5_lentCiteBody l V ad E n rd R rp rw tr fa la sz cl hC π hB j hj) mX5_lentCiteBody vX5_lentCiteBody kX5_236 dX5_cite_40 (by assumption) (by rfl) (by first | decide | omega) rfl (by decide) (by decide) rfl (Nat.le_of_ble_eq_true rfl) (fun r_40 E_40 h_40 => ?_)
      obtain ⟨rfl, hCb, xb⟩ := h_40
      refine G_iret hk dX5_cite_43 ?_
      exact ⟨by unfold vCite; rw [hix]; (try first | rw [if_pos c_8] | rw [if_neg c_8]); (try first | rw [if_pos c_28] | rw [if_neg c_28]), by unfold tCite; rw [hix]; (try first | rw [if_pos c_8] | rw [if_neg c_8]); (try first | rw [if_pos c_28] | rw [if_neg c_28]); exact hCb, fun k hk => xb k (by omega)⟩
    · try simp only [gB_ne, gB_eq, Decidable.not_not] at c_28
      refine G_aload_n (i := 0) hk dX5_cite_31 rfl rfl ?_
      refine G_cVi hk (c_X5_ownCiteBody l V ad E n rd R rp rw tr fa la sz cl hC) mX5_ownCiteBody vX5_ownCiteBody kX5_233 dX5_cite_32 (by assumption) (by rfl) (by first | decide | omega) rfl (by decide) (by decide) rfl (Nat.le_of_ble_eq_true rfl) (fun r_32 E_32 h_32 => ?_)
      obtain ⟨rfl, hCb, xb⟩ := h_32
      refine G_goto (tgt := 43) hk dX5_cite_35 (by decide) ?_
      refine G_iret hk dX5_cite_43 ?_
      exact ⟨by unfold vCite; rw [hix]; (try first | rw [if_pos c_8] | rw [if_neg c_8]); (try first | rw [if_pos c_28] | rw [if_neg c_28]), by unfold tCite; rw [hix]; (try first | rw [if_pos c_8] | rw [if_neg c_8]); (try first | rw [if_pos c_28] | rw [if_neg c_28]); exact hCb, fun k hk => xb k (by omega)⟩
  · try simp only [gB_ne, gB_eq, Decidable.not_not] at c_8
    refine G_iconst (v := (-1)) hk dX5_cite_11 (by decide) ?_
    refine G_iret hk dX5_cite_12 ?_
    exact ⟨by unfold vCite; (try first | rw [if_pos c_8] | rw [if_neg c_8]), by unfold tCite; (try first | rw [if_pos c_8] | rw [if_neg c_8]); exact hC, fr.rf⟩

set_option maxHeartbeats 4000000 in
set_option maxRecDepth 100000 in
theorem c_X5_as (l : Launch) (V : gV) (ad : Nat → Nat) (E : Nat → va_E) (n rd : Nat) (R : Nat → Nat → Int32) (rp rw : Nat → Int32) (tr fa : Int32) (la : Nat → Int32) (sz : Nat → Nat) (cl : Nat → Nat → Int32) (hC : cR V ad E (n, R, rd, rp, rw, tr, fa, la, sz, cl)) (r k : Int32) : Ct l V ad 44 44 yX5_as cX5_as 3 (some .int) { frames := 1, cells := 0, slots := 0, locals := 22 } [.ref (ad 0), .int r, .int k] E (pI ad (fun v E2 => v = vAs n R r k ∧ cR V ad E2 (n, R, rd, rp, rw, tr, fAs n R r k, la, sz, cl) ∧ fr E E2)) := by
  refine gCt mX5_as (Nat.le_of_ble_eq_true rfl) ?_
  intro K hk
  obtain ⟨h0, ⟨π, hB⟩, ⟨dn, wo, dl, hA⟩, ⟨n2, π2, R2, hB2⟩, ⟨dn2, wo2, dl2, hA2⟩, h3, h4, h5, h6, h7⟩ := id hC
  obtain ⟨b0, b1, b2, b3, b4, b5, -⟩ := id hB
  obtain ⟨a0, a1⟩ := id hA
  have hn0 : nI n = 0 ↔ n = 0 := neq (b := 0) (by omega) (by omega)
  refine G_aload_n (i := 0) hk dX5_as_0 rfl rfl ?_
  refine G_iconst (v := 0) hk dX5_as_1 (by decide) ?_
  refine G_put hk fX5_35 iX5_7 dX5_as_2 (by assumption) (Nat.le_of_ble_eq_true rfl) (by first | decide | omega) ?_
  refine G_E (E2 := va_up E 0 (oC ad (nI rd) tr 0)) rfl ?_
  have hC1 := hC.sc (tr2 := tr) (fa2 := 0) h7
  have f1 : fr E (va_up E 0 (oC ad (nI rd) tr 0)) := fr.up (by omega)
  generalize va_up E 0 (oC ad (nI rd) tr 0) = E1 at hC1 f1 ⊢
  clear h0 hB hA hB2 hA2 h3 h4 h5 h6 b0 b1 b2 b4 b5 a0 a1 hC
  obtain ⟨h0, ⟨π, hB⟩, ⟨dn, wo, dl, hA⟩, ⟨n2, π2, R2, hB2⟩, ⟨dn2, wo2, dl2, hA2⟩, h3, h4, h5, h6, h7⟩ := id hC1
  obtain ⟨b0, b1, b2, b3, b4, b5, -⟩ := id hB
  refine G_aload_n (i := 0) hk dX5_as_5 rfl rfl ?_
  refine G_get hk fX5_12 dX5_as_6 (by assumption) (by rfl) (by first | decide | omega) ?_
  refine G_iload_n (i := 1) hk dX5_as_9 rfl rfl ?_
  refine G_cVi hk (c_X1_isRule l V ad E1 1 n π R hB r) mX1_isRule vX1_isRule kX5_74 dX5_as_10 (by assumption) (by rfl) (by first | decide | omega) rfl (by decide) (by decide) rfl (Nat.le_of_ble_eq_true rfl) (fun r_10 E_10 h_10 => ?_)
  obtain ⟨rfl, rfl⟩ := h_10
  refine G_if_ne (tgt := 18) hk dX5_as_13 (by decide) (fun c_13 => ?_) (fun c_13 => ?_)
  · try simp only [gB_ne, gB_eq, Decidable.not_not] at c_13
    obtain ⟨j, hj, rfl⟩ := gIx (Int32.not_lt.mpr c_13.1) c_13.2 (by omega)
    have hix : ix (nI j) = j := ix_nI (by omega)
    have pj := b4 j (by omega)
    have bj := b2 j (by omega)
    refine G_iload_n (i := 2) hk dX5_as_18 rfl rfl ?_
    refine G_iconst (v := 0) hk dX5_as_19 (by decide) ?_
    refine G_iconst (v := 2) hk dX5_as_20 (by decide) ?_
    refine G_cSi hk (c_X5_isIn l V ad E1 k 0 2) mX5_isIn sX5_isIn kX5_43 dX5_as_21 rfl (by decide) (by decide) rfl (Nat.le_of_ble_eq_true rfl) (fun r_21 E_21 h_21 => ?_)
    obtain ⟨rfl, rfl⟩ := h_21
    refine G_if_ne (tgt := 30) hk dX5_as_24 (by decide) (fun c_24 => ?_) (fun c_24 => ?_)
    · try simp only [gB_ne, gB_eq, Decidable.not_not] at c_24
      refine G_iload_n (i := 2) hk dX5_as_30 rfl rfl ?_
      refine G_aload_n (i := 0) hk dX5_as_31 rfl rfl ?_
      refine G_get hk fX5_12 dX5_as_32 (by assumption) (by rfl) (by first | decide | omega) ?_
      refine G_get hk fX5_77 dX5_as_35 (by assumption) (by rfl) (by first | decide | omega) ?_
      refine G_iload_n (i := 1) hk dX5_as_38 rfl rfl ?_
      refine G_aaldRlX (j := j) hk dX5_as_39 (by assumption) rfl (by omega) (by decide) (by rfl) (by first | decide | omega) ?_
      refine G_get hk fX5_81 dX5_as_40 (by assumption) (by rfl) (by first | decide | omega) ?_
      refine G_icmp_le (tgt := 52) hk dX5_as_43 (by decide) (fun c_43 => ?_) (fun c_43 => ?_)
      · try simp only [gB_ne, gB_eq, Decidable.not_not] at c_43
        refine G_iconst (v := 1) hk dX5_as_52 (by decide) ?_
        refine G_iret hk dX5_as_53 ?_
        exact ⟨by unfold vAs; rw [hix]; (try first | rw [if_pos c_13] | rw [if_neg c_13]); (try first | rw [if_pos c_24] | rw [if_neg c_24]); (try first | rw [if_pos c_43] | rw [if_neg c_43]), by unfold fAs; rw [hix]; (try first | rw [if_pos c_13] | rw [if_neg c_13]); (try first | rw [if_pos c_24] | rw [if_neg c_24]); (try first | rw [if_pos c_43] | rw [if_neg c_43]); exact hC1, f1⟩
      · try simp only [gB_ne, gB_eq, Decidable.not_not] at c_43
        refine G_aload_n (i := 0) hk dX5_as_46 rfl rfl ?_
        refine G_iconst (v := 2) hk dX5_as_47 (by decide) ?_
        refine G_cVi hk (c_X5_faulted l V ad E1 n rd R rp rw tr 0 la sz cl hC1 2) mX5_faulted vX5_faulted kX5_51 dX5_as_48 (by assumption) (by rfl) (by first | decide | omega) rfl (by decide) (by decide) rfl (Nat.le_of_ble_eq_true rfl) (fun r_48 E_48 h_48 => ?_)
        obtain ⟨rfl, hCf, xf⟩ := h_48
        refine G_iret hk dX5_as_51 ?_
        exact ⟨by unfold vAs; rw [hix]; (try first | rw [if_pos c_13] | rw [if_neg c_13]); (try first | rw [if_pos c_24] | rw [if_neg c_24]); (try first | rw [if_pos c_43] | rw [if_neg c_43]); rfl, by unfold fAs; rw [hix]; (try first | rw [if_pos c_13] | rw [if_neg c_13]); (try first | rw [if_pos c_24] | rw [if_neg c_24]); (try first | rw [if_pos c_43] | rw [if_neg c_43]); exact hCf, f1.tr xf⟩
    · try simp only [gB_ne, gB_eq, Decidable.not_not] at c_24
      refine G_bipush (v := (-2)) hk dX5_as_27 (by decide) ?_
      refine G_iret hk dX5_as_29 ?_
      exact ⟨by unfold vAs; (try first | rw [if_pos c_13] | rw [if_neg c_13]); (try first | rw [if_pos c_24] | rw [if_neg c_24]), by unfold fAs; (try first | rw [if_pos c_13] | rw [if_neg c_13]); (try first | rw [if_pos c_24] | rw [if_neg c_24]); exact hC1, f1⟩
  · try simp only [gB_ne, gB_eq, Decidable.not_not] at c_13
    refine G_iconst (v := (-1)) hk dX5_as_16 (by decide) ?_
    refine G_iret hk dX5_as_17 ?_
    exact ⟨by unfold vAs; (try first | rw [if_pos c_13] | rw [if_neg c_13]), by unfold fAs; (try first | rw [if_pos c_13] | rw [if_neg c_13]); exact hC1, f1⟩

set_option maxHeartbeats 4000000 in
set_option maxRecDepth 100000 in
theorem c_X5_sheet (l : Launch) (V : gV) (ad : Nat → Nat) (E : Nat → va_E) (n rd : Nat) (R : Nat → Nat → Int32) (rp rw : Nat → Int32) (tr fa : Int32) (la : Nat → Int32) (sz : Nat → Nat) (cl : Nat → Nat → Int32) (hC : cR V ad E (n, R, rd, rp, rw, tr, fa, la, sz, cl)) (k a m : Int32) : Ct l V ad 44 44 yX5_sheet cX5_sheet 4 (some .int) { frames := 2, cells := 0, slots := 0, locals := 83 } [.ref (ad 0), .int k, .int a, .int m] E (pI ad (fun v E2 => v = vSheet k a m ∧ cR V ad E2 (n, R, rd, rp, rw, tr, fSheet k a m, lSheet la k a m, zSheet sz k a m, cSheet cl k a m) ∧ fr E E2)) := by
  refine gCt mX5_sheet (Nat.le_of_ble_eq_true rfl) ?_
  intro K hk
  obtain ⟨h0, ⟨π, hB⟩, ⟨dn, wo, dl, hA⟩, ⟨n2, π2, R2, hB2⟩, ⟨dn2, wo2, dl2, hA2⟩, h3, h4, h5, h6, h7⟩ := id hC
  obtain ⟨b0, b1, b2, b3, b4, b5, -⟩ := id hB
  obtain ⟨a0, a1⟩ := id hA
  have hn0 : nI n = 0 ↔ n = 0 := neq (b := 0) (by omega) (by omega)
  refine G_aload_n (i := 0) hk dX5_sheet_0 rfl rfl ?_
  refine G_iconst (v := 0) hk dX5_sheet_1 (by decide) ?_
  refine G_put hk fX5_35 iX5_7 dX5_sheet_2 (by assumption) (Nat.le_of_ble_eq_true rfl) (by first | decide | omega) ?_
  refine G_E (E2 := va_up E 0 (oC ad (nI rd) tr 0)) rfl ?_
  have hC1 := hC.sc (tr2 := tr) (fa2 := 0) h7
  have f1 : fr E (va_up E 0 (oC ad (nI rd) tr 0)) := fr.up (by omega)
  generalize va_up E 0 (oC ad (nI rd) tr 0) = E1 at hC1 f1 ⊢
  clear h0 hB hA hB2 hA2 h3 h4 h5 h6 b0 b1 b2 b4 b5 a0 a1 hC
  obtain ⟨h0, ⟨π, hB⟩, ⟨dn, wo, dl, hA⟩, ⟨n2, π2, R2, hB2⟩, ⟨dn2, wo2, dl2, hA2⟩, h3, h4, h5, h6, h7⟩ := id hC1
  obtain ⟨b0, b1, b2, b3, b4, b5, -⟩ := id hB
  refine G_iload_n (i := 1) hk dX5_sheet_5 rfl rfl ?_
  refine G_cSi hk (c_X5_isSheet l V ad E1 k) mX5_isSheet sX5_isSheet kX5_39 dX5_sheet_6 rfl (by decide) (by decide) rfl (Nat.le_of_ble_eq_true rfl) (fun r_6 E_6 h_6 => ?_)
  obtain ⟨rfl, rfl⟩ := h_6
  refine G_if_ne (tgt := 14) hk dX5_sheet_9 (by decide) (fun c_9 => ?_) (fun c_9 => ?_)
  · try simp only [gB_ne, gB_eq, Decidable.not_not] at c_9
    obtain ⟨j, hj, rfl⟩ := gIe (n := 3) c_9.1 c_9.2 (by omega)
    have hixj : ix (nI j) = j := ix_nI (by omega)
    obtain ⟨s0j, s1j, s2j⟩ := h6 j (by omega)
    refine G_iload_n (i := 2) hk dX5_sheet_14 rfl rfl ?_
    refine G_iconst (v := 0) hk dX5_sheet_15 (by decide) ?_
    refine G_iconst (v := 2) hk dX5_sheet_16 (by decide) ?_
    refine G_cSi hk (c_X5_isIn l V ad E1 a 0 2) mX5_isIn sX5_isIn kX5_43 dX5_sheet_17 rfl (by decide) (by decide) rfl (Nat.le_of_ble_eq_true rfl) (fun r_17 E_17 h_17 => ?_)
    obtain ⟨rfl, rfl⟩ := h_17
    refine G_if_eq (tgt := 29) hk dX5_sheet_20 (by decide) (fun c_20 => ?_) (fun c_20 => ?_)
    · try simp only [gB_ne, gB_eq, Decidable.not_not] at c_20
      refine G_bipush (v := (-2)) hk dX5_sheet_29 (by decide) ?_
      refine G_iret hk dX5_sheet_31 ?_
      first
        | exact ⟨by unfold vSheet; rw [if_pos c_9, if_neg (fun z => c_20 z.1)], by unfold fSheet lSheet zSheet cSheet; rw [bSheetD_f (fun z => c_20 z.2.1.1), if_pos c_9, if_neg (fun z => c_20 z.1)]; exact hC1, f1⟩
        | exact ⟨by unfold vSheet; rw [if_pos c_9, if_neg (fun z => c_26 z.2)], by unfold fSheet lSheet zSheet cSheet; rw [bSheetD_f (fun z => c_26 z.2.1.2), if_pos c_9, if_neg (fun z => c_26 z.2)]; exact hC1, f1⟩
    · try simp only [gB_ne, gB_eq, Decidable.not_not] at c_20
      refine G_iload_n (i := 3) hk dX5_sheet_23 rfl rfl ?_
      refine G_bipush (v := 60) hk dX5_sheet_24 (by decide) ?_
      refine G_icmp_le (tgt := 32) hk dX5_sheet_26 (by decide) (fun c_26 => ?_) (fun c_26 => ?_)
      · try simp only [gB_ne, gB_eq, Decidable.not_not] at c_26
        refine G_iload_n (i := 3) hk dX5_sheet_32 rfl rfl ?_
        refine G_if_ge (tgt := 42) hk dX5_sheet_33 (by decide) (fun c_33 => ?_) (fun c_33 => ?_)
        · try simp only [gB_ne, gB_eq, Decidable.not_not] at c_33
          have hm0 : ¬ m < 0 := Int32.not_lt.mpr c_33
          obtain ⟨t, ht, rfl⟩ := gIe (n := 60) c_33 c_26 (by omega)
          have hixt : ix (nI t) = t := ix_nI (by omega)
          refine G_aload_n (i := 0) hk dX5_sheet_42 rfl rfl ?_
          refine G_get hk fX5_23 dX5_sheet_43 (by assumption) (by rfl) (by first | decide | omega) ?_
          refine G_iload_n (i := 1) hk dX5_sheet_46 rfl rfl ?_
          refine G_aaldRwX (j := j) hk dX5_sheet_47 (by assumption) rfl (by omega) (by decide) (by rfl) (by first | decide | omega) ?_
          refine G_iload_n (i := 2) hk dX5_sheet_48 rfl rfl ?_
          refine G_iload_n (i := 3) hk dX5_sheet_49 rfl rfl ?_
          refine G_cVv hk (c_X2_becomeNew l V ad E1 (26 + 2 * j) (by omega) (la j) (nI (sz j)) (cl j) s0j s1j a t ht) mX2_becomeNew vX2_becomeNew kX5_195 dX5_sheet_50 (by assumption) (by rfl) (by first | decide | omega) rfl (by decide) (by decide) rfl (Nat.le_of_ble_eq_true rfl) (fun E_50 h_50 => ?_)
          subst h_50
          refine G_iconst (v := 1) hk dX5_sheet_53 (by decide) ?_
          refine G_iret hk dX5_sheet_54 ?_
          have hC2 := (hC1.row (s := j) (m := t) (a := a) (by omega) ht).cells (s := j) (by omega) (fun i => if i < t then 0 else cl j i)
          refine ⟨by unfold vSheet; rw [if_pos c_9, if_pos ⟨c_20, c_26⟩, if_neg hm0], ?_, f1.tr ((fr.up (by omega)).tr (fr.up (by omega)))⟩
          unfold fSheet lSheet zSheet cSheet
          rw [bSheetD_t ⟨c_9, ⟨c_20, c_26⟩, hm0⟩, if_pos c_9, if_pos ⟨c_20, c_26⟩, if_neg hm0, if_pos rfl, if_pos rfl, if_pos rfl, hixj, hixt]
          exact hC2
        · try simp only [gB_ne, gB_eq, Decidable.not_not] at c_33
          have hm0 : m < 0 := Int32.not_le.mp c_33
          refine G_aload_n (i := 0) hk dX5_sheet_36 rfl rfl ?_
          refine G_iconst (v := 4) hk dX5_sheet_37 (by decide) ?_
          refine G_cVi hk (c_X5_faulted l V ad E1 n rd R rp rw tr 0 la sz cl hC1 4) mX5_faulted vX5_faulted kX5_51 dX5_sheet_38 (by assumption) (by rfl) (by first | decide | omega) rfl (by decide) (by decide) rfl (Nat.le_of_ble_eq_true rfl) (fun r_38 E_38 h_38 => ?_)
          obtain ⟨rfl, hCf, xf⟩ := h_38
          refine G_iret hk dX5_sheet_41 ?_
          exact ⟨by unfold vSheet; rw [if_pos c_9, if_pos ⟨c_20, c_26⟩, if_pos hm0]; rfl, by unfold fSheet lSheet zSheet cSheet; rw [bSheetD_f (fun z => z.2.2 hm0), if_pos c_9, if_pos ⟨c_20, c_26⟩, if_pos hm0]; exact hCf, f1.tr xf⟩
      · try simp only [gB_ne, gB_eq, Decidable.not_not] at c_26
        refine G_bipush (v := (-2)) hk dX5_sheet_29 (by decide) ?_
        refine G_iret hk dX5_sheet_31 ?_
        first
          | exact ⟨by unfold vSheet; rw [if_pos c_9, if_neg (fun z => c_20 z.1)], by unfold fSheet lSheet zSheet cSheet; rw [bSheetD_f (fun z => c_20 z.2.1.1), if_pos c_9, if_neg (fun z => c_20 z.1)]; exact hC1, f1⟩
          | exact ⟨by unfold vSheet; rw [if_pos c_9, if_neg (fun z => c_26 z.2)], by unfold fSheet lSheet zSheet cSheet; rw [bSheetD_f (fun z => c_26 z.2.1.2), if_pos c_9, if_neg (fun z => c_26 z.2)]; exact hC1, f1⟩
  · try simp only [gB_ne, gB_eq, Decidable.not_not] at c_9
    refine G_iconst (v := (-1)) hk dX5_sheet_12 (by decide) ?_
    refine G_iret hk dX5_sheet_13 ?_
    exact ⟨by unfold vSheet; (try first | rw [if_pos c_9] | rw [if_neg c_9]), by unfold fSheet lSheet zSheet cSheet; rw [bSheetD_f (fun z => c_9 z.1)]; (try first | rw [if_pos c_9] | rw [if_neg c_9]); exact hC1, f1⟩

set_option maxHeartbeats 4000000 in
set_option maxRecDepth 100000 in
theorem c_X5_lose (l : Launch) (V : gV) (ad : Nat → Nat) (E : Nat → va_E) (n rd : Nat) (R : Nat → Nat → Int32) (rp rw : Nat → Int32) (tr fa : Int32) (la : Nat → Int32) (sz : Nat → Nat) (cl : Nat → Nat → Int32) (hC : cR V ad E (n, R, rd, rp, rw, tr, fa, la, sz, cl)) (k : Int32) : Ct l V ad 44 44 yX5_lose cX5_lose 3 (some .int) { frames := 2, cells := 0, slots := 0, locals := 42 } [.ref (ad 0), .int k] E (pI ad (fun v E2 => v = vLose la k ∧ cR V ad E2 (n, R, rd, rp, rw, tr, fa, lLose la k, zLose sz k, cl) ∧ fr E E2)) := by
  refine gCt mX5_lose (Nat.le_of_ble_eq_true rfl) ?_
  intro K hk
  obtain ⟨h0, ⟨π, hB⟩, ⟨dn, wo, dl, hA⟩, ⟨n2, π2, R2, hB2⟩, ⟨dn2, wo2, dl2, hA2⟩, h3, h4, h5, h6, h7⟩ := id hC
  obtain ⟨b0, b1, b2, b3, b4, b5, -⟩ := id hB
  obtain ⟨a0, a1⟩ := id hA
  have hn0 : nI n = 0 ↔ n = 0 := neq (b := 0) (by omega) (by omega)
  refine G_iload_n (i := 1) hk dX5_lose_0 rfl rfl ?_
  refine G_cSi hk (c_X5_isSheet l V ad E k) mX5_isSheet sX5_isSheet kX5_39 dX5_lose_1 rfl (by decide) (by decide) rfl (Nat.le_of_ble_eq_true rfl) (fun r_1 E_1 h_1 => ?_)
  obtain ⟨rfl, rfl⟩ := h_1
  refine G_if_ne (tgt := 9) hk dX5_lose_4 (by decide) (fun c_4 => ?_) (fun c_4 => ?_)
  · try simp only [gB_ne, gB_eq, Decidable.not_not] at c_4
    obtain ⟨j, hj, rfl⟩ := gIe (n := 3) c_4.1 c_4.2 (by omega)
    have hixj : ix (nI j) = j := ix_nI (by omega)
    obtain ⟨s0j, s1j, s2j⟩ := h6 j (by omega)
    refine G_aload_n (i := 0) hk dX5_lose_9 rfl rfl ?_
    refine G_get hk fX5_23 dX5_lose_10 (by assumption) (by rfl) (by first | decide | omega) ?_
    refine G_iload_n (i := 1) hk dX5_lose_13 rfl rfl ?_
    refine G_aaldRwX (j := j) hk dX5_lose_14 (by assumption) rfl (by omega) (by decide) (by rfl) (by first | decide | omega) ?_
    refine G_cVi hk (c_X2_isNothing l V ad E (26 + 2 * j) (by omega) (la j) (nI (sz j)) s0j) mX2_isNothing vX2_isNothing kX5_199 dX5_lose_15 (by assumption) (by rfl) (by first | decide | omega) rfl (by decide) (by decide) rfl (Nat.le_of_ble_eq_true rfl) (fun r_15 E_15 h_15 => ?_)
    obtain ⟨rfl, rfl⟩ := h_15
    refine G_if_eq (tgt := 25) hk dX5_lose_18 (by decide) (fun c_18 => ?_) (fun c_18 => ?_)
    · try simp only [gB_ne, gB_eq, Decidable.not_not] at c_18
      refine G_iconst (v := 1) hk dX5_lose_25 (by decide) ?_
      refine G_istore_n (i := 2) hk dX5_lose_26 rfl (by decide) rfl ?_
      refine G_aload_n (i := 0) hk dX5_lose_27 rfl rfl ?_
      refine G_get hk fX5_23 dX5_lose_28 (by assumption) (by rfl) (by first | decide | omega) ?_
      refine G_iload_n (i := 1) hk dX5_lose_31 rfl rfl ?_
      refine G_aaldRwX (j := j) hk dX5_lose_32 (by assumption) rfl (by omega) (by decide) (by rfl) (by first | decide | omega) ?_
      refine G_cVv hk (c_X2_becomeNothing l V ad E (26 + 2 * j) (by omega) (la j) (nI (sz j)) s0j) mX2_becomeNothing vX2_becomeNothing kX5_202 dX5_lose_33 (by assumption) (by rfl) (by first | decide | omega) rfl (by decide) (by decide) rfl (Nat.le_of_ble_eq_true rfl) (fun E_33 h_33 => ?_)
      subst h_33
      refine G_iload_n (i := 2) hk dX5_lose_36 rfl rfl ?_
      refine G_iret hk dX5_lose_37 ?_
      exact ⟨by unfold vLose; rw [hixj]; (try first | rw [if_pos c_4] | rw [if_neg c_4]); (try first | rw [if_pos c_18] | rw [if_neg c_18]), by unfold lLose zLose; rw [if_pos c_4, if_pos c_4, hixj]; exact hC.row (m := 0) (by omega) (by omega), fr.up (by omega)⟩
    · try simp only [gB_ne, gB_eq, Decidable.not_not] at c_18
      refine G_iconst (v := 0) hk dX5_lose_21 (by decide) ?_
      refine G_goto (tgt := 26) hk dX5_lose_22 (by decide) ?_
      refine G_istore_n (i := 2) hk dX5_lose_26 rfl (by decide) rfl ?_
      refine G_aload_n (i := 0) hk dX5_lose_27 rfl rfl ?_
      refine G_get hk fX5_23 dX5_lose_28 (by assumption) (by rfl) (by first | decide | omega) ?_
      refine G_iload_n (i := 1) hk dX5_lose_31 rfl rfl ?_
      refine G_aaldRwX (j := j) hk dX5_lose_32 (by assumption) rfl (by omega) (by decide) (by rfl) (by first | decide | omega) ?_
      refine G_cVv hk (c_X2_becomeNothing l V ad E (26 + 2 * j) (by omega) (la j) (nI (sz j)) s0j) mX2_becomeNothing vX2_becomeNothing kX5_202 dX5_lose_33 (by assumption) (by rfl) (by first | decide | omega) rfl (by decide) (by decide) rfl (Nat.le_of_ble_eq_true rfl) (fun E_33 h_33 => ?_)
      subst h_33
      refine G_iload_n (i := 2) hk dX5_lose_36 rfl rfl ?_
      refine G_iret hk dX5_lose_37 ?_
      exact ⟨by unfold vLose; rw [hixj]; (try first | rw [if_pos c_4] | rw [if_neg c_4]); (try first | rw [if_pos c_18] | rw [if_neg c_18]), by unfold lLose zLose; rw [if_pos c_4, if_pos c_4, hixj]; exact hC.row (m := 0) (by omega) (by omega), fr.up (by omega)⟩
  · try simp only [gB_ne, gB_eq, Decidable.not_not] at c_4
    refine G_iconst (v := (-1)) hk dX5_lose_7 (by decide) ?_
    refine G_iret hk dX5_lose_8 ?_
    exact ⟨by unfold vLose; (try first | rw [if_pos c_4] | rw [if_neg c_4]), by unfold lLose zLose; rw [if_neg c_4, if_neg c_4]; exact hC, fr.rf⟩

set_option maxHeartbeats 4000000 in
set_option maxRecDepth 100000 in
theorem c_X5_put (l : Launch) (V : gV) (ad : Nat → Nat) (E : Nat → va_E) (n rd : Nat) (R : Nat → Nat → Int32) (rp rw : Nat → Int32) (tr fa : Int32) (la : Nat → Int32) (sz : Nat → Nat) (cl : Nat → Nat → Int32) (hC : cR V ad E (n, R, rd, rp, rw, tr, fa, la, sz, cl)) (k i v : Int32) : Ct l V ad 44 44 yX5_put cX5_put 5 (some .int) { frames := 2, cells := 0, slots := 0, locals := 43 } [.ref (ad 0), .int k, .int i, .int v] E (pI ad (fun z E2 => z = vPut la sz k i ∧ cR V ad E2 (n, R, rd, rp, rw, tr, fPut la sz k i, la, sz, cPut la sz cl k i v) ∧ fr E E2)) := by
  refine gCt mX5_put (Nat.le_of_ble_eq_true rfl) ?_
  intro K hk
  obtain ⟨h0, ⟨π, hB⟩, ⟨dn, wo, dl, hA⟩, ⟨n2, π2, R2, hB2⟩, ⟨dn2, wo2, dl2, hA2⟩, h3, h4, h5, h6, h7⟩ := id hC
  obtain ⟨b0, b1, b2, b3, b4, b5, -⟩ := id hB
  obtain ⟨a0, a1⟩ := id hA
  have hn0 : nI n = 0 ↔ n = 0 := neq (b := 0) (by omega) (by omega)
  refine G_aload_n (i := 0) hk dX5_put_0 rfl rfl ?_
  refine G_iconst (v := 0) hk dX5_put_1 (by decide) ?_
  refine G_put hk fX5_35 iX5_7 dX5_put_2 (by assumption) (Nat.le_of_ble_eq_true rfl) (by first | decide | omega) ?_
  refine G_E (E2 := va_up E 0 (oC ad (nI rd) tr 0)) rfl ?_
  have hC1 := hC.sc (tr2 := tr) (fa2 := 0) h7
  have f1 : fr E (va_up E 0 (oC ad (nI rd) tr 0)) := fr.up (by omega)
  generalize va_up E 0 (oC ad (nI rd) tr 0) = E1 at hC1 f1 ⊢
  clear h0 hB hA hB2 hA2 h3 h4 h5 h6 b0 b1 b2 b4 b5 a0 a1 hC
  obtain ⟨h0, ⟨π, hB⟩, ⟨dn, wo, dl, hA⟩, ⟨n2, π2, R2, hB2⟩, ⟨dn2, wo2, dl2, hA2⟩, h3, h4, h5, h6, h7⟩ := id hC1
  obtain ⟨b0, b1, b2, b3, b4, b5, -⟩ := id hB
  refine G_iload_n (i := 1) hk dX5_put_5 rfl rfl ?_
  refine G_cSi hk (c_X5_isSheet l V ad E1 k) mX5_isSheet sX5_isSheet kX5_39 dX5_put_6 rfl (by decide) (by decide) rfl (Nat.le_of_ble_eq_true rfl) (fun r_6 E_6 h_6 => ?_)
  obtain ⟨rfl, rfl⟩ := h_6
  refine G_if_ne (tgt := 14) hk dX5_put_9 (by decide) (fun c_9 => ?_) (fun c_9 => ?_)
  · try simp only [gB_ne, gB_eq, Decidable.not_not] at c_9
    obtain ⟨j, hj, rfl⟩ := gIe (n := 3) c_9.1 c_9.2 (by omega)
    have hixj : ix (nI j) = j := ix_nI (by omega)
    obtain ⟨s0j, s1j, s2j⟩ := h6 j (by omega)
    have hc1 : sHc (sz j) i 1 ↔ (0 ≤ i ∧ i < nI (sz j)) := sHc1 s2j
    refine G_aload_n (i := 0) hk dX5_put_14 rfl rfl ?_
    refine G_get hk fX5_23 dX5_put_15 (by assumption) (by rfl) (by first | decide | omega) ?_
    refine G_iload_n (i := 1) hk dX5_put_18 rfl rfl ?_
    refine G_aaldRwX (j := j) hk dX5_put_19 (by assumption) rfl (by omega) (by decide) (by rfl) (by first | decide | omega) ?_
    refine G_astore hk dX5_put_20 (by decide) rfl ?_
    refine G_aload hk dX5_put_22 rfl ?_
    refine G_cVi hk (c_X2_isNothing l V ad E1 (26 + 2 * j) (by omega) (la j) (nI (sz j)) s0j) mX2_isNothing vX2_isNothing kX5_199 dX5_put_24 (by assumption) (by rfl) (by first | decide | omega) rfl (by decide) (by decide) rfl (Nat.le_of_ble_eq_true rfl) (fun r_24 E_24 h_24 => ?_)
    obtain ⟨rfl, rfl⟩ := h_24
    refine G_if_eq (tgt := 36) hk dX5_put_27 (by decide) (fun c_27 => ?_) (fun c_27 => ?_)
    · try simp only [gB_ne, gB_eq, Decidable.not_not] at c_27
      refine G_aload hk dX5_put_36 rfl ?_
      refine G_iload_n (i := 2) hk dX5_put_38 rfl rfl ?_
      refine G_iconst (v := 1) hk dX5_put_39 (by decide) ?_
      refine G_cVi hk (c_X2_hasCells l V ad E1 (26 + 2 * j) (by omega) (la j) (nI (sz j)) i 1 s0j) mX2_hasCells vX2_hasCells kX5_54 dX5_put_40 (by assumption) (by rfl) (by first | decide | omega) rfl (by decide) (by decide) rfl (Nat.le_of_ble_eq_true rfl) (fun r_40 E_40 h_40 => ?_)
      obtain ⟨rfl, rfl⟩ := h_40
      refine G_if_ne (tgt := 52) hk dX5_put_43 (by decide) (fun c_43 => ?_) (fun c_43 => ?_)
      · try simp only [gB_ne, gB_eq, Decidable.not_not] at c_43
        have hi := hc1.mp c_43
        obtain ⟨t, ht, rfl⟩ := gIx (Int32.not_lt.mpr hi.1) hi.2 (by omega)
        have hixt : ix (nI t) = t := ix_nI (by omega)
        refine G_aload hk dX5_put_52 rfl ?_
        refine G_iload_n (i := 2) hk dX5_put_54 rfl rfl ?_
        refine G_iload_n (i := 3) hk dX5_put_55 rfl rfl ?_
        refine G_cVv hk (c_X2_write l V ad E1 (26 + 2 * j) (by omega) (la j) (sz j) s2j (cl j) s0j s1j t ht v) mX2_write vX2_write kX5_205 dX5_put_56 (by assumption) (by rfl) (by first | decide | omega) rfl (by decide) (by decide) rfl (Nat.le_of_ble_eq_true rfl) (fun E_56 h_56 => ?_)
        subst h_56
        refine G_iconst (v := 1) hk dX5_put_59 (by decide) ?_
        refine G_iret hk dX5_put_60 ?_
        exact ⟨by unfold vPut; rw [hixj, if_pos c_9, if_neg c_27, if_pos hi], by unfold fPut cPut; rw [hixj, hixt, if_pos c_9, if_pos c_9, if_neg c_27, if_neg c_27, if_pos hi, if_pos hi]; exact hC1.cells (by omega) _, f1.tr (fr.up (by omega))⟩
      · try simp only [gB_ne, gB_eq, Decidable.not_not] at c_43
        have hi : ¬ (0 ≤ i ∧ i < nI (sz j)) := fun z => c_43 (hc1.mpr z)
        refine G_aload_n (i := 0) hk dX5_put_46 rfl rfl ?_
        refine G_iconst (v := 3) hk dX5_put_47 (by decide) ?_
        refine G_cVi hk (c_X5_faulted l V ad E1 n rd R rp rw tr 0 la sz cl hC1 3) mX5_faulted vX5_faulted kX5_51 dX5_put_48 (by assumption) (by rfl) (by first | decide | omega) rfl (by decide) (by decide) rfl (Nat.le_of_ble_eq_true rfl) (fun r_48 E_48 h_48 => ?_)
        obtain ⟨rfl, hCf, xf⟩ := h_48
        refine G_iret hk dX5_put_51 ?_
        exact ⟨by unfold vPut; rw [hixj, if_pos c_9, if_neg c_27, if_neg hi]; rfl, by unfold fPut cPut; rw [hixj, if_pos c_9, if_pos c_9, if_neg c_27, if_neg c_27, if_neg hi, if_neg hi]; exact hCf, f1.tr xf⟩
    · try simp only [gB_ne, gB_eq, Decidable.not_not] at c_27
      refine G_aload_n (i := 0) hk dX5_put_30 rfl rfl ?_
      refine G_iconst (v := 1) hk dX5_put_31 (by decide) ?_
      refine G_cVi hk (c_X5_faulted l V ad E1 n rd R rp rw tr 0 la sz cl hC1 1) mX5_faulted vX5_faulted kX5_51 dX5_put_32 (by assumption) (by rfl) (by first | decide | omega) rfl (by decide) (by decide) rfl (Nat.le_of_ble_eq_true rfl) (fun r_32 E_32 h_32 => ?_)
      obtain ⟨rfl, hCf, xf⟩ := h_32
      refine G_iret hk dX5_put_35 ?_
      exact ⟨by unfold vPut; rw [hixj]; (try first | rw [if_pos c_9] | rw [if_neg c_9]); (try first | rw [if_pos c_27] | rw [if_neg c_27]); rfl, by unfold fPut cPut; rw [hixj, if_pos c_9, if_pos c_9, if_pos c_27, if_pos c_27]; exact hCf, f1.tr xf⟩
  · try simp only [gB_ne, gB_eq, Decidable.not_not] at c_9
    refine G_iconst (v := (-1)) hk dX5_put_12 (by decide) ?_
    refine G_iret hk dX5_put_13 ?_
    exact ⟨by unfold vPut; (try first | rw [if_pos c_9] | rw [if_neg c_9]), by unfold fPut cPut; rw [if_neg c_9, if_neg c_9]; exact hC1, f1⟩
