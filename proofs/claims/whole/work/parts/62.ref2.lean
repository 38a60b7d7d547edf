set_option maxHeartbeats 4000000 in
set_option maxRecDepth 100000 in
theorem c_X6_asks (l : Launch) (V : gV) (ad : Nat → Nat) (E : Nat → va_E) (fa tr at1 rr rd : Int32) (n : Nat) (pa : Nat → Int32) (dn wo : Int32) (dl : Nat → Int32) (hM : mK V ad E fa tr at1 rr rd n pa dn wo dl) (ho : ∀ i, i < n → rOk (pR pa i)) (w : Nat) (wi : Int32) (hw : ∀ r, r < 7 → (nI r = wi ↔ r = w)) (x : Int32) : Ct l V ad 44 44 yX6_asks cX6_asks 5 none { frames := 2, cells := 0, slots := 0, locals := 46 } [.ref (ad 34), .int x, .int wi] E (pV ad (aPM V ad E fa tr at1 rr rd n pa (sAn (pR pa) w n 0 x))) := by
  refine gCt mX6_asks (Nat.le_of_ble_eq_true rfl) ?_
  intro K hk
  obtain ⟨m0, m1, m2, m3⟩ := id hM
  refine G_iload_n (i := 1) hk dX6_asks_0 rfl rfl ?_
  refine G_istore_n (i := 3) hk dX6_asks_1 rfl (by decide) rfl ?_
  refine G_aload_n (i := 0) hk dX6_asks_2 rfl rfl ?_
  refine G_iconst (v := 0) hk dX6_asks_3 (by decide) ?_
  refine G_put hk fX6_97 iX6_11 dX6_asks_4 (by assumption) (Nat.le_of_ble_eq_true rfl) (by first | decide | omega) ?_
  refine G_E (E2 := va_up E 34 (mO ad fa tr (nI n) at1 rr (0) (wo) rd)) rfl ?_
  have hMEa : mK V ad (va_up E 34 (mO ad fa tr (nI n) at1 rr (0) (wo) rd)) fa tr at1 rr rd n pa (0) (wo) (dl) := ⟨va_up_self _ _ _, (va_up_ne _ _ (by omega)).trans m1, (va_up_ne _ _ (by omega)).trans m2, m3⟩
  have xEa : exM E (va_up E 34 (mO ad fa tr (nI n) at1 rr (0) (wo) rd)) := fun k p q => va_up_ne _ _ p
  generalize va_up E 34 (mO ad fa tr (nI n) at1 rr (0) (wo) rd) = Ea at hMEa xEa ⊢
  clear m0 m1 m2
  obtain ⟨m0, m1, m2, m3⟩ := id hMEa
  refine G_aload_n (i := 0) hk dX6_asks_7 rfl rfl ?_
  refine G_iconst (v := 0) hk dX6_asks_8 (by decide) ?_
  refine G_put hk fX6_100 iX6_12 dX6_asks_9 (by assumption) (Nat.le_of_ble_eq_true rfl) (by first | decide | omega) ?_
  refine G_E (E2 := va_up Ea 34 (mO ad fa tr (nI n) at1 rr (0) (0) rd)) rfl ?_
  have hMEb : mK V ad (va_up Ea 34 (mO ad fa tr (nI n) at1 rr (0) (0) rd)) fa tr at1 rr rd n pa (0) (0) (dl) := ⟨va_up_self _ _ _, (va_up_ne _ _ (by omega)).trans m1, (va_up_ne _ _ (by omega)).trans m2, m3⟩
  have xEb : exM Ea (va_up Ea 34 (mO ad fa tr (nI n) at1 rr (0) (0) rd)) := fun k p q => va_up_ne _ _ p
  generalize va_up Ea 34 (mO ad fa tr (nI n) at1 rr (0) (0) rd) = Eb at hMEb xEb ⊢
  clear m0 m1 m2
  obtain ⟨m0, m1, m2, m3⟩ := id hMEb
  refine G_aload_n (i := 0) hk dX6_asks_12 rfl rfl ?_
  refine G_iload_n (i := 3) hk dX6_asks_13 rfl rfl ?_
  refine G_iconst (v := 0) hk dX6_asks_14 (by decide) ?_
  refine G_iload_n (i := 2) hk dX6_asks_15 rfl rfl ?_
  refine G_cVi hk (c_X6_firstOf l V ad Eb fa tr at1 rr rd n pa 0 0 dl hMEb x w wi hw 0 (Nat.zero_le n)) mX6_firstOf vX6_firstOf kX6_103 dX6_asks_16 (by assumption) (by rfl) (by first | decide | omega) rfl (by decide) (by decide) rfl (Nat.le_of_ble_eq_true rfl) (fun r_16 E_16 h_16 => ?_)
  obtain ⟨rfl, rfl⟩ := h_16
  refine G_istore hk dX6_asks_19 (by decide) rfl ?_
  have hsp := sFn_spec (pR pa) w x n n 0 (by omega)
  have hsl := sFn_le (R := pR pa) (w := w) (x := x) (Nat.zero_le n)
  refine G_lv (by exact And.intro rfl (And.intro rfl (And.intro rfl (And.intro rfl (trivial))))) (lp_X6_asks hk E fa tr at1 rr rd n pa ho w wi hw (sAn (pR pa) w n 0 x) (n + 1) (sFn (pR pa) w x n 0) x 0 [] Eb dl (by omega) hsl.2 (hsp.1.elim Or.inl (fun q => Or.inr q.2)) (Nat.zero_le _) (xEa.tr xEb) hMEb (fun i hi => absurd hi (Nat.not_lt_zero i)) ?_)
  rw [← hsp.2]
  unfold sC
  by_cases hq : (sAn (pR pa) w n 0 x).2 = []
  · rw [if_pos hq, Int32.zero_add]
    exact Prod.ext rfl hq
  · rw [if_neg hq]
    exact Prod.ext (sA_none (pR pa) w _ _ _ hq) rfl

set_option maxHeartbeats 4000000 in
set_option maxRecDepth 100000 in
theorem lp_X6_wins {l : Launch} {V : gV} {ad : Nat → Nat} {K : gX} (hk : gOk l { frames := 3, cells := 0, slots := 0, locals := 68 } K V cX6_wins 4 RX6 (some .int) yX6_wins.name) (E : Nat → va_E) (fa tr at1 rr rd : Int32) (n : Nat) (pa : Nat → Int32) (dn wo : Int32) (dl : Nat → Int32) (hM : mK V ad E fa tr at1 rr rd n pa dn wo dl) (r0 : Int32) : ∀ (k x : Nat) (c : Int32), 26 < x + k → x ≤ 26 → c = nI (fa_cnt (fun y => decide (sW (pR pa) n (nI y) = r0)) x) → G K V 4 (gQ K V 44 0 0 (pI ad (pS E (nI (sWon (pR pa) n r0))))) ad 44 0 0 4 [(0, .ref (ad 34)), (1, .int r0), (2, .int c), (3, .int (nI x))] [] E := by
  obtain ⟨m0, m1, m2, m3⟩ := id hM
  intro k
  induction k with
  | zero => intro x c hx; omega
  | succ k ih =>
    intro x c hx hx26 hc
    refine G_iload_n (i := 3) hk dX6_wins_4 rfl rfl ?_
    refine G_bipush (v := 26) hk dX6_wins_5 (by decide) ?_
    refine G_icmp_ge (tgt := 33) hk dX6_wins_7 (by decide) (fun c_7 => ?_) (fun c_7 => ?_)
    · try simp only [gB_ne, gB_eq, Decidable.not_not] at c_7
      have hge : 26 ≤ x := (nle (a := 26) (by omega) (by omega)).mp c_7
      have hxe : x = 26 := by omega
      subst hxe
      refine G_iload_n (i := 2) hk dX6_wins_33 rfl rfl ?_
      refine G_iret hk dX6_wins_34 ?_
      exact ⟨rfl, hc⟩
    · try simp only [gB_ne, gB_eq, Decidable.not_not] at c_7
      have hlt : x < 26 := Nat.lt_of_not_le (fun q => c_7 ((nle (a := 26) (by omega) (by omega)).mpr q))
      refine G_iload_n (i := 2) hk dX6_wins_10 rfl rfl ?_
      refine G_aload_n (i := 0) hk dX6_wins_11 rfl rfl ?_
      refine G_iload_n (i := 3) hk dX6_wins_12 rfl rfl ?_
      refine G_cVi hk (c_X6_winnerOf l V ad E fa tr at1 rr rd n pa dn wo dl hM (nI x)) mX6_winnerOf vX6_winnerOf kX6_113 dX6_wins_13 (by assumption) (by rfl) (by first | decide | omega) rfl (by decide) (by decide) rfl (Nat.le_of_ble_eq_true rfl) (fun r_13 E_13 h_13 => ?_)
      obtain ⟨rfl, rfl⟩ := h_13
      refine G_iload_n (i := 1) hk dX6_wins_16 rfl rfl ?_
      refine G_icmp_ne (tgt := 24) hk dX6_wins_17 (by decide) (fun c_17 => ?_) (fun c_17 => ?_)
      · try simp only [gB_ne, gB_eq, Decidable.not_not] at c_17
        refine G_iconst (v := 0) hk dX6_wins_24 (by decide) ?_
        refine G_iadd hk dX6_wins_25 ?_
        refine G_istore_n (i := 2) hk dX6_wins_26 rfl (by decide) rfl ?_
        refine G_iinc (v := nI (x + 1)) hk dX6_wins_27 rfl (nI_inc x) (by decide) rfl ?_
        refine G_goto (tgt := 4) hk dX6_wins_30 (by decide) ?_
        refine G_lv (by exact And.intro rfl (And.intro rfl (And.intro rfl (And.intro rfl (trivial))))) (ih (x + 1) _ (by omega) (by omega) ?_)
        first | (rw [hc, nI_i1, fa_cnt_yes (decide_eq_true c_17)]; done) | (rw [hc, nI_i1, fa_cnt_yes (decide_eq_true (Decidable.not_not.mp c_17))]; done) | (rw [hc, Int32.add_zero, fa_cnt_no (decide_eq_false c_17)]; done)
      · try simp only [gB_ne, gB_eq, Decidable.not_not] at c_17
        refine G_iconst (v := 1) hk dX6_wins_20 (by decide) ?_
        refine G_goto (tgt := 25) hk dX6_wins_21 (by decide) ?_
        refine G_iadd hk dX6_wins_25 ?_
        refine G_istore_n (i := 2) hk dX6_wins_26 rfl (by decide) rfl ?_
        refine G_iinc (v := nI (x + 1)) hk dX6_wins_27 rfl (nI_inc x) (by decide) rfl ?_
        refine G_goto (tgt := 4) hk dX6_wins_30 (by decide) ?_
        refine G_lv (by exact And.intro rfl (And.intro rfl (And.intro rfl (And.intro rfl (trivial))))) (ih (x + 1) _ (by omega) (by omega) ?_)
        first | (rw [hc, nI_i1, fa_cnt_yes (decide_eq_true c_17)]; done) | (rw [hc, nI_i1, fa_cnt_yes (decide_eq_true (Decidable.not_not.mp c_17))]; done) | (rw [hc, Int32.add_zero, fa_cnt_no (decide_eq_false c_17)]; done)

set_option maxHeartbeats 4000000 in
set_option maxRecDepth 100000 in
theorem c_X6_wins (l : Launch) (V : gV) (ad : Nat → Nat) (E : Nat → va_E) (fa tr at1 rr rd : Int32) (n : Nat) (pa : Nat → Int32) (dn wo : Int32) (dl : Nat → Int32) (hM : mK V ad E fa tr at1 rr rd n pa dn wo dl) (r0 : Int32) : Ct l V ad 44 44 yX6_wins cX6_wins 4 (some .int) { frames := 3, cells := 0, slots := 0, locals := 68 } [.ref (ad 34), .int r0] E (pI ad (pS E (nI (sWon (pR pa) n r0)))) := by
  refine gCt mX6_wins (Nat.le_of_ble_eq_true rfl) ?_
  intro K hk
  refine G_iconst (v := 0) hk dX6_wins_0 (by decide) ?_
  refine G_istore_n (i := 2) hk dX6_wins_1 rfl (by decide) rfl ?_
  refine G_iconst (v := 0) hk dX6_wins_2 (by decide) ?_
  refine G_istore_n (i := 3) hk dX6_wins_3 rfl (by decide) rfl ?_
  exact G_lv (by exact And.intro rfl (And.intro rfl (And.intro rfl (And.intro rfl (trivial))))) (lp_X6_wins hk E fa tr at1 rr rd n pa dn wo dl hM r0 27 0 0 (by omega) (by omega) rfl)

set_option maxHeartbeats 4000000 in
set_option maxRecDepth 100000 in
theorem lp_X6_runs {l : Launch} {V : gV} {ad : Nat → Nat} {K : gX} (hk : gOk l { frames := 3, cells := 0, slots := 0, locals := 68 } K V cX6_runs 3 RX6 (some .int) yX6_runs.name) (E : Nat → va_E) (fa tr at1 rr rd : Int32) (n : Nat) (pa : Nat → Int32) (dn wo : Int32) (dl : Nat → Int32) (hM : mK V ad E fa tr at1 rr rd n pa dn wo dl) (hn : ¬ n = 0) : ∀ (k x : Nat) (c : Int32), 26 < x + k → 1 ≤ x → x ≤ 26 → c = nI (fa_cnt (sBg (pR pa) n) x) → G K V 3 (gQ K V 44 0 0 (pI ad (pS E (nI (sRunsN (pR pa) n))))) ad 44 0 0 15 [(0, .ref (ad 34)), (1, .int c), (2, .int (nI x))] [] E := by
  obtain ⟨m0, m1, m2, m3⟩ := id hM
  intro k
  induction k with
  | zero => intro x c hx; omega
  | succ k ih =>
    intro x c hx hx1 hx26 hc
    have hm1 : nI x - 1 = nI (x - 1) := pk_sub (b := 1) hx1
    refine G_iload_n (i := 2) hk dX6_runs_15 rfl rfl ?_
    refine G_bipush (v := 26) hk dX6_runs_16 (by decide) ?_
    refine G_icmp_ge (tgt := 57) hk dX6_runs_18 (by decide) (fun c_18 => ?_) (fun c_18 => ?_)
    · try simp only [gB_ne, gB_eq, Decidable.not_not] at c_18
      have hge : 26 ≤ x := (nle (a := 26) (by omega) (by omega)).mp c_18
      have hxe : x = 26 := by omega
      subst hxe
      refine G_iload_n (i := 1) hk dX6_runs_57 rfl rfl ?_
      refine G_iret hk dX6_runs_58 ?_
      exact ⟨rfl, by unfold sRunsN; rw [if_neg hn]; exact hc⟩
    · try simp only [gB_ne, gB_eq, Decidable.not_not] at c_18
      have hlt : x < 26 := Nat.lt_of_not_le (fun q => c_18 ((nle (a := 26) (by omega) (by omega)).mpr q))
      refine G_aload_n (i := 0) hk dX6_runs_21 rfl rfl ?_
      refine G_get hk fX6_47 dX6_runs_22 (by assumption) (by rfl) (by first | decide | omega) ?_
      refine G_if_le (tgt := 57) hk dX6_runs_25 (by decide) (fun c_25 => ?_) (fun c_25 => ?_)
      · try simp only [gB_ne, gB_eq, Decidable.not_not] at c_25
        exact absurd c_25 (nI_nle (by omega) (by omega))
      · try simp only [gB_ne, gB_eq, Decidable.not_not] at c_25
        refine G_iload_n (i := 1) hk dX6_runs_28 rfl rfl ?_
        refine G_aload_n (i := 0) hk dX6_runs_29 rfl rfl ?_
        refine G_iload_n (i := 2) hk dX6_runs_30 rfl rfl ?_
        refine G_cVi hk (c_X6_winnerOf l V ad E fa tr at1 rr rd n pa dn wo dl hM (nI x)) mX6_winnerOf vX6_winnerOf kX6_113 dX6_runs_31 (by assumption) (by rfl) (by first | decide | omega) rfl (by decide) (by decide) rfl (Nat.le_of_ble_eq_true rfl) (fun r_31 E_31 h_31 => ?_)
        obtain ⟨rfl, rfl⟩ := h_31
        refine G_aload_n (i := 0) hk dX6_runs_34 rfl rfl ?_
        refine G_iload_n (i := 2) hk dX6_runs_35 rfl rfl ?_
        refine G_iconst (v := 1) hk dX6_runs_36 (by decide) ?_
        refine G_isub hk dX6_runs_37 ?_
        rw [hm1]
        refine G_cVi hk (c_X6_winnerOf l V ad E fa tr at1 rr rd n pa dn wo dl hM (nI (x - 1))) mX6_winnerOf vX6_winnerOf kX6_113 dX6_runs_38 (by assumption) (by rfl) (by first | decide | omega) rfl (by decide) (by decide) rfl (Nat.le_of_ble_eq_true rfl) (fun r_38 E_38 h_38 => ?_)
        obtain ⟨rfl, rfl⟩ := h_38
        refine G_icmp_ne (tgt := 48) hk dX6_runs_41 (by decide) (fun c_41 => ?_) (fun c_41 => ?_)
        · try simp only [gB_ne, gB_eq, Decidable.not_not] at c_41
          refine G_iconst (v := 1) hk dX6_runs_48 (by decide) ?_
          refine G_iadd hk dX6_runs_49 ?_
          refine G_istore_n (i := 1) hk dX6_runs_50 rfl (by decide) rfl ?_
          refine G_iinc (v := nI (x + 1)) hk dX6_runs_51 rfl (nI_inc x) (by decide) rfl ?_
          refine G_goto (tgt := 15) hk dX6_runs_54 (by decide) ?_
          refine G_lv (by exact And.intro rfl (And.intro rfl (And.intro rfl (trivial)))) (ih (x + 1) _ (by omega) (by omega) (by omega) ?_)
          first | (rw [hc, nI_i1, fa_cnt_yes (show sBg (pR pa) n x = true from decide_eq_true (Or.inr c_41))]; done) | (rw [hc, Int32.add_zero, fa_cnt_no (show sBg (pR pa) n x = false from decide_eq_false (fun q => q.elim (fun z => absurd z (by omega)) (fun z => z (by first | exact c_41 | exact Decidable.not_not.mp c_41))))]; done)
        · try simp only [gB_ne, gB_eq, Decidable.not_not] at c_41
          refine G_iconst (v := 0) hk dX6_runs_44 (by decide) ?_
          refine G_goto (tgt := 49) hk dX6_runs_45 (by decide) ?_
          refine G_iadd hk dX6_runs_49 ?_
          refine G_istore_n (i := 1) hk dX6_runs_50 rfl (by decide) rfl ?_
          refine G_iinc (v := nI (x + 1)) hk dX6_runs_51 rfl (nI_inc x) (by decide) rfl ?_
          refine G_goto (tgt := 15) hk dX6_runs_54 (by decide) ?_
          refine G_lv (by exact And.intro rfl (And.intro rfl (And.intro rfl (trivial)))) (ih (x + 1) _ (by omega) (by omega) (by omega) ?_)
          first | (rw [hc, nI_i1, fa_cnt_yes (show sBg (pR pa) n x = true from decide_eq_true (Or.inr c_41))]; done) | (rw [hc, Int32.add_zero, fa_cnt_no (show sBg (pR pa) n x = false from decide_eq_false (fun q => q.elim (fun z => absurd z (by omega)) (fun z => z (by first | exact c_41 | exact Decidable.not_not.mp c_41))))]; done)

set_option maxHeartbeats 4000000 in
set_option maxRecDepth 100000 in
theorem c_X6_runs (l : Launch) (V : gV) (ad : Nat → Nat) (E : Nat → va_E) (fa tr at1 rr rd : Int32) (n : Nat) (pa : Nat → Int32) (dn wo : Int32) (dl : Nat → Int32) (hM : mK V ad E fa tr at1 rr rd n pa dn wo dl) : Ct l V ad 44 44 yX6_runs cX6_runs 3 (some .int) { frames := 3, cells := 0, slots := 0, locals := 68 } [.ref (ad 34)] E (pI ad (pS E (nI (sRunsN (pR pa) n)))) := by
  refine gCt mX6_runs (Nat.le_of_ble_eq_true rfl) ?_
  intro K hk
  obtain ⟨m0, m1, m2, m3⟩ := id hM
  have hn0 : nI n = 0 ↔ n = 0 := neq (b := 0) (by omega) (by omega)
  by_cases hn : n = 0
  · subst hn
    refine G_aload_n (i := 0) hk dX6_runs_0 rfl rfl ?_
    refine G_get hk fX6_47 dX6_runs_1 (by assumption) (by rfl) (by first | decide | omega) ?_
    refine G_if_ne (tgt := 11) hk dX6_runs_4 (by decide) (fun c_4 => ?_) (fun c_4 => ?_)
    · try simp only [gB_ne, gB_eq, Decidable.not_not] at c_4
      exact absurd rfl c_4
    · try simp only [gB_ne, gB_eq, Decidable.not_not] at c_4
      refine G_iconst (v := 0) hk dX6_runs_7 (by decide) ?_
      refine G_goto (tgt := 12) hk dX6_runs_8 (by decide) ?_
      refine G_istore_n (i := 1) hk dX6_runs_12 rfl (by decide) rfl ?_
      refine G_iconst (v := 1) hk dX6_runs_13 (by decide) ?_
      refine G_istore_n (i := 2) hk dX6_runs_14 rfl (by decide) rfl ?_
      refine G_iload_n (i := 2) hk dX6_runs_15 rfl rfl ?_
      refine G_bipush (v := 26) hk dX6_runs_16 (by decide) ?_
      refine G_icmp_ge (tgt := 57) hk dX6_runs_18 (by decide) (fun c_18 => ?_) (fun c_18 => ?_)
      · try simp only [gB_ne, gB_eq, Decidable.not_not] at c_18
        exact absurd c_18 (by decide)
      · try simp only [gB_ne, gB_eq, Decidable.not_not] at c_18
        refine G_aload_n (i := 0) hk dX6_runs_21 rfl rfl ?_
        refine G_get hk fX6_47 dX6_runs_22 (by assumption) (by rfl) (by first | decide | omega) ?_
        refine G_if_le (tgt := 57) hk dX6_runs_25 (by decide) (fun c_25 => ?_) (fun c_25 => ?_)
        · try simp only [gB_ne, gB_eq, Decidable.not_not] at c_25
          refine G_iload_n (i := 1) hk dX6_runs_57 rfl rfl ?_
          refine G_iret hk dX6_runs_58 ?_
          exact ⟨rfl, by unfold sRunsN; rw [if_pos rfl]; rfl⟩
        · try simp only [gB_ne, gB_eq, Decidable.not_not] at c_25
          exact absurd (show nI 0 ≤ 0 by decide) c_25
  · skip
    refine G_aload_n (i := 0) hk dX6_runs_0 rfl rfl ?_
    refine G_get hk fX6_47 dX6_runs_1 (by assumption) (by rfl) (by first | decide | omega) ?_
    refine G_if_ne (tgt := 11) hk dX6_runs_4 (by decide) (fun c_4 => ?_) (fun c_4 => ?_)
    · try simp only [gB_ne, gB_eq, Decidable.not_not] at c_4
      refine G_iconst (v := 1) hk dX6_runs_11 (by decide) ?_
      refine G_istore_n (i := 1) hk dX6_runs_12 rfl (by decide) rfl ?_
      refine G_iconst (v := 1) hk dX6_runs_13 (by decide) ?_
      refine G_istore_n (i := 2) hk dX6_runs_14 rfl (by decide) rfl ?_
      exact G_lv (by exact And.intro rfl (And.intro rfl (And.intro rfl (trivial)))) (lp_X6_runs hk E fa tr at1 rr rd n pa dn wo dl hM hn 27 1 1 (by omega) (by omega) (by omega) (by rw [fa_cnt_yes (show sBg (pR pa) n 0 = true from decide_eq_true (Or.inl rfl))]; rfl))
    · try simp only [gB_ne, gB_eq, Decidable.not_not] at c_4
      exact absurd (hn0.mp (by first | exact c_4 | exact Decidable.not_not.mp c_4)) hn

set_option maxHeartbeats 4000000 in
set_option maxRecDepth 100000 in
theorem lp_X6_shadowed {l : Launch} {V : gV} {ad : Nat → Nat} {K : gX} (hk : gOk l { frames := 4, cells := 0, slots := 0, locals := 91 } K V cX6_shadowed 3 RX6 (some .int) yX6_shadowed.name) (E : Nat → va_E) (fa tr at1 rr rd : Int32) (n : Nat) (pa : Nat → Int32) (dn wo : Int32) (dl : Nat → Int32) (hM : mK V ad E fa tr at1 rr rd n pa dn wo dl) : ∀ (k r : Nat) (c : Int32), n < r + k → r ≤ n → c = sBits (fun r => decide (sWon (pR pa) n (nI r) = 0)) r → G K V 3 (gQ K V 44 0 0 (pI ad (pS E (sShad (pR pa) n)))) ad 44 0 0 4 [(0, .ref (ad 34)), (1, .int c), (2, .int (nI r))] [] E := by
  obtain ⟨m0, m1, m2, m3⟩ := id hM
  intro k
  induction k with
  | zero => intro r c hr; omega
  | succ k ih =>
    intro r c hr hrn hc
    refine G_iload_n (i := 2) hk dX6_shadowed_4 rfl rfl ?_
    refine G_aload_n (i := 0) hk dX6_shadowed_5 rfl rfl ?_
    refine G_get hk fX6_47 dX6_shadowed_6 (by assumption) (by rfl) (by first | decide | omega) ?_
    refine G_icmp_ge (tgt := 36) hk dX6_shadowed_9 (by decide) (fun c_9 => ?_) (fun c_9 => ?_)
    · try simp only [gB_ne, gB_eq, Decidable.not_not] at c_9
      have hge : n ≤ r := (nle (by omega) (by omega)).mp c_9
      have hre : r = n := by omega
      subst hre
      refine G_iload_n (i := 1) hk dX6_shadowed_36 rfl rfl ?_
      refine G_iret hk dX6_shadowed_37 ?_
      exact ⟨rfl, hc⟩
    · try simp only [gB_ne, gB_eq, Decidable.not_not] at c_9
      have hlt : r < n := Nat.lt_of_not_le (fun q => c_9 ((nle (by omega) (by omega)).mpr q))
      have hwl : sWon (pR pa) n (nI r) ≤ 26 := fa_cnt_le _ 26
      have hz0 : nI (sWon (pR pa) n (nI r)) = 0 ↔ sWon (pR pa) n (nI r) = 0 := neq (b := 0) (by omega) (by omega)
      refine G_iload_n (i := 1) hk dX6_shadowed_12 rfl rfl ?_
      refine G_aload_n (i := 0) hk dX6_shadowed_13 rfl rfl ?_
      refine G_iload_n (i := 2) hk dX6_shadowed_14 rfl rfl ?_
      refine G_cVi hk (c_X6_wins l V ad E fa tr at1 rr rd n pa dn wo dl hM (nI r)) mX6_wins vX6_wins kX6_119 dX6_shadowed_15 (by assumption) (by rfl) (by first | decide | omega) rfl (by decide) (by decide) rfl (Nat.le_of_ble_eq_true rfl) (fun r_15 E_15 h_15 => ?_)
      obtain ⟨rfl, rfl⟩ := h_15
      refine G_if_ne (tgt := 27) hk dX6_shadowed_18 (by decide) (fun c_18 => ?_) (fun c_18 => ?_)
      · try simp only [gB_ne, gB_eq, Decidable.not_not] at c_18
        have hz : ¬ sWon (pR pa) n (nI r) = 0 := fun q => c_18 (hz0.mpr q)
        refine G_iconst (v := 0) hk dX6_shadowed_27 (by decide) ?_
        refine G_ior hk dX6_shadowed_28 ?_
        refine G_istore_n (i := 1) hk dX6_shadowed_29 rfl (by decide) rfl ?_
        refine G_iinc (v := nI (r + 1)) hk dX6_shadowed_30 rfl (nI_inc r) (by decide) rfl ?_
        refine G_goto (tgt := 4) hk dX6_shadowed_33 (by decide) ?_
        refine G_lv (by exact And.intro rfl (And.intro rfl (And.intro rfl (trivial)))) (ih (r + 1) _ (by omega) (by omega) ?_)
        first | (rw [hc, sBits, if_pos (decide_eq_true hz)]; done) | (rw [hc, or_z, sBits, if_neg (by simpa using hz)]; done)
      · try simp only [gB_ne, gB_eq, Decidable.not_not] at c_18
        have hz : sWon (pR pa) n (nI r) = 0 := hz0.mp (by first | exact c_18 | exact Decidable.not_not.mp c_18)
        refine G_iconst (v := 1) hk dX6_shadowed_21 (by decide) ?_
        refine G_iload_n (i := 2) hk dX6_shadowed_22 rfl rfl ?_
        refine G_ishl hk dX6_shadowed_23 ?_
        refine G_goto (tgt := 28) hk dX6_shadowed_24 (by decide) ?_
        refine G_ior hk dX6_shadowed_28 ?_
        refine G_istore_n (i := 1) hk dX6_shadowed_29 rfl (by decide) rfl ?_
        refine G_iinc (v := nI (r + 1)) hk dX6_shadowed_30 rfl (nI_inc r) (by decide) rfl ?_
        refine G_goto (tgt := 4) hk dX6_shadowed_33 (by decide) ?_
        refine G_lv (by exact And.intro rfl (And.intro rfl (And.intro rfl (trivial)))) (ih (r + 1) _ (by omega) (by omega) ?_)
        first | (rw [hc, sBits, if_pos (decide_eq_true hz)]; done) | (rw [hc, or_z, sBits, if_neg (by simpa using hz)]; done)

set_option maxHeartbeats 4000000 in
set_option maxRecDepth 100000 in
theorem c_X6_shadowed (l : Launch) (V : gV) (ad : Nat → Nat) (E : Nat → va_E) (fa tr at1 rr rd : Int32) (n : Nat) (pa : Nat → Int32) (dn wo : Int32) (dl : Nat → Int32) (hM : mK V ad E fa tr at1 rr rd n pa dn wo dl) : Ct l V ad 44 44 yX6_shadowed cX6_shadowed 3 (some .int) { frames := 4, cells := 0, slots := 0, locals := 91 } [.ref (ad 34)] E (pI ad (pS E (sShad (pR pa) n))) := by
  refine gCt mX6_shadowed (Nat.le_of_ble_eq_true rfl) ?_
  intro K hk
  have m3 := hM.2.2.2
  refine G_iconst (v := 0) hk dX6_shadowed_0 (by decide) ?_
  refine G_istore_n (i := 1) hk dX6_shadowed_1 rfl (by decide) rfl ?_
  refine G_iconst (v := 0) hk dX6_shadowed_2 (by decide) ?_
  refine G_istore_n (i := 2) hk dX6_shadowed_3 rfl (by decide) rfl ?_
  exact G_lv (by exact And.intro rfl (And.intro rfl (And.intro rfl (trivial)))) (lp_X6_shadowed hk E fa tr at1 rr rd n pa dn wo dl hM (n + 1) 0 0 (by omega) (by omega) rfl)

set_option maxHeartbeats 4000000 in
set_option maxRecDepth 100000 in
theorem lp_X6_manyDenied {l : Launch} {V : gV} {ad : Nat → Nat} {K : gX} (hk : gOk l { frames := 3, cells := 0, slots := 0, locals := 70 } K V cX6_manyDenied 3 RX6 (some .int) yX6_manyDenied.name) (E0 : Nat → va_E) (fa tr at1 rr rd : Int32) (n : Nat) (pa : Nat → Int32) (ho : ∀ i, i < n → rOk (pR pa i)) : ∀ (k x : Nat) (c : Int32) (E : Nat → va_E), 26 < x + k → x ≤ 26 → mX V ad E0 fa tr at1 rr rd n pa E → c = nI (fa_cnt (sDn (pR pa) n) x) → G K V 3 (gQ K V 44 0 0 (pI ad (fun z E2 => z = 26 - nI (sCw (pR pa) n 0) ∧ mX V ad E0 fa tr at1 rr rd n pa E2))) ad 44 0 0 4 [(0, .ref (ad 34)), (1, .int c), (2, .int (nI x))] [] E := by
  intro k
  induction k with
  | zero => intro x c E hx; omega
  | succ k ih =>
    intro x c E hx hx26 hX hc
    obtain ⟨dn, wo, dl, hM⟩ := hX.2
    obtain ⟨m0, m1, m2, m3⟩ := id hM
    refine G_iload_n (i := 2) hk dX6_manyDenied_4 rfl rfl ?_
    refine G_bipush (v := 26) hk dX6_manyDenied_5 (by decide) ?_
    refine G_icmp_ge (tgt := 38) hk dX6_manyDenied_7 (by decide) (fun c_7 => ?_) (fun c_7 => ?_)
    · try simp only [gB_ne, gB_eq, Decidable.not_not] at c_7
      have hge : 26 ≤ x := (nle (a := 26) (by omega) (by omega)).mp c_7
      have hxe : x = 26 := by omega
      subst hxe
      refine G_iload_n (i := 1) hk dX6_manyDenied_38 rfl rfl ?_
      refine G_iret hk dX6_manyDenied_39 ?_
      exact ⟨by rw [hc]; exact sDn_cw m3 ho, hX⟩
    · try simp only [gB_ne, gB_eq, Decidable.not_not] at c_7
      have hlt : x < 26 := Nat.lt_of_not_le (fun q => c_7 ((nle (a := 26) (by omega) (by omega)).mpr q))
      refine G_aload_n (i := 0) hk dX6_manyDenied_10 rfl rfl ?_
      refine G_iload_n (i := 2) hk dX6_manyDenied_11 rfl rfl ?_
      refine G_bipush (v := (-9)) hk dX6_manyDenied_12 (by decide) ?_
      refine G_cVv hk (c_X6_asks l V ad E fa tr at1 rr rd n pa dn wo dl hM ho 99 (-9) hw99' (nI x)) mX6_asks vX6_asks kX6_132 dX6_manyDenied_14 (by assumption) (by rfl) (by first | decide | omega) rfl (by decide) (by decide) rfl (Nat.le_of_ble_eq_true rfl) (fun E_14 h_14 => ?_)
      have hX2 := hX.tr h_14.x
      obtain ⟨-, dl2, hM2, -⟩ := h_14
      obtain ⟨m20, m21, m22, -⟩ := id hM2
      have hln : (sAn (pR pa) 99 n 0 (nI x)).2.length ≤ 8 := Nat.le_trans sAn_len (by omega)
      have hpos : nI (sAn (pR pa) 99 n 0 (nI x)).2.length ≤ 0 ↔ (sAn (pR pa) 99 n 0 (nI x)).2 = [] := (nle (b := 0) (by omega) (by omega)).trans (by rw [Nat.le_zero, List.length_eq_zero_iff])
      refine G_iload_n (i := 1) hk dX6_manyDenied_17 rfl rfl ?_
      refine G_aload_n (i := 0) hk dX6_manyDenied_18 rfl rfl ?_
      refine G_get hk fX6_97 dX6_manyDenied_19 (by assumption) (by rfl) (by first | decide | omega) ?_
      refine G_if_le (tgt := 29) hk dX6_manyDenied_22 (by decide) (fun c_22 => ?_) (fun c_22 => ?_)
      · try simp only [gB_ne, gB_eq, Decidable.not_not] at c_22
        refine G_iconst (v := 0) hk dX6_manyDenied_29 (by decide) ?_
        refine G_iadd hk dX6_manyDenied_30 ?_
        refine G_istore_n (i := 1) hk dX6_manyDenied_31 rfl (by decide) rfl ?_
        refine G_iinc (v := nI (x + 1)) hk dX6_manyDenied_32 rfl (nI_inc x) (by decide) rfl ?_
        refine G_goto (tgt := 4) hk dX6_manyDenied_35 (by decide) ?_
        refine G_lv (by exact And.intro rfl (And.intro rfl (And.intro rfl (trivial)))) (ih (x + 1) _ _ (by omega) (by omega) hX2 ?_)
        first | (rw [hc, Int32.add_zero, fa_cnt_no (show sDn (pR pa) n x = false from decide_eq_false (fun q => q (hpos.mp c_22)))]; done) | (rw [hc, nI_i1, fa_cnt_yes (show sDn (pR pa) n x = true from decide_eq_true (fun q => c_22 (hpos.mpr q)))]; done)
      · try simp only [gB_ne, gB_eq, Decidable.not_not] at c_22
        refine G_iconst (v := 1) hk dX6_manyDenied_25 (by decide) ?_
        refine G_goto (tgt := 30) hk dX6_manyDenied_26 (by decide) ?_
        refine G_iadd hk dX6_manyDenied_30 ?_
        refine G_istore_n (i := 1) hk dX6_manyDenied_31 rfl (by decide) rfl ?_
        refine G_iinc (v := nI (x + 1)) hk dX6_manyDenied_32 rfl (nI_inc x) (by decide) rfl ?_
        refine G_goto (tgt := 4) hk dX6_manyDenied_35 (by decide) ?_
        refine G_lv (by exact And.intro rfl (And.intro rfl (And.intro rfl (trivial)))) (ih (x + 1) _ _ (by omega) (by omega) hX2 ?_)
        first | (rw [hc, Int32.add_zero, fa_cnt_no (show sDn (pR pa) n x = false from decide_eq_false (fun q => q (hpos.mp c_22)))]; done) | (rw [hc, nI_i1, fa_cnt_yes (show sDn (pR pa) n x = true from decide_eq_true (fun q => c_22 (hpos.mpr q)))]; done)

set_option maxHeartbeats 4000000 in
set_option maxRecDepth 100000 in
theorem c_X6_manyDenied (l : Launch) (V : gV) (ad : Nat → Nat) (E : Nat → va_E) (fa tr at1 rr rd : Int32) (n : Nat) (pa : Nat → Int32) (dn wo : Int32) (dl : Nat → Int32) (hM : mK V ad E fa tr at1 rr rd n pa dn wo dl) (ho : ∀ i, i < n → rOk (pR pa i)) : Ct l V ad 44 44 yX6_manyDenied cX6_manyDenied 3 (some .int) { frames := 3, cells := 0, slots := 0, locals := 70 } [.ref (ad 34)] E (pI ad (fun z E2 => z = 26 - nI (sCw (pR pa) n 0) ∧ mX V ad E fa tr at1 rr rd n pa E2)) := by
  refine gCt mX6_manyDenied (Nat.le_of_ble_eq_true rfl) ?_
  intro K hk
  refine G_iconst (v := 0) hk dX6_manyDenied_0 (by decide) ?_
  refine G_istore_n (i := 1) hk dX6_manyDenied_1 rfl (by decide) rfl ?_
  refine G_iconst (v := 0) hk dX6_manyDenied_2 (by decide) ?_
  refine G_istore_n (i := 2) hk dX6_manyDenied_3 rfl (by decide) rfl ?_
  exact G_lv (by exact And.intro rfl (And.intro rfl (And.intro rfl (trivial)))) (lp_X6_manyDenied hk E fa tr at1 rr rd n pa ho 27 0 0 E (by omega) (by omega) ⟨exM.rf, dn, wo, dl, hM⟩ rfl)

set_option maxHeartbeats 4000000 in
set_option maxRecDepth 100000 in
theorem lp_X6_worthInAll {l : Launch} {V : gV} {ad : Nat → Nat} {K : gX} (hk : gOk l { frames := 3, cells := 0, slots := 0, locals := 70 } K V cX6_worthInAll 3 RX6 (some .int) yX6_worthInAll.name) (E0 : Nat → va_E) (fa tr at1 rr rd : Int32) (n : Nat) (pa : Nat → Int32) (ho : ∀ i, i < n → rOk (pR pa i)) : ∀ (k x : Nat) (c : Int32) (E : Nat → va_E), 26 < x + k → x ≤ 26 → mX V ad E0 fa tr at1 rr rd n pa E → c = bx_sum (fun y => if sX (pR pa) n y = -9 then 0 else sX (pR pa) n y) x → G K V 3 (gQ K V 44 0 0 (pI ad (fun z E2 => z = sSum (pR pa) n ∧ mX V ad E0 fa tr at1 rr rd n pa E2))) ad 44 0 0 4 [(0, .ref (ad 34)), (1, .int c), (2, .int (nI x))] [] E := by
  intro k
  induction k with
  | zero => intro x c E hx; omega
  | succ k ih =>
    intro x c E hx hx26 hX hc
    obtain ⟨dn, wo, dl, hM⟩ := hX.2
    obtain ⟨m0, m1, m2, m3⟩ := id hM
    refine G_iload_n (i := 2) hk dX6_worthInAll_4 rfl rfl ?_
    refine G_bipush (v := 26) hk dX6_worthInAll_5 (by decide) ?_
    refine G_icmp_ge (tgt := 41) hk dX6_worthInAll_7 (by decide) (fun c_7 => ?_) (fun c_7 => ?_)
    · try simp only [gB_ne, gB_eq, Decidable.not_not] at c_7
      have hge : 26 ≤ x := (nle (a := 26) (by omega) (by omega)).mp c_7
      have hxe : x = 26 := by omega
      subst hxe
      refine G_iload_n (i := 1) hk dX6_worthInAll_41 rfl rfl ?_
      refine G_iret hk dX6_worthInAll_42 ?_
      exact ⟨hc, hX⟩
    · try simp only [gB_ne, gB_eq, Decidable.not_not] at c_7
      have hlt : x < 26 := Nat.lt_of_not_le (fun q => c_7 ((nle (a := 26) (by omega) (by omega)).mpr q))
      refine G_aload_n (i := 0) hk dX6_worthInAll_10 rfl rfl ?_
      refine G_iload_n (i := 2) hk dX6_worthInAll_11 rfl rfl ?_
      refine G_bipush (v := (-9)) hk dX6_worthInAll_12 (by decide) ?_
      refine G_cVv hk (c_X6_asks l V ad E fa tr at1 rr rd n pa dn wo dl hM ho 99 (-9) hw99' (nI x)) mX6_asks vX6_asks kX6_132 dX6_worthInAll_14 (by assumption) (by rfl) (by first | decide | omega) rfl (by decide) (by decide) rfl (Nat.le_of_ble_eq_true rfl) (fun E_14 h_14 => ?_)
      have hX2 := hX.tr h_14.x
      obtain ⟨-, dl2, hM2, -⟩ := h_14
      obtain ⟨m20, m21, m22, -⟩ := id hM2
      have hln : (sAn (pR pa) 99 n 0 (nI x)).2.length ≤ 8 := Nat.le_trans sAn_len (by omega)
      have hpos : nI (sAn (pR pa) 99 n 0 (nI x)).2.length ≤ 0 ↔ (sAn (pR pa) 99 n 0 (nI x)).2 = [] := (nle (b := 0) (by omega) (by omega)).trans (by rw [Nat.le_zero, List.length_eq_zero_iff])
      refine G_iload_n (i := 1) hk dX6_worthInAll_17 rfl rfl ?_
      refine G_aload_n (i := 0) hk dX6_worthInAll_18 rfl rfl ?_
      refine G_get hk fX6_97 dX6_worthInAll_19 (by assumption) (by rfl) (by first | decide | omega) ?_
      refine G_if_le (tgt := 29) hk dX6_worthInAll_22 (by decide) (fun c_22 => ?_) (fun c_22 => ?_)
      · try simp only [gB_ne, gB_eq, Decidable.not_not] at c_22
        refine G_aload_n (i := 0) hk dX6_worthInAll_29 rfl rfl ?_
        refine G_get hk fX6_100 dX6_worthInAll_30 (by assumption) (by rfl) (by first | decide | omega) ?_
        refine G_iadd hk dX6_worthInAll_33 ?_
        refine G_istore_n (i := 1) hk dX6_worthInAll_34 rfl (by decide) rfl ?_
        refine G_iinc (v := nI (x + 1)) hk dX6_worthInAll_35 rfl (nI_inc x) (by decide) rfl ?_
        refine G_goto (tgt := 4) hk dX6_worthInAll_38 (by decide) ?_
        refine G_lv (by exact And.intro rfl (And.intro rfl (And.intro rfl (trivial)))) (ih (x + 1) _ _ (by omega) (by omega) hX2 ?_)
        rw [hc]
        show _ = _ + (if sX (pR pa) n x = -9 then 0 else sX (pR pa) n x)
        first | (rw [if_neg (show ¬ sX (pR pa) n x = -9 from fun q => (sX_iff m3 ho (nI x)).mp q (hpos.mp c_22))]; first | rfl | done) | (rw [if_pos (show sX (pR pa) n x = -9 from (sX_iff m3 ho (nI x)).mpr (fun q => c_22 (hpos.mpr q)))])
      · try simp only [gB_ne, gB_eq, Decidable.not_not] at c_22
        refine G_iconst (v := 0) hk dX6_worthInAll_25 (by decide) ?_
        refine G_goto (tgt := 33) hk dX6_worthInAll_26 (by decide) ?_
        refine G_iadd hk dX6_worthInAll_33 ?_
        refine G_istore_n (i := 1) hk dX6_worthInAll_34 rfl (by decide) rfl ?_
        refine G_iinc (v := nI (x + 1)) hk dX6_worthInAll_35 rfl (nI_inc x) (by decide) rfl ?_
        refine G_goto (tgt := 4) hk dX6_worthInAll_38 (by decide) ?_
        refine G_lv (by exact And.intro rfl (And.intro rfl (And.intro rfl (trivial)))) (ih (x + 1) _ _ (by omega) (by omega) hX2 ?_)
        rw [hc]
        show _ = _ + (if sX (pR pa) n x = -9 then 0 else sX (pR pa) n x)
        first | (rw [if_neg (show ¬ sX (pR pa) n x = -9 from fun q => (sX_iff m3 ho (nI x)).mp q (hpos.mp c_22))]; first | rfl | done) | (rw [if_pos (show sX (pR pa) n x = -9 from (sX_iff m3 ho (nI x)).mpr (fun q => c_22 (hpos.mpr q)))])

set_option maxHeartbeats 4000000 in
set_option maxRecDepth 100000 in
theorem c_X6_worthInAll (l : Launch) (V : gV) (ad : Nat → Nat) (E : Nat → va_E) (fa tr at1 rr rd : Int32) (n : Nat) (pa : Nat → Int32) (dn wo : Int32) (dl : Nat → Int32) (hM : mK V ad E fa tr at1 rr rd n pa dn wo dl) (ho : ∀ i, i < n → rOk (pR pa i)) : Ct l V ad 44 44 yX6_worthInAll cX6_worthInAll 3 (some .int) { frames := 3, cells := 0, slots := 0, locals := 70 } [.ref (ad 34)] E (pI ad (fun z E2 => z = sSum (pR pa) n ∧ mX V ad E fa tr at1 rr rd n pa E2)) := by
  refine gCt mX6_worthInAll (Nat.le_of_ble_eq_true rfl) ?_
  intro K hk
  refine G_iconst (v := 0) hk dX6_worthInAll_0 (by decide) ?_
  refine G_istore_n (i := 1) hk dX6_worthInAll_1 rfl (by decide) rfl ?_
  refine G_iconst (v := 0) hk dX6_worthInAll_2 (by decide) ?_
  refine G_istore_n (i := 2) hk dX6_worthInAll_3 rfl (by decide) rfl ?_
  exact G_lv (by exact And.intro rfl (And.intro rfl (And.intro rfl (trivial)))) (lp_X6_worthInAll hk E fa tr at1 rr rd n pa ho 27 0 0 E (by omega) (by omega) ⟨exM.rf, dn, wo, dl, hM⟩ rfl)

set_option maxHeartbeats 4000000 in
set_option maxRecDepth 100000 in
theorem li_X6_needed {l : Launch} {V : gV} {ad : Nat → Nat} {K : gX} (hk : gOk l { frames := 3, cells := 0, slots := 0, locals := 70 } K V cX6_needed 5 RX6 (some .int) yX6_needed.name) (E0 : Nat → va_E) (fa tr at1 rr rd : Int32) (n : Nat) (pa : Nat → Int32) (ho : ∀ i, i < n → rOk (pR pa i)) (r : Nat) (hr : r < n) (base : Int32) (Z : Int32 → (Nat → va_E) → Prop) : (∀ (c : Int32) (E : Nat → va_E), mX V ad E0 fa tr at1 rr rd n pa E → c = (if 0 < fa_cnt (fun y => decide (sX (pR pa) n y ≠ (sAn (pR pa) r n 0 (nI y)).1)) 26 then base ||| ((1 : Int32) <<< (nI r &&& 31)) else base) → G K V 5 (gQ K V 44 0 0 (pI ad Z)) ad 44 0 0 64 [(0, .ref (ad 34)), (1, .int c), (2, .int (nI r))] [] E) → ∀ (k x : Nat) (c : Int32) (E : Nat → va_E), 26 < x + k → x ≤ 26 → mX V ad E0 fa tr at1 rr rd n pa E → c = (if 0 < fa_cnt (fun y => decide (sX (pR pa) n y ≠ (sAn (pR pa) r n 0 (nI y)).1)) x then base ||| ((1 : Int32) <<< (nI r &&& 31)) else base) → G K V 5 (gQ K V 44 0 0 (pI ad (Z))) ad 44 0 0 14 [(0, .ref (ad 34)), (1, .int c), (2, .int (nI r)), (3, .int (nI x))] [] E := by
  intro hend k
  induction k with
  | zero => intro x c E hx; omega
  | succ k ih =>
    intro x c E hx hx26 hX hc
    obtain ⟨dn, wo, dl, hM⟩ := hX.2
    obtain ⟨m0, m1, m2, m3⟩ := id hM
    have hm := fa_cnt_mono (fun y => decide (sX (pR pa) n y ≠ (sAn (pR pa) r n 0 (nI y)).1)) (a := x) (b := x + 1) (by omega)
    refine G_iload_n (i := 3) hk dX6_needed_14 rfl rfl ?_
    refine G_bipush (v := 26) hk dX6_needed_15 (by decide) ?_
    refine G_icmp_ge (tgt := 64) hk dX6_needed_17 (by decide) (fun c_17 => ?_) (fun c_17 => ?_)
    · try simp only [gB_ne, gB_eq, Decidable.not_not] at c_17
      have hge : 26 ≤ x := (nle (a := 26) (by omega) (by omega)).mp c_17
      have hxe : x = 26 := by omega
      subst hxe
      exact G_lv (by exact And.intro rfl (And.intro rfl (And.intro rfl (trivial)))) (hend c E hX hc)
    · try simp only [gB_ne, gB_eq, Decidable.not_not] at c_17
      have hlt : x < 26 := Nat.lt_of_not_le (fun q => c_17 ((nle (a := 26) (by omega) (by omega)).mpr q))
      refine G_aload_n (i := 0) hk dX6_needed_20 rfl rfl ?_
      refine G_iload_n (i := 3) hk dX6_needed_21 rfl rfl ?_
      refine G_bipush (v := (-9)) hk dX6_needed_22 (by decide) ?_
      refine G_cVv hk (c_X6_asks l V ad E fa tr at1 rr rd n pa dn wo dl hM ho 99 (-9) hw99' (nI x)) mX6_asks vX6_asks kX6_132 dX6_needed_24 (by assumption) (by rfl) (by first | decide | omega) rfl (by decide) (by decide) rfl (Nat.le_of_ble_eq_true rfl) (fun E_24 h_24 => ?_)
      have hX2 := hX.tr h_24.x
      obtain ⟨-, dl2, hM2, -⟩ := h_24
      obtain ⟨m20, m21, m22, -⟩ := id hM2
      have hln : (sAn (pR pa) 99 n 0 (nI x)).2.length ≤ 8 := Nat.le_trans sAn_len (by omega)
      have hpos : nI (sAn (pR pa) 99 n 0 (nI x)).2.length ≤ 0 ↔ (sAn (pR pa) 99 n 0 (nI x)).2 = [] := (nle (b := 0) (by omega) (by omega)).trans (by rw [Nat.le_zero, List.length_eq_zero_iff])
      refine G_aload_n (i := 0) hk dX6_needed_27 rfl rfl ?_
      refine G_get hk fX6_100 dX6_needed_28 (by assumption) (by rfl) (by first | decide | omega) ?_
      refine G_istore hk dX6_needed_31 (by decide) rfl ?_
      refine G_aload_n (i := 0) hk dX6_needed_33 rfl rfl ?_
      refine G_iload_n (i := 3) hk dX6_needed_34 rfl rfl ?_
      refine G_iload_n (i := 2) hk dX6_needed_35 rfl rfl ?_
      refine G_cVv hk (c_X6_asks l V ad E_24 fa tr at1 rr rd n pa _ _ dl2 hM2 ho r (nI r) (fun q h => neq (by omega) (by omega)) (nI x)) mX6_asks vX6_asks kX6_132 dX6_needed_36 (by assumption) (by rfl) (by first | decide | omega) rfl (by decide) (by decide) rfl (Nat.le_of_ble_eq_true rfl) (fun E_36 h_36 => ?_)
      have hX3 := hX2.tr h_36.x
      obtain ⟨-, dl3, hM3, -⟩ := h_36
      obtain ⟨m30, m31, m32, -⟩ := id hM3
      refine G_iload_n (i := 1) hk dX6_needed_39 rfl rfl ?_
      refine G_aload_n (i := 0) hk dX6_needed_40 rfl rfl ?_
      refine G_get hk fX6_100 dX6_needed_41 (by assumption) (by rfl) (by first | decide | omega) ?_
      refine G_iload hk dX6_needed_44 rfl ?_
      refine G_icmp_ne (tgt := 53) hk dX6_needed_46 (by decide) (fun c_46 => ?_) (fun c_46 => ?_)
      · try simp only [gB_ne, gB_eq, Decidable.not_not] at c_46
        refine G_iconst (v := 1) hk dX6_needed_53 (by decide) ?_
        refine G_iload_n (i := 2) hk dX6_needed_54 rfl rfl ?_
        refine G_ishl hk dX6_needed_55 ?_
        refine G_ior hk dX6_needed_56 ?_
        refine G_istore_n (i := 1) hk dX6_needed_57 rfl (by decide) rfl ?_
        refine G_iinc (v := nI (x + 1)) hk dX6_needed_58 rfl (nI_inc x) (by decide) rfl ?_
        refine G_goto (tgt := 14) hk dX6_needed_61 (by decide) ?_
        refine G_lv (by exact And.intro rfl (And.intro rfl (And.intro rfl (And.intro rfl (trivial))))) (ih (x + 1) _ _ (by omega) (by omega) hX3 ?_)
        first
          | (rw [hc, or_z, fa_cnt_no (show (fun y => decide (sX (pR pa) n y ≠ (sAn (pR pa) r n 0 (nI y)).1)) x = false from decide_eq_false (fun q => q c_46.symm))]; done)
          | (rw [hc, or_z, fa_cnt_no (show (fun y => decide (sX (pR pa) n y ≠ (sAn (pR pa) r n 0 (nI y)).1)) x = false from decide_eq_false (fun q => q (Decidable.not_not.mp c_46).symm))]; done)
          | (have hy : (fun y => decide (sX (pR pa) n y ≠ (sAn (pR pa) r n 0 (nI y)).1)) x = true := decide_eq_true (fun q => c_46 q.symm)
             rw [fa_cnt_yes hy, if_pos (Nat.succ_pos _), hc]
             by_cases h0 : 0 < fa_cnt (fun y => decide (sX (pR pa) n y ≠ (sAn (pR pa) r n 0 (nI y)).1)) x
             · rw [if_pos h0, or_idem]
             · rw [if_neg h0])
      · try simp only [gB_ne, gB_eq, Decidable.not_not] at c_46
        refine G_iconst (v := 0) hk dX6_needed_49 (by decide) ?_
        refine G_goto (tgt := 56) hk dX6_needed_50 (by decide) ?_
        refine G_ior hk dX6_needed_56 ?_
        refine G_istore_n (i := 1) hk dX6_needed_57 rfl (by decide) rfl ?_
        refine G_iinc (v := nI (x + 1)) hk dX6_needed_58 rfl (nI_inc x) (by decide) rfl ?_
        refine G_goto (tgt := 14) hk dX6_needed_61 (by decide) ?_
        refine G_lv (by exact And.intro rfl (And.intro rfl (And.intro rfl (And.intro rfl (trivial))))) (ih (x + 1) _ _ (by omega) (by omega) hX3 ?_)
        first
          | (rw [hc, or_z, fa_cnt_no (show (fun y => decide (sX (pR pa) n y ≠ (sAn (pR pa) r n 0 (nI y)).1)) x = false from decide_eq_false (fun q => q c_46.symm))]; done)
          | (rw [hc, or_z, fa_cnt_no (show (fun y => decide (sX (pR pa) n y ≠ (sAn (pR pa) r n 0 (nI y)).1)) x = false from decide_eq_false (fun q => q (Decidable.not_not.mp c_46).symm))]; done)
          | (have hy : (fun y => decide (sX (pR pa) n y ≠ (sAn (pR pa) r n 0 (nI y)).1)) x = true := decide_eq_true (fun q => c_46 q.symm)
             rw [fa_cnt_yes hy, if_pos (Nat.succ_pos _), hc]
             by_cases h0 : 0 < fa_cnt (fun y => decide (sX (pR pa) n y ≠ (sAn (pR pa) r n 0 (nI y)).1)) x
             · rw [if_pos h0, or_idem]
             · rw [if_neg h0])

set_option maxHeartbeats 4000000 in
set_option maxRecDepth 100000 in
theorem lp_X6_needed {l : Launch} {V : gV} {ad : Nat → Nat} {K : gX} (hk : gOk l { frames := 3, cells := 0, slots := 0, locals := 70 } K V cX6_needed 5 RX6 (some .int) yX6_needed.name) (E0 : Nat → va_E) (fa tr at1 rr rd : Int32) (n : Nat) (pa : Nat → Int32) (ho : ∀ i, i < n → rOk (pR pa i)) : ∀ (k r : Nat) (c : Int32) (E : Nat → va_E), n < r + k → r ≤ n → mX V ad E0 fa tr at1 rr rd n pa E → c = sBits (sNeed (pR pa) n) r → G K V 5 (gQ K V 44 0 0 (pI ad (fun z E2 => z = sNeeds (pR pa) n ∧ mX V ad E0 fa tr at1 rr rd n pa E2))) ad 44 0 0 4 [(0, .ref (ad 34)), (1, .int c), (2, .int (nI r))] [] E := by
  intro k
  induction k with
  | zero => intro r c E hr; omega
  | succ k ih =>
    intro r c E hr hrn hX hc
    obtain ⟨dn, wo, dl, hM⟩ := hX.2
    obtain ⟨m0, m1, m2, m3⟩ := id hM
    refine G_iload_n (i := 2) hk dX6_needed_4 rfl rfl ?_
    refine G_aload_n (i := 0) hk dX6_needed_5 rfl rfl ?_
    refine G_get hk fX6_47 dX6_needed_6 (by assumption) (by rfl) (by first | decide | omega) ?_
    refine G_icmp_ge (tgt := 70) hk dX6_needed_9 (by decide) (fun c_9 => ?_) (fun c_9 => ?_)
    · try simp only [gB_ne, gB_eq, Decidable.not_not] at c_9
      have hge : n ≤ r := (nle (by omega) (by omega)).mp c_9
      have hre : r = n := by omega
      subst hre
      refine G_iload_n (i := 1) hk dX6_needed_70 rfl rfl ?_
      refine G_iret hk dX6_needed_71 ?_
      exact ⟨hc, hX⟩
    · try simp only [gB_ne, gB_eq, Decidable.not_not] at c_9
      have hlt : r < n := Nat.lt_of_not_le (fun q => c_9 ((nle (by omega) (by omega)).mpr q))
      refine G_iconst (v := 0) hk dX6_needed_12 (by decide) ?_
      refine G_istore_n (i := 3) hk dX6_needed_13 rfl (by decide) rfl ?_
      refine G_lv (by exact And.intro rfl (And.intro rfl (And.intro rfl (And.intro rfl (trivial))))) (li_X6_needed hk E0 fa tr at1 rr rd n pa ho r hlt c _ ?_ 27 0 c E (by omega) (by omega) hX (if_neg (Nat.lt_irrefl 0)).symm)
      intro c2 E2 hX2 hc2
      refine G_iinc (v := nI (r + 1)) hk dX6_needed_64 rfl (nI_inc r) (by decide) rfl ?_
      refine G_goto (tgt := 4) hk dX6_needed_67 (by decide) ?_
      refine G_lv (by exact And.intro rfl (And.intro rfl (And.intro rfl (trivial)))) (ih (r + 1) c2 E2 (by omega) (by omega) hX2 ?_)
      rw [hc2, hc, sBits]
      unfold sNeed
      by_cases h0 : 0 < fa_cnt (fun y => decide (sX (pR pa) n y ≠ (sAn (pR pa) r n 0 (nI y)).1)) 26
      · rw [if_pos h0, if_pos (decide_eq_true h0)]
      · rw [if_neg h0, if_neg (by simpa using h0)]

set_option maxHeartbeats 4000000 in
set_option maxRecDepth 100000 in
theorem c_X6_needed (l : Launch) (V : gV) (ad : Nat → Nat) (E : Nat → va_E) (fa tr at1 rr rd : Int32) (n : Nat) (pa : Nat → Int32) (dn wo : Int32) (dl : Nat → Int32) (hM : mK V ad E fa tr at1 rr rd n pa dn wo dl) (ho : ∀ i, i < n → rOk (pR pa i)) : Ct l V ad 44 44 yX6_needed cX6_needed 5 (some .int) { frames := 3, cells := 0, slots := 0, locals := 70 } [.ref (ad 34)] E (pI ad (fun z E2 => z = sNeeds (pR pa) n ∧ mX V ad E fa tr at1 rr rd n pa E2)) := by
  refine gCt mX6_needed (Nat.le_of_ble_eq_true rfl) ?_
  intro K hk
  have m3 := hM.2.2.2
  refine G_iconst (v := 0) hk dX6_needed_0 (by decide) ?_
  refine G_istore_n (i := 1) hk dX6_needed_1 rfl (by decide) rfl ?_
  refine G_iconst (v := 0) hk dX6_needed_2 (by decide) ?_
  refine G_istore_n (i := 2) hk dX6_needed_3 rfl (by decide) rfl ?_
  exact G_lv (by exact And.intro rfl (And.intro rfl (And.intro rfl (trivial)))) (lp_X6_needed hk E fa tr at1 rr rd n pa ho (n + 1) 0 0 E (by omega) (by omega) ⟨exM.rf, dn, wo, dl, hM⟩ rfl)
