set_option maxHeartbeats 4000000 in
set_option maxRecDepth 100000 in
theorem c_X0_walk (l : Launch) (V : gV) (ad : Nat → Nat) (E : Nat → va_E) (bb n : Nat) (π : Nat → Nat) (R : Nat → Nat → Int32) (hB : bkB V ad E bb n π R) (dn wo : Int32) (dl : Nat → Int32) (hA : bkA V ad E bb dn wo dl) (w : Nat) (wi : Int32) (hw : ∀ r, r < 7 → (nI r = wi ↔ r = w)) (x : Int32) : Ct l V ad 44 44 yX0_walk cX0_walk 8 none { frames := 1, cells := 0, slots := 0, locals := 21 } [.ref (ad (bb + 2)), .ref (ad bb), .int x, .int wi] E (pV ad (aPost V ad bb E (sAn R w n 0 x))) := by
  refine gCt mX0_walk (Nat.le_of_ble_eq_true rfl) ?_
  intro K hk
  obtain ⟨h0, h1, h2, h3, h4, h5, h6⟩ := id hB
  obtain ⟨a0, a1⟩ := id hA
  refine G_iload_n (i := 2) hk dX0_walk_0 rfl rfl ?_
  refine G_istore hk dX0_walk_1 (by decide) rfl ?_
  refine G_iconst (v := 0) hk dX0_walk_3 (by decide) ?_
  refine G_istore hk dX0_walk_4 (by decide) rfl ?_
  refine G_aload_n (i := 0) hk dX0_walk_6 rfl rfl ?_
  refine G_iconst (v := 0) hk dX0_walk_7 (by decide) ?_
  refine G_put hk fX0_15 iX0_1 dX0_walk_8 (by assumption) (Nat.le_of_ble_eq_true rfl) (by first | decide | omega) ?_
  refine G_iconst (v := 0) hk dX0_walk_11 (by decide) ?_
  refine G_istore hk dX0_walk_12 (by decide) rfl ?_
  refine G_lv (by exact And.intro rfl (And.intro rfl (And.intro rfl (And.intro rfl (And.intro rfl (And.intro rfl (trivial))))))) (lp_X0_walk hk E bb n π R hB w wi hw (sAn R w n 0 x) (n + 1) 0 x 0 [] _ dl wo (by omega) (by omega) (Nat.le_refl 0) ?_ ⟨?_, ?_⟩ (fun i hi => absurd hi (Nat.not_lt_zero i)) ?_)
  · exact fun q p1 p2 => va_up_ne _ _ p1
  · rw [va_up_self]; rfl
  · rw [va_up_ne _ _ (by omega)]; exact a1
  · unfold sC
    by_cases hq : (sAn R w n 0 x).2 = []
    · rw [if_pos hq, Int32.zero_add]
      exact Prod.ext rfl hq
    · rw [if_neg hq]
      exact Prod.ext (sA_none R w _ _ _ hq) rfl

set_option maxHeartbeats 4000000 in
set_option maxRecDepth 100000 in
theorem c_X1_worthOf (l : Launch) (V : gV) (ad : Nat → Nat) (E : Nat → va_E) (bb n : Nat) (π : Nat → Nat) (R : Nat → Nat → Int32) (hB : bkB V ad E bb n π R) (dn wo : Int32) (dl : Nat → Int32) (hA : bkA V ad E bb dn wo dl) (w : Nat) (wi : Int32) (hw : ∀ r, r < 7 → (nI r = wi ↔ r = w)) (x : Int32) : Ct l V ad 44 44 yX1_worthOf cX1_worthOf 3 (some .int) { frames := 2, cells := 0, slots := 0, locals := 48 } [.ref (ad bb), .int x, .int wi] E (pI ad (fun v E2 => v = (sAn R w n 0 x).1 ∧ aPost V ad bb E (sAn R w n 0 x) E2)) := by
  refine gCt mX1_worthOf (Nat.le_of_ble_eq_true rfl) ?_
  intro K hk
  obtain ⟨h0, h1, h2, h3, h4, h5, h6⟩ := id hB
  obtain ⟨a0, a1⟩ := id hA
  refine G_aload_n (i := 0) hk dX1_worthOf_0 rfl rfl ?_
  refine G_get hk fX1_20 dX1_worthOf_1 (by assumption) (by rfl) (by first | decide | omega) ?_
  refine G_aload_n (i := 0) hk dX1_worthOf_4 rfl rfl ?_
  refine G_iload_n (i := 1) hk dX1_worthOf_5 rfl rfl ?_
  refine G_iload_n (i := 2) hk dX1_worthOf_6 rfl rfl ?_
  refine G_cVv hk (c_X0_walk l V ad E bb n π R hB dn wo dl hA w wi hw x) mX0_walk vX0_walk kX1_62 dX1_worthOf_7 (by assumption) (by rfl) (by first | decide | omega) rfl (by decide) (by decide) rfl (Nat.le_of_ble_eq_true rfl) (fun E_7 h_7 => ?_)
  have hp := h_7
  obtain ⟨x1, dl2, ⟨b0, b1⟩, -⟩ := h_7
  have h0 : E_7 bb = _ := (x1 _ (by omega) (by omega)).trans h0
  refine G_aload_n (i := 0) hk dX1_worthOf_10 rfl rfl ?_
  refine G_get hk fX1_20 dX1_worthOf_11 (by assumption) (by rfl) (by first | decide | omega) ?_
  refine G_get hk fX1_66 dX1_worthOf_14 (by assumption) (by rfl) (by first | decide | omega) ?_
  refine G_iret hk dX1_worthOf_17 ?_
  exact ⟨rfl, hp⟩

set_option maxHeartbeats 4000000 in
set_option maxRecDepth 100000 in
theorem lp_X1_pointsWonBy {l : Launch} {V : gV} {ad : Nat → Nat} {K : gX} (hk : gOk l { frames := 2, cells := 0, slots := 0, locals := 43 } K V cX1_pointsWonBy 4 RX1 (some .int) yX1_pointsWonBy.name) (E : Nat → va_E) (bb n : Nat) (π : Nat → Nat) (R : Nat → Nat → Int32) (hB : bkB V ad E bb n π R) (rr : Int32) : ∀ (k x : Nat) (c : Int32), 26 < x + k → x ≤ 26 → c = nI (fa_cnt (fun y => decide (sW R n (nI y) = rr)) x) → G K V 4 (gQ K V 44 0 0 (pI ad (pS E (nI (sWon R n rr))))) ad 44 0 0 4 [(0, .ref (ad bb)), (1, .int rr), (2, .int c), (3, .int (nI x))] [] E := by
  obtain ⟨h0, h1, h2, h3, h4, h5, h6⟩ := id hB
  intro k
  induction k with
  | zero => intro x c hx; omega
  | succ k ih =>
    intro x c hx hx26 hc
    refine G_iload_n (i := 3) hk dX1_pointsWonBy_4 rfl rfl ?_
    refine G_bipush (v := 26) hk dX1_pointsWonBy_5 (by decide) ?_
    refine G_icmp_ge (tgt := 28) hk dX1_pointsWonBy_7 (by decide) (fun c_7 => ?_) (fun c_7 => ?_)
    · try simp only [gB_ne, gB_eq, Decidable.not_not] at c_7
      have hge : 26 ≤ x := (nle (a := 26) (by omega) (by omega)).mp c_7
      have hxe : x = 26 := by omega
      subst hxe
      refine G_iload_n (i := 2) hk dX1_pointsWonBy_28 rfl rfl ?_
      refine G_iret hk dX1_pointsWonBy_29 ?_
      exact ⟨rfl, hc⟩
    · try simp only [gB_ne, gB_eq, Decidable.not_not] at c_7
      have hlt : x < 26 := Nat.lt_of_not_le (fun q => c_7 ((nle (a := 26) (by omega) (by omega)).mpr q))
      refine G_aload_n (i := 0) hk dX1_pointsWonBy_10 rfl rfl ?_
      refine G_iload_n (i := 3) hk dX1_pointsWonBy_11 rfl rfl ?_
      refine G_cVi hk (c_X1_winnerOf l V ad E bb n π R hB (nI x)) mX1_winnerOf vX1_winnerOf kX1_58 dX1_pointsWonBy_12 (by assumption) (by rfl) (by first | decide | omega) rfl (by decide) (by decide) rfl (Nat.le_of_ble_eq_true rfl) (fun r_12 E_12 h_12 => ?_)
      obtain ⟨rfl, rfl⟩ := h_12
      refine G_iload_n (i := 1) hk dX1_pointsWonBy_15 rfl rfl ?_
      refine G_icmp_ne (tgt := 22) hk dX1_pointsWonBy_16 (by decide) (fun c_16 => ?_) (fun c_16 => ?_)
      · try simp only [gB_ne, gB_eq, Decidable.not_not] at c_16
        refine G_iinc (v := nI (x + 1)) hk dX1_pointsWonBy_22 rfl (nI_inc x) (by decide) rfl ?_
        refine G_goto (tgt := 4) hk dX1_pointsWonBy_25 (by decide) ?_
        refine G_lv (by exact And.intro rfl (And.intro rfl (And.intro rfl (And.intro rfl (trivial))))) (ih (x + 1) _ (by omega) (by omega) ?_)
        first | rw [hc, nI_i1, fa_cnt_yes (decide_eq_true (Decidable.not_not.mp c_16))] | rw [hc, nI_i1, fa_cnt_yes (decide_eq_true c_16)] | rw [hc, fa_cnt_no (decide_eq_false c_16)]
      · try simp only [gB_ne, gB_eq, Decidable.not_not] at c_16
        refine G_iinc (v := _ + 1) hk dX1_pointsWonBy_19 rfl rfl (by decide) rfl ?_
        refine G_iinc (v := nI (x + 1)) hk dX1_pointsWonBy_22 rfl (nI_inc x) (by decide) rfl ?_
        refine G_goto (tgt := 4) hk dX1_pointsWonBy_25 (by decide) ?_
        refine G_lv (by exact And.intro rfl (And.intro rfl (And.intro rfl (And.intro rfl (trivial))))) (ih (x + 1) _ (by omega) (by omega) ?_)
        first | rw [hc, nI_i1, fa_cnt_yes (decide_eq_true (Decidable.not_not.mp c_16))] | rw [hc, nI_i1, fa_cnt_yes (decide_eq_true c_16)] | rw [hc, fa_cnt_no (decide_eq_false c_16)]

set_option maxHeartbeats 4000000 in
set_option maxRecDepth 100000 in
theorem c_X1_pointsWonBy (l : Launch) (V : gV) (ad : Nat → Nat) (E : Nat → va_E) (bb n : Nat) (π : Nat → Nat) (R : Nat → Nat → Int32) (hB : bkB V ad E bb n π R) (rr : Int32) : Ct l V ad 44 44 yX1_pointsWonBy cX1_pointsWonBy 4 (some .int) { frames := 2, cells := 0, slots := 0, locals := 43 } [.ref (ad bb), .int rr] E (pI ad (pS E (nI (sWon R n rr)))) := by
  refine gCt mX1_pointsWonBy (Nat.le_of_ble_eq_true rfl) ?_
  intro K hk
  refine G_iconst (v := 0) hk dX1_pointsWonBy_0 (by decide) ?_
  refine G_istore_n (i := 2) hk dX1_pointsWonBy_1 rfl (by decide) rfl ?_
  refine G_iconst (v := 0) hk dX1_pointsWonBy_2 (by decide) ?_
  refine G_istore_n (i := 3) hk dX1_pointsWonBy_3 rfl (by decide) rfl ?_
  exact G_lv (by exact And.intro rfl (And.intro rfl (And.intro rfl (And.intro rfl (trivial))))) (lp_X1_pointsWonBy hk E bb n π R hB rr 27 0 0 (by omega) (by omega) rfl)

set_option maxHeartbeats 4000000 in
set_option maxRecDepth 100000 in
theorem c_X1_beginsRun (l : Launch) (V : gV) (ad : Nat → Nat) (E : Nat → va_E) (bb n : Nat) (π : Nat → Nat) (R : Nat → Nat → Int32) (hB : bkB V ad E bb n π R) (x : Nat) (hx : x < 26) : Ct l V ad 44 44 yX1_beginsRun cX1_beginsRun 2 (some .boolean) { frames := 2, cells := 0, slots := 0, locals := 43 } [.ref (ad bb), .int (nI x)] E (pI ad (pS E (gB (sBg R n x = true)))) := by
  refine gCt mX1_beginsRun (Nat.le_of_ble_eq_true rfl) ?_
  intro K hk
  have hz : nI x = 0 ↔ x = 0 := neq (b := 0) (by omega) (by omega)
  obtain ⟨h0, h1, h2, h3, h4, h5, h6⟩ := id hB
  refine G_iload_n (i := 1) hk dX1_beginsRun_0 rfl rfl ?_
  refine G_if_eq (tgt := 19) hk dX1_beginsRun_1 (by decide) (fun c_1 => ?_) (fun c_1 => ?_)
  · try simp only [gB_ne, gB_eq, Decidable.not_not] at c_1
    have hx0 := hz.mp c_1
    refine G_iconst (v := 1) hk dX1_beginsRun_19 (by decide) ?_
    refine G_goto (tgt := 24) hk dX1_beginsRun_20 (by decide) ?_
    refine G_zret hk dX1_beginsRun_24 (by first | rfl | exact gB_nar _) ?_
    first | exact ⟨rfl, (gB_t (decide_eq_true (Or.inl hx0))).symm⟩ | exact ⟨rfl, (gB_t (decide_eq_true (Or.inr c_16))).symm⟩ | exact ⟨rfl, (gB_f (fun q => (of_decide_eq_true q).elim hx0 (fun z => z c_16))).symm⟩
  · try simp only [gB_ne, gB_eq, Decidable.not_not] at c_1
    have hx0 : ¬ x = 0 := fun q => c_1 (hz.mpr q)
    have hm1 : nI x - 1 = nI (x - 1) := pk_sub (b := 1) (by omega)
    refine G_aload_n (i := 0) hk dX1_beginsRun_4 rfl rfl ?_
    refine G_iload_n (i := 1) hk dX1_beginsRun_5 rfl rfl ?_
    refine G_cVi hk (c_X1_winnerOf l V ad E bb n π R hB (nI x)) mX1_winnerOf vX1_winnerOf kX1_58 dX1_beginsRun_6 (by assumption) (by rfl) (by first | decide | omega) rfl (by decide) (by decide) rfl (Nat.le_of_ble_eq_true rfl) (fun r_6 E_6 h_6 => ?_)
    obtain ⟨rfl, rfl⟩ := h_6
    refine G_aload_n (i := 0) hk dX1_beginsRun_9 rfl rfl ?_
    refine G_iload_n (i := 1) hk dX1_beginsRun_10 rfl rfl ?_
    refine G_iconst (v := 1) hk dX1_beginsRun_11 (by decide) ?_
    refine G_isub hk dX1_beginsRun_12 ?_
    rw [hm1]
    refine G_cVi hk (c_X1_winnerOf l V ad E bb n π R hB (nI (x - 1))) mX1_winnerOf vX1_winnerOf kX1_58 dX1_beginsRun_13 (by assumption) (by rfl) (by first | decide | omega) rfl (by decide) (by decide) rfl (Nat.le_of_ble_eq_true rfl) (fun r_13 E_13 h_13 => ?_)
    obtain ⟨rfl, rfl⟩ := h_13
    refine G_icmp_eq (tgt := 23) hk dX1_beginsRun_16 (by decide) (fun c_16 => ?_) (fun c_16 => ?_)
    · try simp only [gB_ne, gB_eq, Decidable.not_not] at c_16
      refine G_iconst (v := 0) hk dX1_beginsRun_23 (by decide) ?_
      refine G_zret hk dX1_beginsRun_24 (by first | rfl | exact gB_nar _) ?_
      first | exact ⟨rfl, (gB_t (decide_eq_true (Or.inl hx0))).symm⟩ | exact ⟨rfl, (gB_t (decide_eq_true (Or.inr c_16))).symm⟩ | exact ⟨rfl, (gB_f (fun q => (of_decide_eq_true q).elim hx0 (fun z => z c_16))).symm⟩
    · try simp only [gB_ne, gB_eq, Decidable.not_not] at c_16
      refine G_iconst (v := 1) hk dX1_beginsRun_19 (by decide) ?_
      refine G_goto (tgt := 24) hk dX1_beginsRun_20 (by decide) ?_
      refine G_zret hk dX1_beginsRun_24 (by first | rfl | exact gB_nar _) ?_
      first | exact ⟨rfl, (gB_t (decide_eq_true (Or.inl hx0))).symm⟩ | exact ⟨rfl, (gB_t (decide_eq_true (Or.inr c_16))).symm⟩ | exact ⟨rfl, (gB_f (fun q => (of_decide_eq_true q).elim hx0 (fun z => z c_16))).symm⟩

set_option maxHeartbeats 4000000 in
set_option maxRecDepth 100000 in
theorem lp_X1_countRuns {l : Launch} {V : gV} {ad : Nat → Nat} {K : gX} (hk : gOk l { frames := 3, cells := 0, slots := 0, locals := 64 } K V cX1_countRuns 3 RX1 (some .int) yX1_countRuns.name) (E : Nat → va_E) (bb n : Nat) (π : Nat → Nat) (R : Nat → Nat → Int32) (hB : bkB V ad E bb n π R) : ∀ (k x : Nat) (c : Int32), 26 < x + k → x ≤ 26 → c = nI (fa_cnt (sBg R n) x) → G K V 3 (gQ K V 44 0 0 (pI ad (pS E (nI (sRuns R n))))) ad 44 0 0 4 [(0, .ref (ad bb)), (1, .int c), (2, .int (nI x))] [] E := by
  obtain ⟨h0, h1, h2, h3, h4, h5, h6⟩ := id hB
  intro k
  induction k with
  | zero => intro x c hx; omega
  | succ k ih =>
    intro x c hx hx26 hc
    refine G_iload_n (i := 2) hk dX1_countRuns_4 rfl rfl ?_
    refine G_bipush (v := 26) hk dX1_countRuns_5 (by decide) ?_
    refine G_icmp_ge (tgt := 27) hk dX1_countRuns_7 (by decide) (fun c_7 => ?_) (fun c_7 => ?_)
    · try simp only [gB_ne, gB_eq, Decidable.not_not] at c_7
      have hge : 26 ≤ x := (nle (a := 26) (by omega) (by omega)).mp c_7
      have hxe : x = 26 := by omega
      subst hxe
      refine G_iload_n (i := 1) hk dX1_countRuns_27 rfl rfl ?_
      refine G_iret hk dX1_countRuns_28 ?_
      exact ⟨rfl, hc⟩
    · try simp only [gB_ne, gB_eq, Decidable.not_not] at c_7
      have hlt : x < 26 := Nat.lt_of_not_le (fun q => c_7 ((nle (a := 26) (by omega) (by omega)).mpr q))
      refine G_aload_n (i := 0) hk dX1_countRuns_10 rfl rfl ?_
      refine G_iload_n (i := 2) hk dX1_countRuns_11 rfl rfl ?_
      refine G_cVi hk (c_X1_beginsRun l V ad E bb n π R hB x hlt) mX1_beginsRun vX1_beginsRun kX1_76 dX1_countRuns_12 (by assumption) (by rfl) (by first | decide | omega) rfl (by decide) (by decide) rfl (Nat.le_of_ble_eq_true rfl) (fun r_12 E_12 h_12 => ?_)
      obtain ⟨rfl, rfl⟩ := h_12
      refine G_if_eq (tgt := 21) hk dX1_countRuns_15 (by decide) (fun c_15 => ?_) (fun c_15 => ?_)
      · try simp only [gB_ne, gB_eq, Decidable.not_not] at c_15
        refine G_iinc (v := nI (x + 1)) hk dX1_countRuns_21 rfl (nI_inc x) (by decide) rfl ?_
        refine G_goto (tgt := 4) hk dX1_countRuns_24 (by decide) ?_
        refine G_lv (by exact And.intro rfl (And.intro rfl (And.intro rfl (trivial)))) (ih (x + 1) _ (by omega) (by omega) ?_)
        first | rw [hc, nI_i1, fa_cnt_yes c_15] | rw [hc, fa_cnt_no (Bool.not_eq_true _ ▸ c_15)]
      · try simp only [gB_ne, gB_eq, Decidable.not_not] at c_15
        refine G_iinc (v := _ + 1) hk dX1_countRuns_18 rfl rfl (by decide) rfl ?_
        refine G_iinc (v := nI (x + 1)) hk dX1_countRuns_21 rfl (nI_inc x) (by decide) rfl ?_
        refine G_goto (tgt := 4) hk dX1_countRuns_24 (by decide) ?_
        refine G_lv (by exact And.intro rfl (And.intro rfl (And.intro rfl (trivial)))) (ih (x + 1) _ (by omega) (by omega) ?_)
        first | rw [hc, nI_i1, fa_cnt_yes c_15] | rw [hc, fa_cnt_no (Bool.not_eq_true _ ▸ c_15)]

set_option maxHeartbeats 4000000 in
set_option maxRecDepth 100000 in
theorem c_X1_countRuns (l : Launch) (V : gV) (ad : Nat → Nat) (E : Nat → va_E) (bb n : Nat) (π : Nat → Nat) (R : Nat → Nat → Int32) (hB : bkB V ad E bb n π R) : Ct l V ad 44 44 yX1_countRuns cX1_countRuns 3 (some .int) { frames := 3, cells := 0, slots := 0, locals := 64 } [.ref (ad bb)] E (pI ad (pS E (nI (sRuns R n)))) := by
  refine gCt mX1_countRuns (Nat.le_of_ble_eq_true rfl) ?_
  intro K hk
  refine G_iconst (v := 0) hk dX1_countRuns_0 (by decide) ?_
  refine G_istore_n (i := 1) hk dX1_countRuns_1 rfl (by decide) rfl ?_
  refine G_iconst (v := 0) hk dX1_countRuns_2 (by decide) ?_
  refine G_istore_n (i := 2) hk dX1_countRuns_3 rfl (by decide) rfl ?_
  exact G_lv (by exact And.intro rfl (And.intro rfl (And.intro rfl (trivial)))) (lp_X1_countRuns hk E bb n π R hB 27 0 0 (by omega) (by omega) rfl)

set_option maxHeartbeats 4000000 in
set_option maxRecDepth 100000 in
theorem lp_X1_firstOfRun {l : Launch} {V : gV} {ad : Nat → Nat} {K : gX} (hk : gOk l { frames := 3, cells := 0, slots := 0, locals := 64 } K V cX1_firstOfRun 4 RX1 (some .int) yX1_firstOfRun.name) (E : Nat → va_E) (bb n : Nat) (π : Nat → Nat) (R : Nat → Nat → Int32) (hB : bkB V ad E bb n π R) (k0 : Nat) (hk26 : k0 < 100) : ∀ (k x : Nat) (c val : Int32), 26 < x + k → x ≤ 26 → c = nI (fa_cnt (sBg R n) x) - 1 → val = nI (sFrn (sBg R n) k0 x) → G K V 4 (gQ K V 44 0 0 (pI ad (pS E val))) ad 44 0 0 4 [(0, .ref (ad bb)), (1, .int (nI k0)), (2, .int c), (3, .int (nI x))] [] E := by
  obtain ⟨h0, h1, h2, h3, h4, h5, h6⟩ := id hB
  intro k
  induction k with
  | zero => intro x c val hx; omega
  | succ k ih =>
    intro x c val hx hx26 hc hv
    have hcl := fa_cnt_le (sBg R n) (x + 1)
    refine G_iload_n (i := 3) hk dX1_firstOfRun_4 rfl rfl ?_
    refine G_bipush (v := 26) hk dX1_firstOfRun_5 (by decide) ?_
    refine G_icmp_ge (tgt := 34) hk dX1_firstOfRun_7 (by decide) (fun c_7 => ?_) (fun c_7 => ?_)
    · try simp only [gB_ne, gB_eq, Decidable.not_not] at c_7
      have hge : 26 ≤ x := (nle (a := 26) (by omega) (by omega)).mp c_7
      have hxe : x = 26 := by omega
      subst hxe
      refine G_bipush (v := 26) hk dX1_firstOfRun_34 (by decide) ?_
      refine G_iret hk dX1_firstOfRun_36 ?_
      exact ⟨rfl, by rw [hv, sFrn_end (Nat.le_refl 26)]; rfl⟩
    · try simp only [gB_ne, gB_eq, Decidable.not_not] at c_7
      have hlt : x < 26 := Nat.lt_of_not_le (fun q => c_7 ((nle (a := 26) (by omega) (by omega)).mpr q))
      refine G_aload_n (i := 0) hk dX1_firstOfRun_10 rfl rfl ?_
      refine G_iload_n (i := 3) hk dX1_firstOfRun_11 rfl rfl ?_
      refine G_cVi hk (c_X1_beginsRun l V ad E bb n π R hB x hlt) mX1_beginsRun vX1_beginsRun kX1_76 dX1_firstOfRun_12 (by assumption) (by rfl) (by first | decide | omega) rfl (by decide) (by decide) rfl (Nat.le_of_ble_eq_true rfl) (fun r_12 E_12 h_12 => ?_)
      obtain ⟨rfl, rfl⟩ := h_12
      refine G_if_eq (tgt := 21) hk dX1_firstOfRun_15 (by decide) (fun c_15 => ?_) (fun c_15 => ?_)
      · try simp only [gB_ne, gB_eq, Decidable.not_not] at c_15
        have hc2 : c = nI (fa_cnt (sBg R n) (x + 1)) - 1 := by rw [fa_cnt_no (Bool.not_eq_true _ ▸ c_15)]; exact hc
        refine G_iload_n (i := 2) hk dX1_firstOfRun_21 rfl rfl ?_
        refine G_iload_n (i := 1) hk dX1_firstOfRun_22 rfl rfl ?_
        refine G_icmp_ne (tgt := 28) hk dX1_firstOfRun_23 (by decide) (fun c_23 => ?_) (fun c_23 => ?_)
        · try simp only [gB_ne, gB_eq, Decidable.not_not] at c_23
          refine G_iinc (v := nI (x + 1)) hk dX1_firstOfRun_28 rfl (nI_inc x) (by decide) rfl ?_
          refine G_goto (tgt := 4) hk dX1_firstOfRun_31 (by decide) ?_
          refine G_lv (by exact And.intro rfl (And.intro rfl (And.intro rfl (And.intro rfl (trivial))))) (ih (x + 1) _ val (by omega) (by omega) hc2 (by rw [hv, sFrn_miss hlt (fun q => c_23 (by rw [hc2, q]; exact nI_pred k0))]))
        · try simp only [gB_ne, gB_eq, Decidable.not_not] at c_23
          refine G_iload_n (i := 3) hk dX1_firstOfRun_26 rfl rfl ?_
          refine G_iret hk dX1_firstOfRun_27 ?_
          refine ⟨rfl, ?_⟩
          have hq : fa_cnt (sBg R n) (x + 1) = k0 + 1 := by
            have e1 : nI (fa_cnt (sBg R n) (x + 1)) - 1 = nI k0 := by first | rw [← hc2]; exact c_23 | rw [← hc2]; exact Decidable.not_not.mp c_23
            have e2 : nI (fa_cnt (sBg R n) (x + 1)) = nI (k0 + 1) := by rw [← nI_i1, ← e1, Int32.sub_add_cancel]
            exact (neq (by omega) (by omega)).mp e2
          rw [hv, sFrn_hit hlt hq]
      · try simp only [gB_ne, gB_eq, Decidable.not_not] at c_15
        skip
        refine G_iinc (v := _ + 1) hk dX1_firstOfRun_18 rfl rfl (by decide) rfl ?_
        have hc2 : c + 1 = nI (fa_cnt (sBg R n) (x + 1)) - 1 := by rw [fa_cnt_yes c_15, hc, nI_pred, Int32.sub_add_cancel]
        refine G_iload_n (i := 2) hk dX1_firstOfRun_21 rfl rfl ?_
        refine G_iload_n (i := 1) hk dX1_firstOfRun_22 rfl rfl ?_
        refine G_icmp_ne (tgt := 28) hk dX1_firstOfRun_23 (by decide) (fun c_23 => ?_) (fun c_23 => ?_)
        · try simp only [gB_ne, gB_eq, Decidable.not_not] at c_23
          refine G_iinc (v := nI (x + 1)) hk dX1_firstOfRun_28 rfl (nI_inc x) (by decide) rfl ?_
          refine G_goto (tgt := 4) hk dX1_firstOfRun_31 (by decide) ?_
          refine G_lv (by exact And.intro rfl (And.intro rfl (And.intro rfl (And.intro rfl (trivial))))) (ih (x + 1) _ val (by omega) (by omega) hc2 (by rw [hv, sFrn_miss hlt (fun q => c_23 (by rw [hc2, q]; exact nI_pred k0))]))
        · try simp only [gB_ne, gB_eq, Decidable.not_not] at c_23
          refine G_iload_n (i := 3) hk dX1_firstOfRun_26 rfl rfl ?_
          refine G_iret hk dX1_firstOfRun_27 ?_
          refine ⟨rfl, ?_⟩
          have hq : fa_cnt (sBg R n) (x + 1) = k0 + 1 := by
            have e1 : nI (fa_cnt (sBg R n) (x + 1)) - 1 = nI k0 := by first | rw [← hc2]; exact c_23 | rw [← hc2]; exact Decidable.not_not.mp c_23
            have e2 : nI (fa_cnt (sBg R n) (x + 1)) = nI (k0 + 1) := by rw [← nI_i1, ← e1, Int32.sub_add_cancel]
            exact (neq (by omega) (by omega)).mp e2
          rw [hv, sFrn_hit hlt hq]

set_option maxHeartbeats 4000000 in
set_option maxRecDepth 100000 in
theorem c_X1_firstOfRun (l : Launch) (V : gV) (ad : Nat → Nat) (E : Nat → va_E) (bb n : Nat) (π : Nat → Nat) (R : Nat → Nat → Int32) (hB : bkB V ad E bb n π R) (k0 : Nat) (hk26 : k0 < 100) : Ct l V ad 44 44 yX1_firstOfRun cX1_firstOfRun 4 (some .int) { frames := 3, cells := 0, slots := 0, locals := 64 } [.ref (ad bb), .int (nI k0)] E (pI ad (pS E (nI (sFrn (sBg R n) k0 0)))) := by
  refine gCt mX1_firstOfRun (Nat.le_of_ble_eq_true rfl) ?_
  intro K hk
  refine G_iconst (v := (-1)) hk dX1_firstOfRun_0 (by decide) ?_
  refine G_istore_n (i := 2) hk dX1_firstOfRun_1 rfl (by decide) rfl ?_
  refine G_iconst (v := 0) hk dX1_firstOfRun_2 (by decide) ?_
  refine G_istore_n (i := 3) hk dX1_firstOfRun_3 rfl (by decide) rfl ?_
  exact G_lv (by exact And.intro rfl (And.intro rfl (And.intro rfl (And.intro rfl (trivial))))) (lp_X1_firstOfRun hk E bb n π R hB k0 hk26 27 0 (-1) _ (by omega) (by omega) (show (-1 : Int32) = nI 0 - 1 by decide) rfl)

set_option maxHeartbeats 4000000 in
set_option maxRecDepth 100000 in
theorem lp_X1_shadowed {l : Launch} {V : gV} {ad : Nat → Nat} {K : gX} (hk : gOk l { frames := 3, cells := 0, slots := 0, locals := 66 } K V cX1_shadowed 3 RX1 (some .int) yX1_shadowed.name) (E : Nat → va_E) (bb n : Nat) (π : Nat → Nat) (R : Nat → Nat → Int32) (hB : bkB V ad E bb n π R) : ∀ (k r : Nat) (c : Int32), n < r + k → r ≤ n → c = sBits (fun r => decide (sWon R n (nI r) = 0)) r → G K V 3 (gQ K V 44 0 0 (pI ad (pS E (sShad R n)))) ad 44 0 0 4 [(0, .ref (ad bb)), (1, .int c), (2, .int (nI r))] [] E := by
  obtain ⟨h0, h1, h2, h3, h4, h5, h6⟩ := id hB
  intro k
  induction k with
  | zero => intro r c hr; omega
  | succ k ih =>
    intro r c hr hrn hc
    refine G_iload_n (i := 2) hk dX1_shadowed_4 rfl rfl ?_
    refine G_aload_n (i := 0) hk dX1_shadowed_5 rfl rfl ?_
    refine G_get hk fX1_25 dX1_shadowed_6 (by assumption) (by rfl) (by first | decide | omega) ?_
    refine G_icmp_ge (tgt := 32) hk dX1_shadowed_9 (by decide) (fun c_9 => ?_) (fun c_9 => ?_)
    · try simp only [gB_ne, gB_eq, Decidable.not_not] at c_9
      have hge : n ≤ r := (nle (by omega) (by omega)).mp c_9
      have hre : r = n := by omega
      subst hre
      refine G_iload_n (i := 1) hk dX1_shadowed_32 rfl rfl ?_
      refine G_iret hk dX1_shadowed_33 ?_
      exact ⟨rfl, hc⟩
    · try simp only [gB_ne, gB_eq, Decidable.not_not] at c_9
      have hlt : r < n := Nat.lt_of_not_le (fun q => c_9 ((nle (by omega) (by omega)).mpr q))
      have hwl : sWon R n (nI r) ≤ 26 := fa_cnt_le _ 26
      have hz0 : nI (sWon R n (nI r)) = 0 ↔ sWon R n (nI r) = 0 := neq (b := 0) (by omega) (by omega)
      refine G_aload_n (i := 0) hk dX1_shadowed_12 rfl rfl ?_
      refine G_iload_n (i := 2) hk dX1_shadowed_13 rfl rfl ?_
      refine G_cVi hk (c_X1_pointsWonBy l V ad E bb n π R hB (nI r)) mX1_pointsWonBy vX1_pointsWonBy kX1_79 dX1_shadowed_14 (by assumption) (by rfl) (by first | decide | omega) rfl (by decide) (by decide) rfl (Nat.le_of_ble_eq_true rfl) (fun r_14 E_14 h_14 => ?_)
      obtain ⟨rfl, rfl⟩ := h_14
      refine G_if_ne (tgt := 26) hk dX1_shadowed_17 (by decide) (fun c_17 => ?_) (fun c_17 => ?_)
      · try simp only [gB_ne, gB_eq, Decidable.not_not] at c_17
        have hz : ¬ sWon R n (nI r) = 0 := fun q => c_17 (hz0.mpr q)
        refine G_iinc (v := nI (r + 1)) hk dX1_shadowed_26 rfl (nI_inc r) (by decide) rfl ?_
        refine G_goto (tgt := 4) hk dX1_shadowed_29 (by decide) ?_
        refine G_lv (by exact And.intro rfl (And.intro rfl (And.intro rfl (trivial)))) (ih (r + 1) _ (by omega) (by omega) ?_)
        first | rw [hc, sBits, if_pos (decide_eq_true hz)] | rw [hc, sBits, if_neg (by simpa using hz)]
      · try simp only [gB_ne, gB_eq, Decidable.not_not] at c_17
        have hz : sWon R n (nI r) = 0 := hz0.mp (by first | exact c_17 | exact Decidable.not_not.mp c_17)
        refine G_iload_n (i := 1) hk dX1_shadowed_20 rfl rfl ?_
        refine G_iconst (v := 1) hk dX1_shadowed_21 (by decide) ?_
        refine G_iload_n (i := 2) hk dX1_shadowed_22 rfl rfl ?_
        refine G_ishl hk dX1_shadowed_23 ?_
        refine G_ior hk dX1_shadowed_24 ?_
        refine G_istore_n (i := 1) hk dX1_shadowed_25 rfl (by decide) rfl ?_
        refine G_iinc (v := nI (r + 1)) hk dX1_shadowed_26 rfl (nI_inc r) (by decide) rfl ?_
        refine G_goto (tgt := 4) hk dX1_shadowed_29 (by decide) ?_
        refine G_lv (by exact And.intro rfl (And.intro rfl (And.intro rfl (trivial)))) (ih (r + 1) _ (by omega) (by omega) ?_)
        first | rw [hc, sBits, if_pos (decide_eq_true hz)] | rw [hc, sBits, if_neg (by simpa using hz)]

set_option maxHeartbeats 4000000 in
set_option maxRecDepth 100000 in
theorem c_X1_shadowed (l : Launch) (V : gV) (ad : Nat → Nat) (E : Nat → va_E) (bb n : Nat) (π : Nat → Nat) (R : Nat → Nat → Int32) (hB : bkB V ad E bb n π R) : Ct l V ad 44 44 yX1_shadowed cX1_shadowed 3 (some .int) { frames := 3, cells := 0, slots := 0, locals := 66 } [.ref (ad bb)] E (pI ad (pS E (sShad R n))) := by
  refine gCt mX1_shadowed (Nat.le_of_ble_eq_true rfl) ?_
  intro K hk
  refine G_iconst (v := 0) hk dX1_shadowed_0 (by decide) ?_
  refine G_istore_n (i := 1) hk dX1_shadowed_1 rfl (by decide) rfl ?_
  refine G_iconst (v := 0) hk dX1_shadowed_2 (by decide) ?_
  refine G_istore_n (i := 2) hk dX1_shadowed_3 rfl (by decide) rfl ?_
  exact G_lv (by exact And.intro rfl (And.intro rfl (And.intro rfl (trivial)))) (lp_X1_shadowed hk E bb n π R hB (n + 1) 0 0 (by omega) (by omega) rfl)

set_option maxHeartbeats 4000000 in
set_option maxRecDepth 100000 in
theorem lp_X1_countWorth {l : Launch} {V : gV} {ad : Nat → Nat} {K : gX} (hk : gOk l { frames := 3, cells := 0, slots := 0, locals := 70 } K V cX1_countWorth 5 RX1 (some .int) yX1_countWorth.name) (E0 : Nat → va_E) (bb n : Nat) (π : Nat → Nat) (R : Nat → Nat → Int32) (hB0 : bkB V ad E0 bb n π R) (v : Int32) : ∀ (k x : Nat) (c : Int32) (E : Nat → va_E), 26 < x + k → x ≤ 26 → aX V ad bb E0 E → c = nI (fa_cnt (sCp R n v) x) → G K V 5 (gQ K V 44 0 0 (pI ad (fun z E2 => z = nI (sCw R n v) ∧ aX V ad bb E0 E2))) ad 44 0 0 4 [(0, .ref (ad bb)), (1, .int v), (2, .int c), (3, .int (nI x))] [] E := by
  intro k
  induction k with
  | zero => intro x c E hx; omega
  | succ k ih =>
    intro x c E hx hx26 hX hc
    have hB := hB0.ex hX.1
    obtain ⟨h0, h1, h2, h3, h4, h5, h6⟩ := id hB
    obtain ⟨dn, wo, dl, hA⟩ := hX.2
    refine G_iload_n (i := 3) hk dX1_countWorth_4 rfl rfl ?_
    refine G_bipush (v := 26) hk dX1_countWorth_5 (by decide) ?_
    refine G_icmp_ge (tgt := 40) hk dX1_countWorth_7 (by decide) (fun c_7 => ?_) (fun c_7 => ?_)
    · try simp only [gB_ne, gB_eq, Decidable.not_not] at c_7
      have hge : 26 ≤ x := (nle (a := 26) (by omega) (by omega)).mp c_7
      have hxe : x = 26 := by omega
      subst hxe
      refine G_iload_n (i := 2) hk dX1_countWorth_40 rfl rfl ?_
      refine G_iret hk dX1_countWorth_41 ?_
      exact ⟨hc, hX⟩
    · try simp only [gB_ne, gB_eq, Decidable.not_not] at c_7
      have hlt : x < 26 := Nat.lt_of_not_le (fun q => c_7 ((nle (a := 26) (by omega) (by omega)).mpr q))
      refine G_aload_n (i := 0) hk dX1_countWorth_10 rfl rfl ?_
      refine G_iload_n (i := 3) hk dX1_countWorth_11 rfl rfl ?_
      refine G_iconst (v := (-1)) hk dX1_countWorth_12 (by decide) ?_
      refine G_cVi hk (c_X1_worthOf l V ad E bb n π R hB dn wo dl hA 99 (-1) hw99 (nI x)) mX1_worthOf vX1_worthOf kX1_72 dX1_countWorth_13 (by assumption) (by rfl) (by first | decide | omega) rfl (by decide) (by decide) rfl (Nat.le_of_ble_eq_true rfl) (fun r_13 E_13 h_13 => ?_)
      obtain ⟨rfl, hp⟩ := h_13
      have hX2 := hX.tr hp.x
      refine G_istore hk dX1_countWorth_16 (by decide) rfl ?_
      refine G_iload hk dX1_countWorth_18 rfl ?_
      refine G_bipush (v := (-9)) hk dX1_countWorth_20 (by decide) ?_
      refine G_icmp_eq (tgt := 34) hk dX1_countWorth_22 (by decide) (fun c_22 => ?_) (fun c_22 => ?_)
      · try simp only [gB_ne, gB_eq, Decidable.not_not] at c_22
        have c_22 : sX R n x = -9 := c_22
        refine G_iinc (v := nI (x + 1)) hk dX1_countWorth_34 rfl (nI_inc x) (by decide) rfl ?_
        refine G_goto (tgt := 4) hk dX1_countWorth_37 (by decide) ?_
        refine G_lv (by exact And.intro rfl (And.intro rfl (And.intro rfl (And.intro rfl (trivial))))) (ih (x + 1) _ _ (by omega) (by omega) hX2 ?_)
        first | (rw [hc, fa_cnt_no (sCp_n1 c_22)]; done) | (rw [hc, nI_i1, fa_cnt_yes (sCp_y c_22 c_28)]; done) | (rw [hc, fa_cnt_no (sCp_n2 c_28)]; done)
      · try simp only [gB_ne, gB_eq, Decidable.not_not] at c_22
        have c_22 : ¬ sX R n x = -9 := c_22
        refine G_iload hk dX1_countWorth_25 rfl ?_
        refine G_iload_n (i := 1) hk dX1_countWorth_27 rfl rfl ?_
        refine G_icmp_lt (tgt := 34) hk dX1_countWorth_28 (by decide) (fun c_28 => ?_) (fun c_28 => ?_)
        · try simp only [gB_ne, gB_eq, Decidable.not_not] at c_28
          have c_28 : sX R n x < v := c_28
          refine G_iinc (v := nI (x + 1)) hk dX1_countWorth_34 rfl (nI_inc x) (by decide) rfl ?_
          refine G_goto (tgt := 4) hk dX1_countWorth_37 (by decide) ?_
          refine G_lv (by exact And.intro rfl (And.intro rfl (And.intro rfl (And.intro rfl (trivial))))) (ih (x + 1) _ _ (by omega) (by omega) hX2 ?_)
          first | (rw [hc, fa_cnt_no (sCp_n1 c_22)]; done) | (rw [hc, nI_i1, fa_cnt_yes (sCp_y c_22 c_28)]; done) | (rw [hc, fa_cnt_no (sCp_n2 c_28)]; done)
        · try simp only [gB_ne, gB_eq, Decidable.not_not] at c_28
          have c_28 : ¬ sX R n x < v := c_28
          refine G_iinc (v := _ + 1) hk dX1_countWorth_31 rfl rfl (by decide) rfl ?_
          refine G_iinc (v := nI (x + 1)) hk dX1_countWorth_34 rfl (nI_inc x) (by decide) rfl ?_
          refine G_goto (tgt := 4) hk dX1_countWorth_37 (by decide) ?_
          refine G_lv (by exact And.intro rfl (And.intro rfl (And.intro rfl (And.intro rfl (trivial))))) (ih (x + 1) _ _ (by omega) (by omega) hX2 ?_)
          first | (rw [hc, fa_cnt_no (sCp_n1 c_22)]; done) | (rw [hc, nI_i1, fa_cnt_yes (sCp_y c_22 c_28)]; done) | (rw [hc, fa_cnt_no (sCp_n2 c_28)]; done)

set_option maxHeartbeats 4000000 in
set_option maxRecDepth 100000 in
theorem c_X1_countWorth (l : Launch) (V : gV) (ad : Nat → Nat) (E : Nat → va_E) (bb n : Nat) (π : Nat → Nat) (R : Nat → Nat → Int32) (hB : bkB V ad E bb n π R) (dn wo : Int32) (dl : Nat → Int32) (hA : bkA V ad E bb dn wo dl) (v : Int32) : Ct l V ad 44 44 yX1_countWorth cX1_countWorth 5 (some .int) { frames := 3, cells := 0, slots := 0, locals := 70 } [.ref (ad bb), .int v] E (pI ad (fun z E2 => z = nI (sCw R n v) ∧ aX V ad bb E E2)) := by
  refine gCt mX1_countWorth (Nat.le_of_ble_eq_true rfl) ?_
  intro K hk
  refine G_iconst (v := 0) hk dX1_countWorth_0 (by decide) ?_
  refine G_istore_n (i := 2) hk dX1_countWorth_1 rfl (by decide) rfl ?_
  refine G_iconst (v := 0) hk dX1_countWorth_2 (by decide) ?_
  refine G_istore_n (i := 3) hk dX1_countWorth_3 rfl (by decide) rfl ?_
  exact G_lv (by exact And.intro rfl (And.intro rfl (And.intro rfl (And.intro rfl (trivial))))) (lp_X1_countWorth hk E bb n π R hB v 27 0 0 E (by omega) (by omega) ⟨exA.rf, dn, wo, dl, hA⟩ rfl)

set_option maxHeartbeats 4000000 in
set_option maxRecDepth 100000 in
theorem c_X1_countDenied (l : Launch) (V : gV) (ad : Nat → Nat) (E : Nat → va_E) (bb n : Nat) (π : Nat → Nat) (R : Nat → Nat → Int32) (hB : bkB V ad E bb n π R) (dn wo : Int32) (dl : Nat → Int32) (hA : bkA V ad E bb dn wo dl) : Ct l V ad 44 44 yX1_countDenied cX1_countDenied 1 (some .int) { frames := 4, cells := 0, slots := 0, locals := 94 } [.ref (ad bb)] E (pI ad (fun z E2 => z = 26 - nI (sCw R n 0) ∧ aX V ad bb E E2)) := by
  refine gCt mX1_countDenied (Nat.le_of_ble_eq_true rfl) ?_
  intro K hk
  obtain ⟨h0, h1, h2, h3, h4, h5, h6⟩ := id hB
  refine G_bipush (v := 26) hk dX1_countDenied_0 (by decide) ?_
  refine G_aload_n (i := 0) hk dX1_countDenied_2 rfl rfl ?_
  refine G_iconst (v := 0) hk dX1_countDenied_3 (by decide) ?_
  refine G_cVi hk (c_X1_countWorth l V ad E bb n π R hB dn wo dl hA 0) mX1_countWorth vX1_countWorth kX1_69 dX1_countDenied_4 (by assumption) (by rfl) (by first | decide | omega) rfl (by decide) (by decide) rfl (Nat.le_of_ble_eq_true rfl) (fun r_4 E_4 h_4 => ?_)
  obtain ⟨rfl, hp⟩ := h_4
  refine G_isub hk dX1_countDenied_7 ?_
  refine G_iret hk dX1_countDenied_8 ?_
  exact ⟨rfl, hp⟩

set_option maxHeartbeats 4000000 in
set_option maxRecDepth 100000 in
theorem lp_X1_worthTogether {l : Launch} {V : gV} {ad : Nat → Nat} {K : gX} (hk : gOk l { frames := 3, cells := 0, slots := 0, locals := 70 } K V cX1_worthTogether 4 RX1 (some .int) yX1_worthTogether.name) (E0 : Nat → va_E) (bb n : Nat) (π : Nat → Nat) (R : Nat → Nat → Int32) (hB0 : bkB V ad E0 bb n π R) : ∀ (k x : Nat) (c : Int32) (E : Nat → va_E), 26 < x + k → x ≤ 26 → aX V ad bb E0 E → c = bx_sum (fun y => if sX R n y = -9 then 0 else sX R n y) x → G K V 4 (gQ K V 44 0 0 (pI ad (fun z E2 => z = sSum R n ∧ aX V ad bb E0 E2))) ad 44 0 0 4 [(0, .ref (ad bb)), (1, .int c), (2, .int (nI x))] [] E := by
  intro k
  induction k with
  | zero => intro x c E hx; omega
  | succ k ih =>
    intro x c E hx hx26 hX hc
    have hB := hB0.ex hX.1
    obtain ⟨h0, h1, h2, h3, h4, h5, h6⟩ := id hB
    obtain ⟨dn, wo, dl, hA⟩ := hX.2
    refine G_iload_n (i := 2) hk dX1_worthTogether_4 rfl rfl ?_
    refine G_bipush (v := 26) hk dX1_worthTogether_5 (by decide) ?_
    refine G_icmp_ge (tgt := 33) hk dX1_worthTogether_7 (by decide) (fun c_7 => ?_) (fun c_7 => ?_)
    · try simp only [gB_ne, gB_eq, Decidable.not_not] at c_7
      have hge : 26 ≤ x := (nle (a := 26) (by omega) (by omega)).mp c_7
      have hxe : x = 26 := by omega
      subst hxe
      refine G_iload_n (i := 1) hk dX1_worthTogether_33 rfl rfl ?_
      refine G_iret hk dX1_worthTogether_34 ?_
      exact ⟨hc, hX⟩
    · try simp only [gB_ne, gB_eq, Decidable.not_not] at c_7
      have hlt : x < 26 := Nat.lt_of_not_le (fun q => c_7 ((nle (a := 26) (by omega) (by omega)).mpr q))
      refine G_aload_n (i := 0) hk dX1_worthTogether_10 rfl rfl ?_
      refine G_iload_n (i := 2) hk dX1_worthTogether_11 rfl rfl ?_
      refine G_iconst (v := (-1)) hk dX1_worthTogether_12 (by decide) ?_
      refine G_cVi hk (c_X1_worthOf l V ad E bb n π R hB dn wo dl hA 99 (-1) hw99 (nI x)) mX1_worthOf vX1_worthOf kX1_72 dX1_worthTogether_13 (by assumption) (by rfl) (by first | decide | omega) rfl (by decide) (by decide) rfl (Nat.le_of_ble_eq_true rfl) (fun r_13 E_13 h_13 => ?_)
      obtain ⟨rfl, hp⟩ := h_13
      have hX2 := hX.tr hp.x
      refine G_istore_n (i := 3) hk dX1_worthTogether_16 rfl (by decide) rfl ?_
      refine G_iload_n (i := 3) hk dX1_worthTogether_17 rfl rfl ?_
      refine G_bipush (v := (-9)) hk dX1_worthTogether_18 (by decide) ?_
      refine G_icmp_eq (tgt := 27) hk dX1_worthTogether_20 (by decide) (fun c_20 => ?_) (fun c_20 => ?_)
      · try simp only [gB_ne, gB_eq, Decidable.not_not] at c_20
        have c_20 : sX R n x = -9 := c_20
        refine G_iinc (v := nI (x + 1)) hk dX1_worthTogether_27 rfl (nI_inc x) (by decide) rfl ?_
        refine G_goto (tgt := 4) hk dX1_worthTogether_30 (by decide) ?_
        refine G_lv (by exact And.intro rfl (And.intro rfl (And.intro rfl (trivial)))) (ih (x + 1) _ _ (by omega) (by omega) hX2 ?_)
        first
          | (rw [hc]; show _ = _ + (if sX R n x = -9 then 0 else sX R n x); rw [if_pos c_20, Int32.add_zero]; done)
          | (rw [hc]; show _ = _ + (if sX R n x = -9 then 0 else sX R n x); rw [if_neg c_20]; rfl)
      · try simp only [gB_ne, gB_eq, Decidable.not_not] at c_20
        have c_20 : ¬ sX R n x = -9 := c_20
        refine G_iload_n (i := 1) hk dX1_worthTogether_23 rfl rfl ?_
        refine G_iload_n (i := 3) hk dX1_worthTogether_24 rfl rfl ?_
        refine G_iadd hk dX1_worthTogether_25 ?_
        refine G_istore_n (i := 1) hk dX1_worthTogether_26 rfl (by decide) rfl ?_
        refine G_iinc (v := nI (x + 1)) hk dX1_worthTogether_27 rfl (nI_inc x) (by decide) rfl ?_
        refine G_goto (tgt := 4) hk dX1_worthTogether_30 (by decide) ?_
        refine G_lv (by exact And.intro rfl (And.intro rfl (And.intro rfl (trivial)))) (ih (x + 1) _ _ (by omega) (by omega) hX2 ?_)
        first
          | (rw [hc]; show _ = _ + (if sX R n x = -9 then 0 else sX R n x); rw [if_pos c_20, Int32.add_zero]; done)
          | (rw [hc]; show _ = _ + (if sX R n x = -9 then 0 else sX R n x); rw [if_neg c_20]; rfl)

set_option maxHeartbeats 4000000 in
set_option maxRecDepth 100000 in
theorem c_X1_worthTogether (l : Launch) (V : gV) (ad : Nat → Nat) (E : Nat → va_E) (bb n : Nat) (π : Nat → Nat) (R : Nat → Nat → Int32) (hB : bkB V ad E bb n π R) (dn wo : Int32) (dl : Nat → Int32) (hA : bkA V ad E bb dn wo dl) : Ct l V ad 44 44 yX1_worthTogether cX1_worthTogether 4 (some .int) { frames := 3, cells := 0, slots := 0, locals := 70 } [.ref (ad bb)] E (pI ad (fun z E2 => z = sSum R n ∧ aX V ad bb E E2)) := by
  refine gCt mX1_worthTogether (Nat.le_of_ble_eq_true rfl) ?_
  intro K hk
  refine G_iconst (v := 0) hk dX1_worthTogether_0 (by decide) ?_
  refine G_istore_n (i := 1) hk dX1_worthTogether_1 rfl (by decide) rfl ?_
  refine G_iconst (v := 0) hk dX1_worthTogether_2 (by decide) ?_
  refine G_istore_n (i := 2) hk dX1_worthTogether_3 rfl (by decide) rfl ?_
  exact G_lv (by exact And.intro rfl (And.intro rfl (And.intro rfl (trivial)))) (lp_X1_worthTogether hk E bb n π R hB 27 0 0 E (by omega) (by omega) ⟨exA.rf, dn, wo, dl, hA⟩ rfl)

set_option maxHeartbeats 4000000 in
set_option maxRecDepth 100000 in
theorem lp_X1_isNeeded {l : Launch} {V : gV} {ad : Nat → Nat} {K : gX} (hk : gOk l { frames := 3, cells := 0, slots := 0, locals := 70 } K V cX1_isNeeded 3 RX1 (some .boolean) yX1_isNeeded.name) (E0 : Nat → va_E) (bb n : Nat) (π : Nat → Nat) (R : Nat → Nat → Int32) (hB0 : bkB V ad E0 bb n π R) (r0 : Nat) (hr0 : r0 < n) : ∀ (k x : Nat) (E : Nat → va_E), 26 < x + k → x ≤ 26 → aX V ad bb E0 E → fa_cnt (fun y => decide (sX R n y ≠ (sAn R r0 n 0 (nI y)).1)) x = 0 → G K V 3 (gQ K V 44 0 0 (pI ad (fun z E2 => z = gB (sNeed R n r0 = true) ∧ aX V ad bb E0 E2))) ad 44 0 0 2 [(0, .ref (ad bb)), (1, .int (nI r0)), (2, .int (nI x))] [] E := by
  intro k
  induction k with
  | zero => intro x E hx; omega
  | succ k ih =>
    intro x E hx hx26 hX hc
    have hB := hB0.ex hX.1
    obtain ⟨h0, h1, h2, h3, h4, h5, h6⟩ := id hB
    obtain ⟨dn, wo, dl, hA⟩ := hX.2
    refine G_iload_n (i := 2) hk dX1_isNeeded_2 rfl rfl ?_
    refine G_bipush (v := 26) hk dX1_isNeeded_3 (by decide) ?_
    refine G_icmp_ge (tgt := 31) hk dX1_isNeeded_5 (by decide) (fun c_5 => ?_) (fun c_5 => ?_)
    · try simp only [gB_ne, gB_eq, Decidable.not_not] at c_5
      have hge : 26 ≤ x := (nle (a := 26) (by omega) (by omega)).mp c_5
      have hxe : x = 26 := by omega
      subst hxe
      refine G_iconst (v := 0) hk dX1_isNeeded_31 (by decide) ?_
      refine G_zret hk dX1_isNeeded_32 (by first | rfl | exact gB_nar _) ?_
      exact ⟨(gB_f (fun q => by have := of_decide_eq_true q; omega)).symm, hX⟩
    · try simp only [gB_ne, gB_eq, Decidable.not_not] at c_5
      have hlt : x < 26 := Nat.lt_of_not_le (fun q => c_5 ((nle (a := 26) (by omega) (by omega)).mpr q))
      refine G_aload_n (i := 0) hk dX1_isNeeded_8 rfl rfl ?_
      refine G_iload_n (i := 2) hk dX1_isNeeded_9 rfl rfl ?_
      refine G_iconst (v := (-1)) hk dX1_isNeeded_10 (by decide) ?_
      refine G_cVi hk (c_X1_worthOf l V ad E bb n π R hB dn wo dl hA 99 (-1) hw99 (nI x)) mX1_worthOf vX1_worthOf kX1_72 dX1_isNeeded_11 (by assumption) (by rfl) (by first | decide | omega) rfl (by decide) (by decide) rfl (Nat.le_of_ble_eq_true rfl) (fun r_11 E_11 h_11 => ?_)
      obtain ⟨rfl, hp⟩ := h_11
      have hX2 := hX.tr hp.x
      have hB2 := hB0.ex hX2.1
      obtain ⟨h20, -⟩ := id hB2
      obtain ⟨dn2, wo2, dl2, hA2⟩ := hX2.2
      refine G_aload_n (i := 0) hk dX1_isNeeded_14 rfl rfl ?_
      refine G_iload_n (i := 2) hk dX1_isNeeded_15 rfl rfl ?_
      refine G_iload_n (i := 1) hk dX1_isNeeded_16 rfl rfl ?_
      refine G_cVi hk (c_X1_worthOf l V ad E_11 bb n π R hB2 dn2 wo2 dl2 hA2 r0 (nI r0) (fun r h => neq (by omega) (by omega)) (nI x)) mX1_worthOf vX1_worthOf kX1_72 dX1_isNeeded_17 (by assumption) (by rfl) (by first | decide | omega) rfl (by decide) (by decide) rfl (Nat.le_of_ble_eq_true rfl) (fun r_17 E_17 h_17 => ?_)
      obtain ⟨rfl, hp3⟩ := h_17
      have hX3 := hX2.tr hp3.x
      refine G_icmp_eq (tgt := 25) hk dX1_isNeeded_20 (by decide) (fun c_20 => ?_) (fun c_20 => ?_)
      · try simp only [gB_ne, gB_eq, Decidable.not_not] at c_20
        refine G_iinc (v := nI (x + 1)) hk dX1_isNeeded_25 rfl (nI_inc x) (by decide) rfl ?_
        refine G_goto (tgt := 2) hk dX1_isNeeded_28 (by decide) ?_
        exact G_lv (by exact And.intro rfl (And.intro rfl (And.intro rfl (trivial)))) (ih (x + 1) _ (by omega) (by omega) hX3 (by rw [fa_cnt_no (decide_eq_false (fun q => q c_20))]; exact hc))
      · try simp only [gB_ne, gB_eq, Decidable.not_not] at c_20
        refine G_iconst (v := 1) hk dX1_isNeeded_23 (by decide) ?_
        refine G_zret hk dX1_isNeeded_24 (by first | rfl | exact gB_nar _) ?_
        refine ⟨(gB_t (decide_eq_true ?_)).symm, hX3⟩
        have hm := fa_cnt_mono (fun y => decide (sX R n y ≠ (sAn R r0 n 0 (nI y)).1)) (a := x + 1) (b := 26) (by omega)
        rw [fa_cnt_yes (decide_eq_true c_20)] at hm
        omega

set_option maxHeartbeats 4000000 in
set_option maxRecDepth 100000 in
theorem c_X1_isNeeded (l : Launch) (V : gV) (ad : Nat → Nat) (E : Nat → va_E) (bb n : Nat) (π : Nat → Nat) (R : Nat → Nat → Int32) (hB : bkB V ad E bb n π R) (dn wo : Int32) (dl : Nat → Int32) (hA : bkA V ad E bb dn wo dl) (r0 : Nat) (hr0 : r0 < n) : Ct l V ad 44 44 yX1_isNeeded cX1_isNeeded 3 (some .boolean) { frames := 3, cells := 0, slots := 0, locals := 70 } [.ref (ad bb), .int (nI r0)] E (pI ad (fun z E2 => z = gB (sNeed R n r0 = true) ∧ aX V ad bb E E2)) := by
  refine gCt mX1_isNeeded (Nat.le_of_ble_eq_true rfl) ?_
  intro K hk
  refine G_iconst (v := 0) hk dX1_isNeeded_0 (by decide) ?_
  refine G_istore_n (i := 2) hk dX1_isNeeded_1 rfl (by decide) rfl ?_
  exact G_lv (by exact And.intro rfl (And.intro rfl (And.intro rfl (trivial)))) (lp_X1_isNeeded hk E bb n π R hB r0 hr0 27 0 E (by omega) (by omega) ⟨exA.rf, dn, wo, dl, hA⟩ rfl)

set_option maxHeartbeats 4000000 in
set_option maxRecDepth 100000 in
theorem lp_X1_needed {l : Launch} {V : gV} {ad : Nat → Nat} {K : gX} (hk : gOk l { frames := 4, cells := 0, slots := 0, locals := 92 } K V cX1_needed 3 RX1 (some .int) yX1_needed.name) (E0 : Nat → va_E) (bb n : Nat) (π : Nat → Nat) (R : Nat → Nat → Int32) (hB0 : bkB V ad E0 bb n π R) : ∀ (k r : Nat) (c : Int32) (E : Nat → va_E), n < r + k → r ≤ n → aX V ad bb E0 E → c = sBits (sNeed R n) r → G K V 3 (gQ K V 44 0 0 (pI ad (fun z E2 => z = sNeeds R n ∧ aX V ad bb E0 E2))) ad 44 0 0 4 [(0, .ref (ad bb)), (1, .int c), (2, .int (nI r))] [] E := by
  intro k
  induction k with
  | zero => intro r c E hr; omega
  | succ k ih =>
    intro r c E hr hrn hX hc
    have hB := hB0.ex hX.1
    obtain ⟨h0, h1, h2, h3, h4, h5, h6⟩ := id hB
    obtain ⟨dn, wo, dl, hA⟩ := hX.2
    refine G_iload_n (i := 2) hk dX1_needed_4 rfl rfl ?_
    refine G_aload_n (i := 0) hk dX1_needed_5 rfl rfl ?_
    refine G_get hk fX1_25 dX1_needed_6 (by assumption) (by rfl) (by first | decide | omega) ?_
    refine G_icmp_ge (tgt := 32) hk dX1_needed_9 (by decide) (fun c_9 => ?_) (fun c_9 => ?_)
    · try simp only [gB_ne, gB_eq, Decidable.not_not] at c_9
      have hge : n ≤ r := (nle (by omega) (by omega)).mp c_9
      have hre : r = n := by omega
      subst hre
      refine G_iload_n (i := 1) hk dX1_needed_32 rfl rfl ?_
      refine G_iret hk dX1_needed_33 ?_
      exact ⟨hc, hX⟩
    · try simp only [gB_ne, gB_eq, Decidable.not_not] at c_9
      have hlt : r < n := Nat.lt_of_not_le (fun q => c_9 ((nle (by omega) (by omega)).mpr q))
      refine G_aload_n (i := 0) hk dX1_needed_12 rfl rfl ?_
      refine G_iload_n (i := 2) hk dX1_needed_13 rfl rfl ?_
      refine G_cVi hk (c_X1_isNeeded l V ad E bb n π R hB dn wo dl hA r hlt) mX1_isNeeded vX1_isNeeded kX1_82 dX1_needed_14 (by assumption) (by rfl) (by first | decide | omega) rfl (by decide) (by decide) rfl (Nat.le_of_ble_eq_true rfl) (fun r_14 E_14 h_14 => ?_)
      obtain ⟨rfl, hp⟩ := h_14
      have hX2 := hX.tr hp
      refine G_if_eq (tgt := 26) hk dX1_needed_17 (by decide) (fun c_17 => ?_) (fun c_17 => ?_)
      · try simp only [gB_ne, gB_eq, Decidable.not_not] at c_17
        refine G_iinc (v := nI (r + 1)) hk dX1_needed_26 rfl (nI_inc r) (by decide) rfl ?_
        refine G_goto (tgt := 4) hk dX1_needed_29 (by decide) ?_
        refine G_lv (by exact And.intro rfl (And.intro rfl (And.intro rfl (trivial)))) (ih (r + 1) _ _ (by omega) (by omega) hX2 ?_)
        first | (rw [hc, sBits, if_pos c_17]; done) | (rw [hc, sBits, if_neg c_17]; done)
      · try simp only [gB_ne, gB_eq, Decidable.not_not] at c_17
        refine G_iload_n (i := 1) hk dX1_needed_20 rfl rfl ?_
        refine G_iconst (v := 1) hk dX1_needed_21 (by decide) ?_
        refine G_iload_n (i := 2) hk dX1_needed_22 rfl rfl ?_
        refine G_ishl hk dX1_needed_23 ?_
        refine G_ior hk dX1_needed_24 ?_
        refine G_istore_n (i := 1) hk dX1_needed_25 rfl (by decide) rfl ?_
        refine G_iinc (v := nI (r + 1)) hk dX1_needed_26 rfl (nI_inc r) (by decide) rfl ?_
        refine G_goto (tgt := 4) hk dX1_needed_29 (by decide) ?_
        refine G_lv (by exact And.intro rfl (And.intro rfl (And.intro rfl (trivial)))) (ih (r + 1) _ _ (by omega) (by omega) hX2 ?_)
        first | (rw [hc, sBits, if_pos c_17]; done) | (rw [hc, sBits, if_neg c_17]; done)

set_option maxHeartbeats 4000000 in
set_option maxRecDepth 100000 in
theorem c_X1_needed (l : Launch) (V : gV) (ad : Nat → Nat) (E : Nat → va_E) (bb n : Nat) (π : Nat → Nat) (R : Nat → Nat → Int32) (hB : bkB V ad E bb n π R) (dn wo : Int32) (dl : Nat → Int32) (hA : bkA V ad E bb dn wo dl) : Ct l V ad 44 44 yX1_needed cX1_needed 3 (some .int) { frames := 4, cells := 0, slots := 0, locals := 92 } [.ref (ad bb)] E (pI ad (fun z E2 => z = sNeeds R n ∧ aX V ad bb E E2)) := by
  refine gCt mX1_needed (Nat.le_of_ble_eq_true rfl) ?_
  intro K hk
  obtain ⟨-, -, -, h3, -⟩ := id hB
  refine G_iconst (v := 0) hk dX1_needed_0 (by decide) ?_
  refine G_istore_n (i := 1) hk dX1_needed_1 rfl (by decide) rfl ?_
  refine G_iconst (v := 0) hk dX1_needed_2 (by decide) ?_
  refine G_istore_n (i := 2) hk dX1_needed_3 rfl (by decide) rfl ?_
  exact G_lv (by exact And.intro rfl (And.intro rfl (And.intro rfl (trivial)))) (lp_X1_needed hk E bb n π R hB (n + 1) 0 0 E (by omega) (by omega) ⟨exA.rf, dn, wo, dl, hA⟩ rfl)
