theorem nI_5 (j : Nat) : (5 : Int32) * nI j = nI (5 * j) := pk_mul 5 j
theorem sSo_ag {R R' : Nat → Nat → Int32} {n rd : Nat} {rp rw rp' rw' : Nat → Int32} (h : ∀ i, i < n → ∀ j, j < 5 → R i j = R' i j) (h2 : ∀ q, q < rd → rp q = rp' q ∧ rw q = rw' q) : sSo R n rd rp rw = sSo R' n rd rp' rw' := by
  unfold sSo
  rw [fa_cnt_cong (p := sSp R n rp rw) (q := sSp R' n rp' rw') (fun k hk => by
    unfold sSp
    rw [sAn_cw h (Nat.zero_le n), (h2 k hk).1, (h2 k hk).2])]
theorem sBits_cong {p q : Nat → Bool} : ∀ n, (∀ k, k < n → p k = q k) → sBits p n = sBits q n
  | 0, _ => rfl
  | n + 1, h => by
    have ih := sBits_cong n (fun k hk => h k (by omega))
    simp only [sBits]
    rw [ih, h n (by omega)]
theorem lg_cmp0 {b : Nat} (h : b < 100000) : lg_cmp (lN b) 0 = 0 ↔ b = 0 := by
  have e : (0 : Int64) = lN 0 := rfl
  have a := pk_lLT (a := b) (b := 0) (by omega) (by omega)
  have c := pk_lLT (a := 0) (b := b) (by omega) (by omega)
  rw [e]
  unfold lg_cmp
  by_cases hb : b = 0
  · subst hb
    simp
  · have h1 : lN 0 < lN b := c.mpr (by omega)
    simp [h1, hb]

set_option maxHeartbeats 4000000 in
set_option maxRecDepth 100000 in
theorem lp_X6_takes {l : Launch} {V : gV} {ad : Nat → Nat} {K : gX} (hk : gOk l { frames := 0, cells := 0, slots := 0, locals := 0 } K V cX6_takes 3 RX6 none yX6_takes.name) (E : Nat → va_E) (fa tr at1 rr dn wo rd : Int32) (n : Nat) (so sl ce pa rz dl ke p2 w2 : Nat → Int32) (j : Nat) (hj : j < n) (hn7 : n ≤ 7) : ∀ (k t : Nat) (E1 : Nat → va_E), 5 * (n - 1) < t + k → 5 * j ≤ t → t ≤ 5 * (n - 1) → mC V ad E1 fa tr at1 rr dn wo rd (n - 1) so sl ce (fun i => if 5 * j ≤ i ∧ i < t then pa (i + 5) else pa i) rz dl ke p2 w2 → frM E E1 → G K V 3 (gQ K V 44 0 0 (pV ad (fun E2 => ∃ pan, mC V ad E2 fa tr at1 rr dn wo rd (n - 1) so sl ce pan rz dl ke p2 w2 ∧ (∀ i, i < n - 1 → ∀ q, q < 5 → pR pan i q = sDel (pR pa) j i q) ∧ frM E E2))) ad 44 0 0 14 [(0, .ref (ad 34)), (2, .int (nI t))] [] E1 := by
  intro k
  induction k with
  | zero => intro t E1 ht; omega
  | succ k ih =>
    intro t E1 ht htj htn hC1 hfr
    obtain ⟨m0, g35, g36, g37, g38, g39, g40, g41, g42, g43, m3⟩ := id hC1
    refine G_iload_n (i := 2) hk dX6_takes_14 rfl rfl ?_
    refine G_iconst (v := 5) hk dX6_takes_15 (by decide) ?_
    refine G_aload_n (i := 0) hk dX6_takes_16 rfl rfl ?_
    refine G_get hk fX6_47 dX6_takes_17 (by assumption) (by rfl) (by first | decide | omega) ?_
    refine G_imul hk dX6_takes_20 ?_
    rw [nI_5]
    refine G_icmp_ge (tgt := 44) hk dX6_takes_21 (by decide) (fun c_21 => ?_) (fun c_21 => ?_)
    · try simp only [gB_ne, gB_eq, Decidable.not_not] at c_21
      have hge : 5 * (n - 1) ≤ t := (nle (by omega) (by omega)).mp c_21
      have hte : t = 5 * (n - 1) := by omega
      subst hte
      refine G_vret hk dX6_takes_44 ?_
      refine ⟨_, hC1, fun i hi q hq => ?_, hfr⟩
      unfold pR sDel
      dsimp only
      by_cases h7 : i < j
      · rw [if_pos h7, if_neg (by omega)]
      · rw [if_neg h7, if_pos (by omega)]
        congr 1
        omega
    · try simp only [gB_ne, gB_eq, Decidable.not_not] at c_21
      have hlt : t < 5 * (n - 1) := Nat.lt_of_not_le (fun q => c_21 ((nle (by omega) (by omega)).mpr q))
      refine G_aload_n (i := 0) hk dX6_takes_24 rfl rfl ?_
      refine G_get hk fX6_19 dX6_takes_25 (by assumption) (by rfl) (by first | decide | omega) ?_
      refine G_iload_n (i := 2) hk dX6_takes_28 rfl rfl ?_
      refine G_aload_n (i := 0) hk dX6_takes_29 rfl rfl ?_
      refine G_get hk fX6_19 dX6_takes_30 (by assumption) (by rfl) (by first | decide | omega) ?_
      refine G_iload_n (i := 2) hk dX6_takes_33 rfl rfl ?_
      refine G_iconst (v := 5) hk dX6_takes_34 (by decide) ?_
      refine G_iadd hk dX6_takes_35 ?_
      refine G_ialdX (j := (t + 5)) hk dX6_takes_36 (by assumption) (nI_add t 5) (by omega) (by decide) (by first | decide | omega) ?_
      rw [show (if 5 * j ≤ t + 5 ∧ t + 5 < t then pa (t + 5 + 5) else pa (t + 5)) = pa (t + 5) from if_neg (by omega)]
      refine G_iastX (j := t) hk dX6_takes_37 (by assumption) rfl (by omega) (by decide) (by first | decide | omega) ?_
      refine G_iinc (v := nI (t + 1)) hk dX6_takes_38 rfl (nI_inc t) (by decide) rfl ?_
      refine G_goto (tgt := 14) hk dX6_takes_41 (by decide) ?_
      refine G_lv (by exact And.intro rfl (And.intro rfl (trivial))) (ih (t + 1) _ (by omega) (by omega) (by omega) ?_ (hfr.tr (frM.up (by omega))))
      have hC2 := hC1.s_pa (upd (fun i => if 5 * j ≤ i ∧ i < t then pa (i + 5) else pa i) t (pa (t + 5)))
      have ef : upd (fun i => if 5 * j ≤ i ∧ i < t then pa (i + 5) else pa i) t (pa (t + 5)) = (fun i => if 5 * j ≤ i ∧ i < t + 1 then pa (i + 5) else pa i) := by
        funext i
        unfold upd
        dsimp only
        by_cases hi : i = t
        · rw [if_pos hi, if_pos (by omega), hi]
        · rw [if_neg hi]
          by_cases h7 : 5 * j ≤ i ∧ i < t
          · rw [if_pos h7, if_pos (by omega)]
          · rw [if_neg h7, if_neg (by omega)]
      rw [← ef]
      exact hC2

set_option maxHeartbeats 4000000 in
set_option maxRecDepth 100000 in
theorem c_X6_takes (l : Launch) (V : gV) (ad : Nat → Nat) (E : Nat → va_E) (fa tr at1 rr dn wo rd : Int32) (n : Nat) (so sl ce pa rz dl ke p2 w2 : Nat → Int32) (hC : mC V ad E fa tr at1 rr dn wo rd n so sl ce pa rz dl ke p2 w2) (j : Nat) (hj : j < n) : Ct l V ad 44 44 yX6_takes cX6_takes 3 none { frames := 0, cells := 0, slots := 0, locals := 0 } [.ref (ad 34), .int (nI j)] E (pV ad (fun E2 => ∃ pan, mC V ad E2 fa tr at1 rr dn wo rd (n - 1) so sl ce pan rz dl ke p2 w2 ∧ (∀ i, i < n - 1 → ∀ q, q < 5 → pR pan i q = sDel (pR pa) j i q) ∧ frM E E2)) := by
  refine gCt mX6_takes (Nat.le_of_ble_eq_true rfl) ?_
  intro K hk
  obtain ⟨m0, g35, g36, g37, g38, g39, g40, g41, g42, g43, m3⟩ := id hC
  have hM := hC.k
  refine G_aload_n (i := 0) hk dX6_takes_0 rfl rfl ?_
  refine G_dup hk dX6_takes_1 rfl ?_
  refine G_get hk fX6_47 dX6_takes_2 (by assumption) (by rfl) (by first | decide | omega) ?_
  refine G_iconst (v := 1) hk dX6_takes_5 (by decide) ?_
  refine G_isub hk dX6_takes_6 ?_
  rw [show nI n - 1 = nI (n - 1) from pk_sub (b := 1) (by omega)]
  refine G_put hk fX6_47 iX6_5 dX6_takes_7 (by assumption) (Nat.le_of_ble_eq_true rfl) (by first | decide | omega) ?_
  refine G_E (E2 := va_up E 34 (mO ad fa tr (nI (n - 1)) at1 rr dn wo rd)) rfl ?_
  refine G_iconst (v := 5) hk dX6_takes_10 (by decide) ?_
  refine G_iload_n (i := 1) hk dX6_takes_11 rfl rfl ?_
  refine G_imul hk dX6_takes_12 ?_
  rw [nI_5]
  refine G_istore_n (i := 2) hk dX6_takes_13 rfl (by decide) rfl ?_
  refine G_lv (by exact And.intro rfl (And.intro rfl (trivial))) (lp_X6_takes hk E fa tr at1 rr dn wo rd n so sl ce pa rz dl ke p2 w2 j hj m3 (5 * n + 1) (5 * j) _ (by omega) (by omega) (by omega) ?_ (frM.up (by omega)))
  have e : (fun i => if 5 * j ≤ i ∧ i < 5 * j then pa (i + 5) else pa i) = pa := by
    funext i
    exact if_neg (by omega)
  rw [e]
  exact hC.o (by omega)

set_option maxHeartbeats 4000000 in
set_option maxRecDepth 100000 in
theorem lp_X6_changes {l : Launch} {V : gV} {ad : Nat → Nat} {K : gX} (hk : gOk l { frames := 0, cells := 0, slots := 0, locals := 0 } K V cX6_changes 4 RX6 none yX6_changes.name) (E : Nat → va_E) (fa tr at1 rr dn wo rd : Int32) (n : Nat) (so sl ce pa rz dl ke p2 w2 : Nat → Int32) (j : Nat) (hj : j + 1 < n) (hn7 : n ≤ 7) : ∀ (k t : Nat) (E1 : Nat → va_E), 5 * j + 5 < t + k → 5 * j ≤ t → t ≤ 5 * j + 5 → mC V ad E1 fa tr at1 rr dn wo rd n so sl ce (fun i => if 5 * j ≤ i ∧ i < t then pa (i + 5) else if 5 * j + 5 ≤ i ∧ i < t + 5 then pa (i - 5) else pa i) rz dl ke p2 w2 → frM E E1 → G K V 4 (gQ K V 44 0 0 (pV ad (fun E2 => ∃ pan, mC V ad E2 fa tr at1 rr dn wo rd n so sl ce pan rz dl ke p2 w2 ∧ (∀ i, i < n → ∀ q, q < 5 → pR pan i q = sSwap (pR pa) j i q) ∧ frM E E2))) ad 44 0 0 4 [(0, .ref (ad 34)), (1, .int (nI j)), (2, .int (nI t))] [] E1 := by
  intro k
  induction k with
  | zero => intro t E1 ht; omega
  | succ k ih =>
    intro t E1 ht htj htn hC1 hfr
    obtain ⟨m0, g35, g36, g37, g38, g39, g40, g41, g42, g43, m3⟩ := id hC1
    refine G_iload_n (i := 2) hk dX6_changes_4 rfl rfl ?_
    refine G_iconst (v := 5) hk dX6_changes_5 (by decide) ?_
    refine G_iload_n (i := 1) hk dX6_changes_6 rfl rfl ?_
    refine G_imul hk dX6_changes_7 ?_
    rw [nI_5]
    refine G_iconst (v := 5) hk dX6_changes_8 (by decide) ?_
    refine G_iadd hk dX6_changes_9 ?_
    rw [show nI (5 * j) + 5 = nI (5 * j + 5) from nI_add _ 5]
    refine G_icmp_ge (tgt := 49) hk dX6_changes_10 (by decide) (fun c_10 => ?_) (fun c_10 => ?_)
    · try simp only [gB_ne, gB_eq, Decidable.not_not] at c_10
      have hge : 5 * j + 5 ≤ t := (nle (by omega) (by omega)).mp c_10
      have hte : t = 5 * j + 5 := by omega
      subst hte
      refine G_vret hk dX6_changes_49 ?_
      refine ⟨_, hC1, fun i hi q hq => ?_, hfr⟩
      unfold pR sSwap
      dsimp only
      by_cases h7 : i = j
      · rw [if_pos h7, if_pos (by omega)]
        congr 1
        omega
      · by_cases h8 : i = j + 1
        · rw [if_neg h7, if_pos h8, if_neg (by omega), if_pos (by omega)]
          congr 1
          omega
        · rw [if_neg h7, if_neg h8, if_neg (by omega), if_neg (by omega)]
    · try simp only [gB_ne, gB_eq, Decidable.not_not] at c_10
      have hlt : t < 5 * j + 5 := Nat.lt_of_not_le (fun q => c_10 ((nle (by omega) (by omega)).mpr q))
      refine G_aload_n (i := 0) hk dX6_changes_13 rfl rfl ?_
      refine G_get hk fX6_19 dX6_changes_14 (by assumption) (by rfl) (by first | decide | omega) ?_
      refine G_iload_n (i := 2) hk dX6_changes_17 rfl rfl ?_
      refine G_ialdX (j := t) hk dX6_changes_18 (by assumption) rfl (by omega) (by decide) (by first | decide | omega) ?_
      rw [show (if 5 * j ≤ t ∧ t < t then pa (t + 5) else if 5 * j + 5 ≤ t ∧ t < t + 5 then pa (t - 5) else pa t) = pa t by rw [if_neg (by omega), if_neg (by omega)]]
      refine G_istore_n (i := 3) hk dX6_changes_19 rfl (by decide) rfl ?_
      refine G_aload_n (i := 0) hk dX6_changes_20 rfl rfl ?_
      refine G_get hk fX6_19 dX6_changes_21 (by assumption) (by rfl) (by first | decide | omega) ?_
      refine G_iload_n (i := 2) hk dX6_changes_24 rfl rfl ?_
      refine G_aload_n (i := 0) hk dX6_changes_25 rfl rfl ?_
      refine G_get hk fX6_19 dX6_changes_26 (by assumption) (by rfl) (by first | decide | omega) ?_
      refine G_iload_n (i := 2) hk dX6_changes_29 rfl rfl ?_
      refine G_iconst (v := 5) hk dX6_changes_30 (by decide) ?_
      refine G_iadd hk dX6_changes_31 ?_
      refine G_ialdX (j := (t + 5)) hk dX6_changes_32 (by assumption) (nI_add t 5) (by omega) (by decide) (by first | decide | omega) ?_
      rw [show (if 5 * j ≤ t + 5 ∧ t + 5 < t then pa (t + 5 + 5) else if 5 * j + 5 ≤ t + 5 ∧ t + 5 < t + 5 then pa (t + 5 - 5) else pa (t + 5)) = pa (t + 5) by rw [if_neg (by omega), if_neg (by omega)]]
      refine G_iastX (j := t) hk dX6_changes_33 (by assumption) rfl (by omega) (by decide) (by first | decide | omega) ?_
      have z0 := (show (va_up E1 38 (gI V 35 (upd (fun i => if 5 * j ≤ i ∧ i < t then pa (i + 5) else if 5 * j + 5 ≤ i ∧ i < t + 5 then pa (i - 5) else pa i) t (pa (t + 5))))) 34 = E1 34 from va_up_ne _ _ (by omega)).trans m0
      have z8 := va_up_self E1 38 (gI V 35 (upd (fun i => if 5 * j ≤ i ∧ i < t then pa (i + 5) else if 5 * j + 5 ≤ i ∧ i < t + 5 then pa (i - 5) else pa i) t (pa (t + 5))))
      refine G_aload_n (i := 0) hk dX6_changes_34 rfl rfl ?_
      refine G_get hk fX6_19 dX6_changes_35 (by assumption) (by rfl) (by first | decide | omega) ?_
      refine G_iload_n (i := 2) hk dX6_changes_38 rfl rfl ?_
      refine G_iconst (v := 5) hk dX6_changes_39 (by decide) ?_
      refine G_iadd hk dX6_changes_40 ?_
      refine G_iload_n (i := 3) hk dX6_changes_41 rfl rfl ?_
      refine G_iastX (j := (t + 5)) hk dX6_changes_42 (by assumption) (nI_add t 5) (by omega) (by decide) (by first | decide | omega) ?_
      refine G_iinc (v := nI (t + 1)) hk dX6_changes_43 rfl (nI_inc t) (by decide) rfl ?_
      refine G_goto (tgt := 4) hk dX6_changes_46 (by decide) ?_
      refine G_lv (by exact And.intro rfl (And.intro rfl (And.intro rfl (trivial)))) (ih (t + 1) _ (by omega) (by omega) (by omega) ?_ (hfr.tr ((frM.up (by omega)).tr (frM.up (by omega)))))
      have hC2 := (hC1.s_pa (upd (fun i => if 5 * j ≤ i ∧ i < t then pa (i + 5) else if 5 * j + 5 ≤ i ∧ i < t + 5 then pa (i - 5) else pa i) t (pa (t + 5)))).s_pa (upd (upd (fun i => if 5 * j ≤ i ∧ i < t then pa (i + 5) else if 5 * j + 5 ≤ i ∧ i < t + 5 then pa (i - 5) else pa i) t (pa (t + 5))) (t + 5) (pa t))
      have ef : upd (upd (fun i => if 5 * j ≤ i ∧ i < t then pa (i + 5) else if 5 * j + 5 ≤ i ∧ i < t + 5 then pa (i - 5) else pa i) t (pa (t + 5))) (t + 5) (pa t) = (fun i => if 5 * j ≤ i ∧ i < t + 1 then pa (i + 5) else if 5 * j + 5 ≤ i ∧ i < t + 1 + 5 then pa (i - 5) else pa i) := by
        funext i
        unfold upd
        dsimp only
        by_cases hi : i = t + 5
        · rw [if_pos hi, if_neg (by omega), if_pos (by omega)]
          congr 1
          omega
        · rw [if_neg hi]
          by_cases hi2 : i = t
          · rw [if_pos hi2, if_pos (by omega), hi2]
          · rw [if_neg hi2]
            by_cases h7 : 5 * j ≤ i ∧ i < t
            · rw [if_pos h7, if_pos (by omega)]
            · rw [if_neg h7, if_neg (show ¬ (5 * j ≤ i ∧ i < t + 1) by omega)]
              by_cases h8 : 5 * j + 5 ≤ i ∧ i < t + 5
              · rw [if_pos h8, if_pos (show 5 * j + 5 ≤ i ∧ i < t + 1 + 5 by omega)]
              · rw [if_neg h8, if_neg (show ¬ (5 * j + 5 ≤ i ∧ i < t + 1 + 5) by omega)]
      rw [← ef]
      exact hC2

set_option maxHeartbeats 4000000 in
set_option maxRecDepth 100000 in
theorem c_X6_changes (l : Launch) (V : gV) (ad : Nat → Nat) (E : Nat → va_E) (fa tr at1 rr dn wo rd : Int32) (n : Nat) (so sl ce pa rz dl ke p2 w2 : Nat → Int32) (hC : mC V ad E fa tr at1 rr dn wo rd n so sl ce pa rz dl ke p2 w2) (j : Nat) (hj : j + 1 < n) : Ct l V ad 44 44 yX6_changes cX6_changes 4 none { frames := 0, cells := 0, slots := 0, locals := 0 } [.ref (ad 34), .int (nI j)] E (pV ad (fun E2 => ∃ pan, mC V ad E2 fa tr at1 rr dn wo rd n so sl ce pan rz dl ke p2 w2 ∧ (∀ i, i < n → ∀ q, q < 5 → pR pan i q = sSwap (pR pa) j i q) ∧ frM E E2)) := by
  refine gCt mX6_changes (Nat.le_of_ble_eq_true rfl) ?_
  intro K hk
  obtain ⟨m0, g35, g36, g37, g38, g39, g40, g41, g42, g43, m3⟩ := id hC
  have hM := hC.k
  refine G_iconst (v := 5) hk dX6_changes_0 (by decide) ?_
  refine G_iload_n (i := 1) hk dX6_changes_1 rfl rfl ?_
  refine G_imul hk dX6_changes_2 ?_
  rw [nI_5]
  refine G_istore_n (i := 2) hk dX6_changes_3 rfl (by decide) rfl ?_
  refine G_lv (by exact And.intro rfl (And.intro rfl (And.intro rfl (trivial)))) (lp_X6_changes hk E fa tr at1 rr dn wo rd n so sl ce pa rz dl ke p2 w2 j hj m3 6 (5 * j) E (by omega) (by omega) (by omega) ?_ frM.rf)
  have e : (fun i => if 5 * j ≤ i ∧ i < 5 * j then pa (i + 5) else if 5 * j + 5 ≤ i ∧ i < 5 * j + 5 then pa (i - 5) else pa i) = pa := by
    funext i
    rw [if_neg (by omega), if_neg (by omega)]
  rw [e]
  exact hC

set_option maxHeartbeats 4000000 in
set_option maxRecDepth 100000 in
theorem c_X6_remove (l : Launch) (V : gV) (ad : Nat → Nat) (E : Nat → va_E) (n rd : Nat) (R : Nat → Nat → Int32) (rp rw : Nat → Int32) (tr fa : Int32) (la : Nat → Int32) (sz : Nat → Nat) (cl : Nat → Nat → Int32) (hR : mR V ad E (n, R, rd, rp, rw, tr, fa, la, sz, cl)) (ho0 : sOk n R) (r : Int32) : Ct l V ad 44 44 yX6_remove cX6_remove 2 (some .int) { frames := 1, cells := 0, slots := 0, locals := 22 } [.ref (ad 34), .int r] E (pI ad (fun v E2 => v = vRemove n r ∧ mR V ad E2 (nRemove n r, rRemove n R r, rd, rp, rw, tr, fa, la, sz, cl) ∧ frM E E2)) := by
  refine gCt mX6_remove (Nat.le_of_ble_eq_true rfl) ?_
  intro K hk
  obtain ⟨at1, rr, dn, wo, so, sl, ce, pa, rz, dl, ke, p2, w2, hC, hrd8, hag, hrd, hso, hsl, hsz⟩ := id hR
  obtain ⟨m0, g35, g36, g37, g38, g39, g40, g41, g42, g43, m3⟩ := id hC
  have hM := hC.k
  have ho : ∀ i, i < n → rOk (pR pa i) := fun i hi => rOk_cw (hag i hi) (ho0 i hi)
  have hn0 : nI n = 0 ↔ n = 0 := neq (b := 0) (by omega) (by omega)
  have hn1 : nI n = 1 ↔ n = 1 := neq (b := 1) (by omega) (by omega)
  refine G_aload_n (i := 0) hk dX6_remove_0 rfl rfl ?_
  refine G_iload_n (i := 1) hk dX6_remove_1 rfl rfl ?_
  refine G_cVi hk (c_X6_isRule l V ad E fa tr at1 rr (nI rd) n pa dn wo dl hM r) mX6_isRule vX6_isRule kX6_116 dX6_remove_2 (by assumption) (by rfl) (by first | decide | omega) rfl (by decide) (by decide) rfl (Nat.le_of_ble_eq_true rfl) (fun r_2 E_2 h_2 => ?_)
  obtain ⟨rfl, rfl⟩ := h_2
  refine G_if_ne (tgt := 10) hk dX6_remove_5 (by decide) (fun c_5 => ?_) (fun c_5 => ?_)
  · try simp only [gB_ne, gB_eq, Decidable.not_not] at c_5
    obtain ⟨j, hj, rfl⟩ := gIx (Int32.not_lt.mpr c_5.1) c_5.2 (by omega)
    have hix : ix (nI j) = j := ix_nI (by omega)
    have haj := hag j hj
    refine G_aload_n (i := 0) hk dX6_remove_10 rfl rfl ?_
    refine G_get hk fX6_47 dX6_remove_11 (by assumption) (by rfl) (by first | decide | omega) ?_
    refine G_iconst (v := 1) hk dX6_remove_14 (by decide) ?_
    refine G_icmp_ne (tgt := 21) hk dX6_remove_15 (by decide) (fun c_15 => ?_) (fun c_15 => ?_)
    · try simp only [gB_ne, gB_eq, Decidable.not_not] at c_15
      have h1 : ¬ n = 1 := fun q => c_15 (hn1.mpr q)
      refine G_aload_n (i := 0) hk dX6_remove_21 rfl rfl ?_
      refine G_iload_n (i := 1) hk dX6_remove_22 rfl rfl ?_
      refine G_cVv hk (c_X6_takes l V ad E fa tr at1 rr dn wo (nI rd) n so sl ce pa rz dl ke p2 w2 hC j hj) mX6_takes vX6_takes kX6_125 dX6_remove_23 (by assumption) (by rfl) (by first | decide | omega) rfl (by decide) (by decide) rfl (Nat.le_of_ble_eq_true rfl) (fun E_23 h_23 => ?_)
      obtain ⟨pan, hC2, hag2, f2⟩ := h_23
      have z0 := hC2.1
      refine G_aload_n (i := 0) hk dX6_remove_26 rfl rfl ?_
      refine G_get hk fX6_47 dX6_remove_27 (by assumption) (by rfl) (by first | decide | omega) ?_
      refine G_iret hk dX6_remove_30 ?_
      refine ⟨by unfold vRemove; rw [if_pos c_5, if_neg h1], ?_, f2⟩
      unfold nRemove rRemove
      rw [if_pos c_5, if_pos c_5, if_neg h1, if_neg h1, hix]
      refine ⟨_, _, _, _, _, _, _, _, _, _, _, _, _, hC2, hrd8, fun i hi q hq => (hag2 i hi q hq).trans ?_, hrd, hso, hsl, hsz⟩
      unfold sDel
      by_cases h7 : i < j
      · rw [if_pos h7, if_pos h7]; exact hag i (by omega) q hq
      · rw [if_neg h7, if_neg h7]; exact hag (i + 1) (by omega) q hq
    · try simp only [gB_ne, gB_eq, Decidable.not_not] at c_15
      have h1 : n = 1 := hn1.mp (by first | exact c_15 | exact Decidable.not_not.mp c_15)
      refine G_bipush (v := (-3)) hk dX6_remove_18 (by decide) ?_
      refine G_iret hk dX6_remove_20 ?_
      exact ⟨by unfold vRemove; rw [if_pos c_5, if_pos h1], by unfold nRemove rRemove; rw [if_pos c_5, if_pos c_5, if_pos h1, if_pos h1]; exact hR, frM.rf⟩
  · try simp only [gB_ne, gB_eq, Decidable.not_not] at c_5
    refine G_iconst (v := (-1)) hk dX6_remove_8 (by decide) ?_
    refine G_iret hk dX6_remove_9 ?_
    exact ⟨by unfold vRemove; rw [if_neg c_5], by unfold nRemove rRemove; rw [if_neg c_5, if_neg c_5]; exact hR, frM.rf⟩

set_option maxHeartbeats 4000000 in
set_option maxRecDepth 100000 in
theorem c_X6_swap (l : Launch) (V : gV) (ad : Nat → Nat) (E : Nat → va_E) (n rd : Nat) (R : Nat → Nat → Int32) (rp rw : Nat → Int32) (tr fa : Int32) (la : Nat → Int32) (sz : Nat → Nat) (cl : Nat → Nat → Int32) (hR : mR V ad E (n, R, rd, rp, rw, tr, fa, la, sz, cl)) (ho0 : sOk n R) (r : Int32) : Ct l V ad 44 44 yX6_swap cX6_swap 2 (some .int) { frames := 1, cells := 0, slots := 0, locals := 23 } [.ref (ad 34), .int r] E (pI ad (fun v E2 => v = vSwap n r ∧ mR V ad E2 (n, rSwap n R r, rd, rp, rw, tr, fa, la, sz, cl) ∧ frM E E2)) := by
  refine gCt mX6_swap (Nat.le_of_ble_eq_true rfl) ?_
  intro K hk
  obtain ⟨at1, rr, dn, wo, so, sl, ce, pa, rz, dl, ke, p2, w2, hC, hrd8, hag, hrd, hso, hsl, hsz⟩ := id hR
  obtain ⟨m0, g35, g36, g37, g38, g39, g40, g41, g42, g43, m3⟩ := id hC
  have hM := hC.k
  have ho : ∀ i, i < n → rOk (pR pa i) := fun i hi => rOk_cw (hag i hi) (ho0 i hi)
  have hn0 : nI n = 0 ↔ n = 0 := neq (b := 0) (by omega) (by omega)
  have hsw : (0 ≤ r ∧ r < nI n - 1) ↔ ((0 ≤ r ∧ r < nI n) ∧ r + 1 < nI n) := by
    constructor
    · rintro ⟨h0, h1⟩
      have hpos : 1 ≤ n := Nat.pos_of_ne_zero (fun q => by
        subst q
        exact absurd (Int32.le_trans h0 (Int32.le_of_lt h1)) (by decide))
      rw [show nI n - 1 = nI (n - 1) from pk_sub (b := 1) hpos] at h1
      obtain ⟨j, hj, rfl⟩ := gIx (Int32.not_lt.mpr h0) h1 (by omega)
      exact ⟨⟨h0, (nlt (by omega) (by omega)).mpr (by omega)⟩, by rw [nI_i1]; exact (nlt (by omega) (by omega)).mpr (by omega)⟩
    · rintro ⟨⟨h0, h1⟩, h2⟩
      obtain ⟨j, hj, rfl⟩ := gIx (Int32.not_lt.mpr h0) h1 (by omega)
      rw [nI_i1] at h2
      have h3 := (nlt (by omega) (by omega)).mp h2
      exact ⟨h0, by rw [show nI n - 1 = nI (n - 1) from pk_sub (b := 1) (by omega)]; exact (nlt (by omega) (by omega)).mpr (by omega)⟩
  refine G_aload_n (i := 0) hk dX6_swap_0 rfl rfl ?_
  refine G_iload_n (i := 1) hk dX6_swap_1 rfl rfl ?_
  refine G_cVi hk (c_X6_isRule l V ad E fa tr at1 rr (nI rd) n pa dn wo dl hM r) mX6_isRule vX6_isRule kX6_116 dX6_swap_2 (by assumption) (by rfl) (by first | decide | omega) rfl (by decide) (by decide) rfl (Nat.le_of_ble_eq_true rfl) (fun r_2 E_2 h_2 => ?_)
  obtain ⟨rfl, rfl⟩ := h_2
  refine G_if_eq (tgt := 18) hk dX6_swap_5 (by decide) (fun c_5 => ?_) (fun c_5 => ?_)
  · try simp only [gB_ne, gB_eq, Decidable.not_not] at c_5
    refine G_iconst (v := (-1)) hk dX6_swap_18 (by decide) ?_
    refine G_iret hk dX6_swap_19 ?_
    have hno : ¬ (0 ≤ r ∧ r < nI n - 1) := fun q => c_5 (hsw.mp q).1
    exact ⟨by unfold vSwap; rw [if_neg hno], by unfold rSwap; rw [if_neg hno]; exact hR, frM.rf⟩
  · try simp only [gB_ne, gB_eq, Decidable.not_not] at c_5
    refine G_iload_n (i := 1) hk dX6_swap_8 rfl rfl ?_
    refine G_iconst (v := 1) hk dX6_swap_9 (by decide) ?_
    refine G_iadd hk dX6_swap_10 ?_
    refine G_aload_n (i := 0) hk dX6_swap_11 rfl rfl ?_
    refine G_get hk fX6_47 dX6_swap_12 (by assumption) (by rfl) (by first | decide | omega) ?_
    refine G_icmp_lt (tgt := 20) hk dX6_swap_15 (by decide) (fun c_15 => ?_) (fun c_15 => ?_)
    · try simp only [gB_ne, gB_eq, Decidable.not_not] at c_15
      have hok := hsw.mpr ⟨c_5, c_15⟩
      obtain ⟨j, hj, rfl⟩ := gIx (Int32.not_lt.mpr c_5.1) c_5.2 (by omega)
      have hix : ix (nI j) = j := ix_nI (by omega)
      have haj := hag j hj
      have hj1 : j + 1 < n := (nlt (by omega) (by omega)).mp (by rw [← nI_i1]; exact c_15)
      refine G_aload_n (i := 0) hk dX6_swap_20 rfl rfl ?_
      refine G_iload_n (i := 1) hk dX6_swap_21 rfl rfl ?_
      refine G_cVv hk (c_X6_changes l V ad E fa tr at1 rr dn wo (nI rd) n so sl ce pa rz dl ke p2 w2 hC j hj1) mX6_changes vX6_changes kX6_129 dX6_swap_22 (by assumption) (by rfl) (by first | decide | omega) rfl (by decide) (by decide) rfl (Nat.le_of_ble_eq_true rfl) (fun E_22 h_22 => ?_)
      obtain ⟨pan, hC2, hag2, f2⟩ := h_22
      refine G_iload_n (i := 1) hk dX6_swap_25 rfl rfl ?_
      refine G_iret hk dX6_swap_26 ?_
      refine ⟨by unfold vSwap; rw [if_pos hok], ?_, f2⟩
      unfold rSwap
      rw [if_pos hok, hix]
      refine ⟨_, _, _, _, _, _, _, _, _, _, _, _, _, hC2, hrd8, fun i hi q hq => (hag2 i hi q hq).trans ?_, hrd, hso, hsl, hsz⟩
      unfold sSwap
      by_cases h7 : i = j
      · rw [if_pos h7, if_pos h7]; exact hag (j + 1) hj1 q hq
      · rw [if_neg h7, if_neg h7]
        by_cases h8 : i = j + 1
        · rw [if_pos h8, if_pos h8]; exact hag j hj q hq
        · rw [if_neg h8, if_neg h8]; exact hag i hi q hq
    · try simp only [gB_ne, gB_eq, Decidable.not_not] at c_15
      refine G_iconst (v := (-1)) hk dX6_swap_18 (by decide) ?_
      refine G_iret hk dX6_swap_19 ?_
      have hno : ¬ (0 ≤ r ∧ r < nI n - 1) := fun q => c_15 (hsw.mp q).2
      exact ⟨by unfold vSwap; rw [if_neg hno], by unfold rSwap; rw [if_neg hno]; exact hR, frM.rf⟩
