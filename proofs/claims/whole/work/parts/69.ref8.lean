def lOk (la : Nat → Int32) : Prop := ∀ s, s < 4 → la s = -1 ∨ la s = 0 ∨ la s = 1 ∨ la s = 2
theorem so_iff {la so : Nat → Int32} {s : Nat} (hl : lOk la) (hs : s < 4) (h : so s = (if la s = -1 then -9 else la s)) : so s = -9 ↔ la s = -1 := by
  rw [h]
  by_cases e : la s = -1
  · rw [if_pos e]; exact ⟨fun _ => e, fun _ => rfl⟩
  · rw [if_neg e]
    refine ⟨fun q => ?_, fun q => absurd q e⟩
    rcases hl s hs with a | a | a | a
    · exact a
    · rw [a] at q; exact absurd q (by decide)
    · rw [a] at q; exact absurd q (by decide)
    · rw [a] at q; exact absurd q (by decide)
theorem so_la {la so : Nat → Int32} {s : Nat} (h : so s = (if la s = -1 then -9 else la s)) (e : ¬ la s = -1) : so s = la s := by rw [h, if_neg e]
noncomputable def sAg (x : Int32) (m : Nat) (a i n : Int32) : Int32 := if sFas x a = 0 then (if n < 0 then 4 else if sHcD m i n then 0 else 3) else sFas x a
theorem nI_60 (j : Nat) : (60 : Int32) * nI j = nI (60 * j) := pk_mul 60 j
theorem wi1 {i : Int32} {m : Nat} (hm : m ≤ 60) : (0 ≤ i ∧ i ≤ nI m - 1) ↔ (0 ≤ i ∧ i < nI m) := by
  by_cases hz : m = 0
  · subst hz
    constructor
    · rintro ⟨a, b⟩
      exact absurd (Int32.le_trans a b) (by decide)
    · rintro ⟨a, b⟩
      exact absurd b (Int32.not_lt.mpr a)
  · rw [show nI m - 1 = nI (m - 1) from pk_sub (b := 1) (by omega)]
    constructor
    · rintro ⟨a, b⟩
      obtain ⟨j, hj, rfl⟩ := gIe a b (by omega)
      exact ⟨a, (nlt (by omega) (by omega)).mpr (by omega)⟩
    · rintro ⟨a, b⟩
      obtain ⟨j, hj, rfl⟩ := gIx (Int32.not_lt.mpr a) b (by omega)
      exact ⟨a, (nle (by omega) (by omega)).mpr (by omega)⟩
set_option maxHeartbeats 4000000 in
set_option maxRecDepth 100000 in
theorem c_X6_against (l : Launch) (V : gV) (ad : Nat → Nat) (E : Nat → va_E) (n rd : Nat) (R : Nat → Nat → Int32) (rp rw : Nat → Int32) (tr fa : Int32) (la : Nat → Int32) (sz : Nat → Nat) (cl : Nat → Nat → Int32) (hR : mR V ad E (n, R, rd, rp, rw, tr, fa, la, sz, cl)) (ho0 : sOk n R) (hlo : lOk la) (j : Nat) (hj : j < 4) (a i m : Int32) : Ct l V ad 44 44 yX6_against cX6_against 5 (some .int) { frames := 0, cells := 0, slots := 0, locals := 0 } [.ref (ad 34), .int (nI j), .int a, .int i, .int m] E (pI ad (pS E (sAg (la j) (sz j) a i m))) := by
  refine gCt mX6_against (Nat.le_of_ble_eq_true rfl) ?_
  intro K hk
  obtain ⟨at1, rr, dn, wo, so, sl, ce, pa, rz, dl, ke, p2, w2, hC, hrd8, hag, hrd, hso, hsl, hsz⟩ := id hR
  obtain ⟨m0, g35, g36, g37, g38, g39, g40, g41, g42, g43, m3⟩ := id hC
  have hM := hC.k
  have ho : ∀ i, i < n → rOk (pR pa i) := fun i hi => rOk_cw (hag i hi) (ho0 i hi)
  have hn0 : nI n = 0 ↔ n = 0 := neq (b := 0) (by omega) (by omega)
  have soj := so_iff hlo hj (hso j hj)
  have szj := hsz j hj
  refine G_aload_n (i := 0) hk dX6_against_0 rfl rfl ?_
  refine G_get hk fX6_9 dX6_against_1 (by assumption) (by rfl) (by first | decide | omega) ?_
  refine G_iload_n (i := 1) hk dX6_against_4 rfl rfl ?_
  refine G_ialdX (j := j) hk dX6_against_5 (by assumption) rfl (by omega) (by decide) (by first | decide | omega) ?_
  refine G_bipush (v := (-9)) hk dX6_against_6 (by decide) ?_
  refine G_icmp_eq (tgt := 23) hk dX6_against_8 (by decide) (fun c_8 => ?_) (fun c_8 => ?_)
  · try simp only [gB_ne, gB_eq, Decidable.not_not] at c_8
    have hla := soj.mp c_8
    refine G_aload_n (i := 0) hk dX6_against_23 rfl rfl ?_
    refine G_get hk fX6_9 dX6_against_24 (by assumption) (by rfl) (by first | decide | omega) ?_
    refine G_iload_n (i := 1) hk dX6_against_27 rfl rfl ?_
    refine G_ialdX (j := j) hk dX6_against_28 (by assumption) rfl (by omega) (by decide) (by first | decide | omega) ?_
    refine G_bipush (v := (-9)) hk dX6_against_29 (by decide) ?_
    refine G_icmp_ne (tgt := 36) hk dX6_against_31 (by decide) (fun c_31 => ?_) (fun c_31 => ?_)
    · try simp only [gB_ne, gB_eq, Decidable.not_not] at c_31
      exact absurd c_8 (by first | exact c_31 | exact fun q => c_31 q)
    · try simp only [gB_ne, gB_eq, Decidable.not_not] at c_31
      refine G_iconst (v := 1) hk dX6_against_34 (by decide) ?_
      refine G_iret hk dX6_against_35 ?_
      have hf : sFas (la j) a = 1 := by unfold sFas; rw [if_pos hla]
      exact ⟨rfl, by unfold sAg; rw [hf, if_neg (by decide)]⟩
  · try simp only [gB_ne, gB_eq, Decidable.not_not] at c_8
    have hla : ¬ la j = -1 := fun q => c_8 (soj.mpr q)
    have sola := so_la (hso j hj) hla
    have sla := (hsl j hj hla).1
    refine G_aload_n (i := 0) hk dX6_against_11 rfl rfl ?_
    refine G_get hk fX6_9 dX6_against_12 (by assumption) (by rfl) (by first | decide | omega) ?_
    refine G_iload_n (i := 1) hk dX6_against_15 rfl rfl ?_
    refine G_ialdX (j := j) hk dX6_against_16 (by assumption) rfl (by omega) (by decide) (by first | decide | omega) ?_
    refine G_iload_n (i := 2) hk dX6_against_17 rfl rfl ?_
    refine G_icmp_eq (tgt := 23) hk dX6_against_18 (by decide) (fun c_18 => ?_) (fun c_18 => ?_)
    · try simp only [gB_ne, gB_eq, Decidable.not_not] at c_18
      refine G_aload_n (i := 0) hk dX6_against_23 rfl rfl ?_
      refine G_get hk fX6_9 dX6_against_24 (by assumption) (by rfl) (by first | decide | omega) ?_
      refine G_iload_n (i := 1) hk dX6_against_27 rfl rfl ?_
      refine G_ialdX (j := j) hk dX6_against_28 (by assumption) rfl (by omega) (by decide) (by first | decide | omega) ?_
      refine G_bipush (v := (-9)) hk dX6_against_29 (by decide) ?_
      refine G_icmp_ne (tgt := 36) hk dX6_against_31 (by decide) (fun c_31 => ?_) (fun c_31 => ?_)
      · try simp only [gB_ne, gB_eq, Decidable.not_not] at c_31
        have hf : sFas (la j) a = 0 := by unfold sFas; rw [if_neg hla, if_pos (sola.symm.trans c_18)]
        refine G_iload hk dX6_against_36 rfl ?_
        refine G_if_ge (tgt := 43) hk dX6_against_38 (by decide) (fun c_38 => ?_) (fun c_38 => ?_)
        · try simp only [gB_ne, gB_eq, Decidable.not_not] at c_38
          have hm0 : ¬ m < 0 := Int32.not_lt.mpr c_38
          refine G_iload_n (i := 3) hk dX6_against_43 rfl rfl ?_
          refine G_if_lt (tgt := 70) hk dX6_against_44 (by decide) (fun c_44 => ?_) (fun c_44 => ?_)
          · try simp only [gB_ne, gB_eq, Decidable.not_not] at c_44
            refine G_iconst (v := 3) hk dX6_against_70 (by decide) ?_
            refine G_goto (tgt := 75) hk dX6_against_71 (by decide) ?_
            refine G_iret hk dX6_against_75 ?_
            exact ⟨rfl, by unfold sAg; rw [hf, if_pos rfl, if_neg hm0, sHcD_f (fun z => absurd z.1 (Int32.not_le.mpr c_44))]; rfl⟩
          · try simp only [gB_ne, gB_eq, Decidable.not_not] at c_44
            refine G_iload_n (i := 3) hk dX6_against_47 rfl rfl ?_
            refine G_aload_n (i := 0) hk dX6_against_48 rfl rfl ?_
            refine G_get hk fX6_13 dX6_against_49 (by assumption) (by rfl) (by first | decide | omega) ?_
            refine G_iload_n (i := 1) hk dX6_against_52 rfl rfl ?_
            refine G_ialdX (j := j) hk dX6_against_53 (by assumption) rfl (by omega) (by decide) (by first | decide | omega) ?_
            rw [sla]
            refine G_icmp_gt (tgt := 70) hk dX6_against_54 (by decide) (fun c_54 => ?_) (fun c_54 => ?_)
            · try simp only [gB_ne, gB_eq, Decidable.not_not] at c_54
              refine G_iconst (v := 3) hk dX6_against_70 (by decide) ?_
              refine G_goto (tgt := 75) hk dX6_against_71 (by decide) ?_
              refine G_iret hk dX6_against_75 ?_
              exact ⟨rfl, by unfold sAg; rw [hf, if_pos rfl, if_neg hm0, sHcD_f (fun z => absurd z.2.1 (Int32.not_le.mpr c_54))]; rfl⟩
            · try simp only [gB_ne, gB_eq, Decidable.not_not] at c_54
              refine G_iload hk dX6_against_57 rfl ?_
              refine G_aload_n (i := 0) hk dX6_against_59 rfl rfl ?_
              refine G_get hk fX6_13 dX6_against_60 (by assumption) (by rfl) (by first | decide | omega) ?_
              refine G_iload_n (i := 1) hk dX6_against_63 rfl rfl ?_
              refine G_ialdX (j := j) hk dX6_against_64 (by assumption) rfl (by omega) (by decide) (by first | decide | omega) ?_
              refine G_iload_n (i := 3) hk dX6_against_65 rfl rfl ?_
              rw [sla]
              refine G_isub hk dX6_against_66 ?_
              refine G_icmp_le (tgt := 74) hk dX6_against_67 (by decide) (fun c_67 => ?_) (fun c_67 => ?_)
              · try simp only [gB_ne, gB_eq, Decidable.not_not] at c_67
                refine G_iconst (v := 0) hk dX6_against_74 (by decide) ?_
                refine G_iret hk dX6_against_75 ?_
                exact ⟨rfl, by unfold sAg; rw [hf, if_pos rfl, if_neg hm0, sHcD_t (⟨Int32.not_lt.mp c_44, Int32.not_lt.mp c_54, c_38, c_67⟩)]; rfl⟩
              · try simp only [gB_ne, gB_eq, Decidable.not_not] at c_67
                refine G_iconst (v := 3) hk dX6_against_70 (by decide) ?_
                refine G_goto (tgt := 75) hk dX6_against_71 (by decide) ?_
                refine G_iret hk dX6_against_75 ?_
                exact ⟨rfl, by unfold sAg; rw [hf, if_pos rfl, if_neg hm0, sHcD_f (fun z => c_67 z.2.2.2)]; rfl⟩
        · try simp only [gB_ne, gB_eq, Decidable.not_not] at c_38
          have hm0 : m < 0 := Int32.not_le.mp c_38
          refine G_iconst (v := 4) hk dX6_against_41 (by decide) ?_
          refine G_iret hk dX6_against_42 ?_
          exact ⟨rfl, by unfold sAg; rw [hf, if_pos rfl, if_pos hm0]⟩
      · try simp only [gB_ne, gB_eq, Decidable.not_not] at c_31
        exact absurd (by first | exact c_31 | exact Decidable.not_not.mp c_31) c_8
    · try simp only [gB_ne, gB_eq, Decidable.not_not] at c_18
      refine G_iconst (v := 2) hk dX6_against_21 (by decide) ?_
      refine G_iret hk dX6_against_22 ?_
      have hf : sFas (la j) a = 2 := by unfold sFas; rw [if_neg hla, if_neg (fun q => c_18 (sola.trans q))]
      exact ⟨rfl, by unfold sAg; rw [hf, if_neg (by decide)]⟩

set_option maxHeartbeats 4000000 in
set_option maxRecDepth 100000 in
theorem c_X6_lose (l : Launch) (V : gV) (ad : Nat → Nat) (E : Nat → va_E) (n rd : Nat) (R : Nat → Nat → Int32) (rp rw : Nat → Int32) (tr fa : Int32) (la : Nat → Int32) (sz : Nat → Nat) (cl : Nat → Nat → Int32) (hR : mR V ad E (n, R, rd, rp, rw, tr, fa, la, sz, cl)) (ho0 : sOk n R) (hlo : lOk la) (k : Int32) : Ct l V ad 44 44 yX6_lose cX6_lose 3 (some .int) { frames := 2, cells := 0, slots := 0, locals := 42 } [.ref (ad 34), .int k] E (pI ad (fun v E2 => v = vLose la k ∧ mR V ad E2 (n, R, rd, rp, rw, tr, fa, lLose la k, zLose sz k, cl) ∧ frM E E2)) := by
  refine gCt mX6_lose (Nat.le_of_ble_eq_true rfl) ?_
  intro K hk
  obtain ⟨at1, rr, dn, wo, so, sl, ce, pa, rz, dl, ke, p2, w2, hC, hrd8, hag, hrd, hso, hsl, hsz⟩ := id hR
  obtain ⟨m0, g35, g36, g37, g38, g39, g40, g41, g42, g43, m3⟩ := id hC
  have hM := hC.k
  have ho : ∀ i, i < n → rOk (pR pa i) := fun i hi => rOk_cw (hag i hi) (ho0 i hi)
  have hn0 : nI n = 0 ↔ n = 0 := neq (b := 0) (by omega) (by omega)
  refine G_iload_n (i := 1) hk dX6_lose_0 rfl rfl ?_
  refine G_cSi hk (c_X6_isSheet l V ad E k) mX6_isSheet sX6_isSheet kX6_57 dX6_lose_1 rfl (by decide) (by decide) rfl (Nat.le_of_ble_eq_true rfl) (fun r_1 E_1 h_1 => ?_)
  obtain ⟨rfl, rfl⟩ := h_1
  refine G_if_ne (tgt := 9) hk dX6_lose_4 (by decide) (fun c_4 => ?_) (fun c_4 => ?_)
  · try simp only [gB_ne, gB_eq, Decidable.not_not] at c_4
    obtain ⟨j, hj, rfl⟩ := gIe (n := 3) c_4.1 c_4.2 (by omega)
    have hixj : ix (nI j) = j := ix_nI (by omega)
    have soj := so_iff hlo (show j < 4 by omega) (hso j (by omega))
    have szjj := hsz j (by omega)
    refine G_aload_n (i := 0) hk dX6_lose_9 rfl rfl ?_
    refine G_get hk fX6_9 dX6_lose_10 (by assumption) (by rfl) (by first | decide | omega) ?_
    refine G_iload_n (i := 1) hk dX6_lose_13 rfl rfl ?_
    refine G_ialdX (j := j) hk dX6_lose_14 (by assumption) rfl (by omega) (by decide) (by first | decide | omega) ?_
    refine G_bipush (v := (-9)) hk dX6_lose_15 (by decide) ?_
    refine G_icmp_ne (tgt := 24) hk dX6_lose_17 (by decide) (fun c_17 => ?_) (fun c_17 => ?_)
    · try simp only [gB_ne, gB_eq, Decidable.not_not] at c_17
      refine G_iconst (v := 1) hk dX6_lose_24 (by decide) ?_
      refine G_istore_n (i := 2) hk dX6_lose_25 rfl (by decide) rfl ?_
      refine G_aload_n (i := 0) hk dX6_lose_26 rfl rfl ?_
      refine G_get hk fX6_9 dX6_lose_27 (by assumption) (by rfl) (by first | decide | omega) ?_
      refine G_iload_n (i := 1) hk dX6_lose_30 rfl rfl ?_
      refine G_bipush (v := (-9)) hk dX6_lose_31 (by decide) ?_
      refine G_iastX (j := j) hk dX6_lose_33 (by assumption) rfl (by omega) (by decide) (by first | decide | omega) ?_
      refine G_iload_n (i := 2) hk dX6_lose_34 rfl rfl ?_
      refine G_iret hk dX6_lose_35 ?_
      refine ⟨by unfold vLose; rw [hixj, if_pos c_4, if_neg (fun q => c_17 (soj.mpr q))], ?_, frM.up (by omega)⟩
      unfold lLose zLose
      rw [if_pos c_4, if_pos c_4, hixj]
      refine ⟨_, _, _, _, _, _, _, _, _, _, _, _, _, hC.s_so _, hrd8, hag, hrd, fun s hs => ?_, fun s hs hl => ?_, fun s hs => ?_⟩
      · unfold upd va_up
        by_cases hsj : s = j
        · rw [if_pos hsj, if_pos hsj, if_pos rfl]
        · rw [if_neg hsj, if_neg hsj]; exact hso s hs
      · unfold va_up at hl ⊢
        by_cases hsj : s = j
        · rw [if_pos hsj] at hl; exact absurd rfl hl
        · rw [if_neg hsj] at hl ⊢; exact hsl s hs hl
      · unfold va_up
        by_cases hsj : s = j
        · rw [if_pos hsj]; omega
        · rw [if_neg hsj]; exact hsz s hs
    · try simp only [gB_ne, gB_eq, Decidable.not_not] at c_17
      refine G_iconst (v := 0) hk dX6_lose_20 (by decide) ?_
      refine G_goto (tgt := 25) hk dX6_lose_21 (by decide) ?_
      refine G_istore_n (i := 2) hk dX6_lose_25 rfl (by decide) rfl ?_
      refine G_aload_n (i := 0) hk dX6_lose_26 rfl rfl ?_
      refine G_get hk fX6_9 dX6_lose_27 (by assumption) (by rfl) (by first | decide | omega) ?_
      refine G_iload_n (i := 1) hk dX6_lose_30 rfl rfl ?_
      refine G_bipush (v := (-9)) hk dX6_lose_31 (by decide) ?_
      refine G_iastX (j := j) hk dX6_lose_33 (by assumption) rfl (by omega) (by decide) (by first | decide | omega) ?_
      refine G_iload_n (i := 2) hk dX6_lose_34 rfl rfl ?_
      refine G_iret hk dX6_lose_35 ?_
      refine ⟨by unfold vLose; rw [hixj, if_pos c_4, if_pos (soj.mp (by first | exact c_17 | exact Decidable.not_not.mp c_17))], ?_, frM.up (by omega)⟩
      unfold lLose zLose
      rw [if_pos c_4, if_pos c_4, hixj]
      refine ⟨_, _, _, _, _, _, _, _, _, _, _, _, _, hC.s_so _, hrd8, hag, hrd, fun s hs => ?_, fun s hs hl => ?_, fun s hs => ?_⟩
      · unfold upd va_up
        by_cases hsj : s = j
        · rw [if_pos hsj, if_pos hsj, if_pos rfl]
        · rw [if_neg hsj, if_neg hsj]; exact hso s hs
      · unfold va_up at hl ⊢
        by_cases hsj : s = j
        · rw [if_pos hsj] at hl; exact absurd rfl hl
        · rw [if_neg hsj] at hl ⊢; exact hsl s hs hl
      · unfold va_up
        by_cases hsj : s = j
        · rw [if_pos hsj]; omega
        · rw [if_neg hsj]; exact hsz s hs
  · try simp only [gB_ne, gB_eq, Decidable.not_not] at c_4
    refine G_iconst (v := (-1)) hk dX6_lose_7 (by decide) ?_
    refine G_iret hk dX6_lose_8 ?_
    exact ⟨by unfold vLose; rw [if_neg c_4], by unfold lLose zLose; rw [if_neg c_4, if_neg c_4]; exact hR, frM.rf⟩

set_option maxHeartbeats 4000000 in
set_option maxRecDepth 100000 in
theorem lp_X6_sheet {l : Launch} {V : gV} {ad : Nat → Nat} {K : gX} (hk : gOk l { frames := 2, cells := 0, slots := 0, locals := 42 } K V cX6_sheet 5 RX6 (some .int) yX6_sheet.name) (E : Nat → va_E) (fa tr at1 rr dn wo rd : Int32) (n : Nat) (so sl ce pa rz dl ke p2 w2 : Nat → Int32) (j : Nat) (hj : j < 4) : ∀ (k t : Nat) (E1 : Nat → va_E), 60 < t + k → t ≤ 60 → mC V ad E1 fa tr at1 rr dn wo rd n so sl (fun x => if 60 * j ≤ x ∧ x < 60 * j + t then 0 else ce x) pa rz dl ke p2 w2 → frM E E1 → G K V 5 (gQ K V 44 0 0 (pI ad (fun v E2 => v = 1 ∧ mC V ad E2 fa tr at1 rr dn wo rd n so sl (fun x => if 60 * j ≤ x ∧ x < 60 * j + 60 then 0 else ce x) pa rz dl ke p2 w2 ∧ frM E E2))) ad 44 0 0 57 [(0, .ref (ad 34)), (1, .int (nI j)), (4, .int (nI t))] [] E1 := by
  intro k
  induction k with
  | zero => intro t E1 ht; omega
  | succ k ih =>
    intro t E1 ht ht60 hC1 hfr
    obtain ⟨m0, g35, g36, g37, g38, g39, g40, g41, g42, g43, m3⟩ := id hC1
    refine G_iload hk dX6_sheet_57 rfl ?_
    refine G_bipush (v := 60) hk dX6_sheet_59 (by decide) ?_
    refine G_icmp_ge (tgt := 83) hk dX6_sheet_61 (by decide) (fun c_61 => ?_) (fun c_61 => ?_)
    · try simp only [gB_ne, gB_eq, Decidable.not_not] at c_61
      have hge : 60 ≤ t := (nle (a := 60) (by omega) (by omega)).mp c_61
      have hte : t = 60 := by omega
      subst hte
      refine G_iconst (v := 1) hk dX6_sheet_83 (by decide) ?_
      refine G_iret hk dX6_sheet_84 ?_
      exact ⟨rfl, hC1, hfr⟩
    · try simp only [gB_ne, gB_eq, Decidable.not_not] at c_61
      have hlt : t < 60 := Nat.lt_of_not_le (fun q => c_61 ((nle (a := 60) (by omega) (by omega)).mpr q))
      refine G_aload_n (i := 0) hk dX6_sheet_64 rfl rfl ?_
      refine G_get hk fX6_16 dX6_sheet_65 (by assumption) (by rfl) (by first | decide | omega) ?_
      refine G_bipush (v := 60) hk dX6_sheet_68 (by decide) ?_
      refine G_iload_n (i := 1) hk dX6_sheet_70 rfl rfl ?_
      refine G_imul hk dX6_sheet_71 ?_
      rw [nI_60]
      refine G_iload hk dX6_sheet_72 rfl ?_
      refine G_iadd hk dX6_sheet_74 ?_
      rw [nI_add]
      refine G_iconst (v := 0) hk dX6_sheet_75 (by decide) ?_
      refine G_iastX (j := (60 * j + t)) hk dX6_sheet_76 (by assumption) rfl (by omega) (by decide) (by first | decide | omega) ?_
      refine G_iinc (v := nI (t + 1)) hk dX6_sheet_77 rfl (nI_inc t) (by decide) rfl ?_
      refine G_goto (tgt := 57) hk dX6_sheet_80 (by decide) ?_
      refine G_lv (by exact And.intro rfl (And.intro rfl (And.intro rfl (trivial)))) (ih (t + 1) _ (by omega) (by omega) ?_ (hfr.tr (frM.up (by omega))))
      have hC2 := hC1.s_ce (upd (fun x => if 60 * j ≤ x ∧ x < 60 * j + t then 0 else ce x) (60 * j + t) 0)
      have ef : upd (fun x => if 60 * j ≤ x ∧ x < 60 * j + t then 0 else ce x) (60 * j + t) 0 = (fun x => if 60 * j ≤ x ∧ x < 60 * j + (t + 1) then 0 else ce x) := by
        funext x
        unfold upd
        dsimp only
        by_cases hi : x = 60 * j + t
        · rw [if_pos hi, if_pos (by omega)]
        · rw [if_neg hi]
          by_cases h7 : 60 * j ≤ x ∧ x < 60 * j + t
          · rw [if_pos h7, if_pos (by omega)]
          · rw [if_neg h7, if_neg (by omega)]
      rw [← ef]
      exact hC2

set_option maxHeartbeats 4000000 in
set_option maxRecDepth 100000 in
theorem c_X6_sheet (l : Launch) (V : gV) (ad : Nat → Nat) (E : Nat → va_E) (n rd : Nat) (R : Nat → Nat → Int32) (rp rw : Nat → Int32) (tr fa : Int32) (la : Nat → Int32) (sz : Nat → Nat) (cl : Nat → Nat → Int32) (hR : mR V ad E (n, R, rd, rp, rw, tr, fa, la, sz, cl)) (ho0 : sOk n R) (hlo : lOk la) (k a m : Int32) : Ct l V ad 44 44 yX6_sheet cX6_sheet 5 (some .int) { frames := 2, cells := 0, slots := 0, locals := 42 } [.ref (ad 34), .int k, .int a, .int m] E (pI ad (fun v E2 => v = vSheet k a m ∧ mR V ad E2 (n, R, rd, rp, rw, tr, fSheet k a m, lSheet la k a m, zSheet sz k a m, cSheet cl k a m) ∧ frM E E2)) := by
  refine gCt mX6_sheet (Nat.le_of_ble_eq_true rfl) ?_
  intro K hk
  obtain ⟨at1, rr, dn, wo, so, sl, ce, pa, rz, dl, ke, p2, w2, hC, hrd8, hag, hrd, hso, hsl, hsz⟩ := id hR
  obtain ⟨m0, g35, g36, g37, g38, g39, g40, g41, g42, g43, m3⟩ := id hC
  have hM := hC.k
  have ho : ∀ i, i < n → rOk (pR pa i) := fun i hi => rOk_cw (hag i hi) (ho0 i hi)
  have hn0 : nI n = 0 ↔ n = 0 := neq (b := 0) (by omega) (by omega)
  refine G_aload_n (i := 0) hk dX6_sheet_0 rfl rfl ?_
  refine G_iconst (v := 0) hk dX6_sheet_1 (by decide) ?_
  refine G_put hk fX6_37 iX6_0 dX6_sheet_2 (by assumption) (Nat.le_of_ble_eq_true rfl) (by first | decide | omega) ?_
  refine G_E (E2 := va_up E 34 (mO ad 0 tr (nI n) at1 rr dn wo (nI rd))) rfl ?_
  have hC1 := hC.o (fa2 := 0) (tr2 := tr) (at2 := at1) (rr2 := rr) (dn2 := dn) (wo2 := wo) (rd2 := nI rd) (n2 := n) m3
  have f1 : frM E (va_up E 34 (mO ad 0 tr (nI n) at1 rr dn wo (nI rd))) := frM.up (by omega)
  generalize va_up E 34 (mO ad 0 tr (nI n) at1 rr dn wo (nI rd)) = E1 at hC1 f1 ⊢
  clear m0 g35 g36 g37 g38 g39 g40 g41 g42 g43 hM hC hR
  obtain ⟨m0, g35, g36, g37, g38, g39, g40, g41, g42, g43, m3⟩ := id hC1
  have hM := hC1.k
  have hR1 : mR V ad E1 (n, R, rd, rp, rw, tr, 0, la, sz, cl) := ⟨_, _, _, _, _, _, _, _, _, _, _, _, _, hC1, hrd8, hag, hrd, hso, hsl, hsz⟩
  refine G_iload_n (i := 1) hk dX6_sheet_5 rfl rfl ?_
  refine G_cSi hk (c_X6_isSheet l V ad E1 k) mX6_isSheet sX6_isSheet kX6_57 dX6_sheet_6 rfl (by decide) (by decide) rfl (Nat.le_of_ble_eq_true rfl) (fun r_6 E_6 h_6 => ?_)
  obtain ⟨rfl, rfl⟩ := h_6
  refine G_if_ne (tgt := 14) hk dX6_sheet_9 (by decide) (fun c_9 => ?_) (fun c_9 => ?_)
  · try simp only [gB_ne, gB_eq, Decidable.not_not] at c_9
    obtain ⟨j, hj, rfl⟩ := gIe (n := 3) c_9.1 c_9.2 (by omega)
    have hixj : ix (nI j) = j := ix_nI (by omega)
    have soj := so_iff hlo (show j < 4 by omega) (hso j (by omega))
    have szjj := hsz j (by omega)
    refine G_iload_n (i := 2) hk dX6_sheet_14 rfl rfl ?_
    refine G_cSi hk (c_X6_isSort l V ad E1 a) mX6_isSort sX6_isSort kX6_61 dX6_sheet_15 rfl (by decide) (by decide) rfl (Nat.le_of_ble_eq_true rfl) (fun r_15 E_15 h_15 => ?_)
    obtain ⟨rfl, rfl⟩ := h_15
    refine G_if_eq (tgt := 27) hk dX6_sheet_18 (by decide) (fun c_18 => ?_) (fun c_18 => ?_)
    · try simp only [gB_ne, gB_eq, Decidable.not_not] at c_18
      refine G_bipush (v := (-2)) hk dX6_sheet_27 (by decide) ?_
      refine G_iret hk dX6_sheet_29 ?_
      exact ⟨by unfold vSheet; rw [if_pos c_9, if_neg (fun z => c_18 z.1)], by unfold fSheet lSheet zSheet cSheet; rw [bSheetD_f (fun z => c_18 z.2.1.1), if_pos c_9, if_neg (fun z => c_18 z.1)]; exact hR1, f1⟩
    · try simp only [gB_ne, gB_eq, Decidable.not_not] at c_18
      refine G_iload_n (i := 3) hk dX6_sheet_21 rfl rfl ?_
      refine G_bipush (v := 60) hk dX6_sheet_22 (by decide) ?_
      refine G_icmp_le (tgt := 30) hk dX6_sheet_24 (by decide) (fun c_24 => ?_) (fun c_24 => ?_)
      · try simp only [gB_ne, gB_eq, Decidable.not_not] at c_24
        refine G_iload_n (i := 3) hk dX6_sheet_30 rfl rfl ?_
        refine G_if_ge (tgt := 40) hk dX6_sheet_31 (by decide) (fun c_31 => ?_) (fun c_31 => ?_)
        · try simp only [gB_ne, gB_eq, Decidable.not_not] at c_31
          have hm0 : ¬ m < 0 := Int32.not_lt.mpr c_31
          obtain ⟨t, ht, rfl⟩ := gIe (n := 60) c_31 c_24 (by omega)
          have hixt : ix (nI t) = t := ix_nI (by omega)
          refine G_aload_n (i := 0) hk dX6_sheet_40 rfl rfl ?_
          refine G_get hk fX6_9 dX6_sheet_41 (by assumption) (by rfl) (by first | decide | omega) ?_
          refine G_iload_n (i := 1) hk dX6_sheet_44 rfl rfl ?_
          refine G_iload_n (i := 2) hk dX6_sheet_45 rfl rfl ?_
          refine G_iastX (j := j) hk dX6_sheet_46 (by assumption) rfl (by omega) (by decide) (by first | decide | omega) ?_
          have hCa := hC1.s_so (upd so j a)
          have f2 := f1.tr (frM.up (E := E1) (k := 35) (c := gI V 4 (upd so j a)) (by omega))
          generalize va_up E1 35 (gI V 4 (upd so j a)) = Ea at hCa f2 ⊢
          clear m0 g35 g36 g37 g38 g39 g40 g41 g42 g43
          obtain ⟨m0, g35, g36, g37, g38, g39, g40, g41, g42, g43, m3⟩ := id hCa
          refine G_aload_n (i := 0) hk dX6_sheet_47 rfl rfl ?_
          refine G_get hk fX6_13 dX6_sheet_48 (by assumption) (by rfl) (by first | decide | omega) ?_
          refine G_iload_n (i := 1) hk dX6_sheet_51 rfl rfl ?_
          refine G_iload_n (i := 3) hk dX6_sheet_52 rfl rfl ?_
          refine G_iastX (j := j) hk dX6_sheet_53 (by assumption) rfl (by omega) (by decide) (by first | decide | omega) ?_
          have hCb := hCa.s_sl (upd sl j (nI t))
          have f3 := f2.tr (frM.up (E := Ea) (k := 36) (c := gI V 4 (upd sl j (nI t))) (by omega))
          generalize va_up Ea 36 (gI V 4 (upd sl j (nI t))) = Eb at hCb f3 ⊢
          refine G_iconst (v := 0) hk dX6_sheet_54 (by decide) ?_
          refine G_istore hk dX6_sheet_55 (by decide) rfl ?_
          have hl := lp_X6_sheet hk Eb 0 tr at1 rr dn wo (nI rd) n (upd so j a) (upd sl j (nI t)) ce pa rz dl ke p2 w2 j (by omega) 61 0 Eb (by omega) (by omega) (by
            have e : (fun x => if 60 * j ≤ x ∧ x < 60 * j + 0 then (0 : Int32) else ce x) = ce := by
              funext x
              exact if_neg (by omega)
            rw [e]
            exact hCb) frM.rf
          refine G_lv (by exact And.intro rfl (And.intro rfl (And.intro rfl (trivial)))) (G_post hl ?_)
          rintro r aa E2 ⟨v, rfl, rfl, rfl, hC2, f4⟩
          have hok : bSheet (nI j) a (nI t) := ⟨c_9, ⟨c_18, c_24⟩, hm0⟩
          refine ⟨_, rfl, rfl, by unfold vSheet; rw [if_pos c_9, if_pos ⟨c_18, c_24⟩, if_neg hm0], ?_, f3.tr f4⟩
          unfold fSheet lSheet zSheet cSheet
          rw [bSheetD_t hok, if_pos c_9, if_pos ⟨c_18, c_24⟩, if_neg hm0, if_pos rfl, if_pos rfl, if_pos rfl, hixj, hixt]
          refine ⟨_, _, _, _, _, _, _, _, _, _, _, _, _, hC2, hrd8, hag, hrd, fun s hs => ?_, fun s hs hl => ?_, fun s hs => ?_⟩
          · unfold upd va_up
            by_cases hsj : s = j
            · rw [if_pos hsj, if_pos hsj, if_neg]
              intro q
              have a0 := c_18.1
              rw [q] at a0
              exact absurd a0 (by decide)
            · rw [if_neg hsj, if_neg hsj]; exact hso s hs
          · unfold upd va_up at *
            by_cases hsj : s = j
            · rw [if_pos hsj, if_pos hsj, if_pos hsj]
              refine ⟨rfl, fun i hi => ?_⟩
              rw [if_pos (by omega), if_pos hi]
            · rw [if_neg hsj] at hl
              rw [if_neg hsj, if_neg hsj, if_neg hsj]
              refine ⟨(hsl s hs hl).1, fun i hi => ?_⟩
              have := hsz s hs
              rw [if_neg (by omega)]
              exact (hsl s hs hl).2 i hi
          · unfold va_up
            by_cases hsj : s = j
            · rw [if_pos hsj]; exact ht
            · rw [if_neg hsj]; exact hsz s hs
        · try simp only [gB_ne, gB_eq, Decidable.not_not] at c_31
          have hm0 : m < 0 := Int32.not_le.mp c_31
          refine G_aload_n (i := 0) hk dX6_sheet_34 rfl rfl ?_
          refine G_iconst (v := 4) hk dX6_sheet_35 (by decide) ?_
          refine G_cVi hk (c_X6_fails l V ad E1 n rd R rp rw tr 0 la sz cl hR1 ho0 4) mX6_fails vX6_fails kX6_68 dX6_sheet_36 (by assumption) (by rfl) (by first | decide | omega) rfl (by decide) (by decide) rfl (Nat.le_of_ble_eq_true rfl) (fun r_36 E_36 h_36 => ?_)
          obtain ⟨rfl, hRf, xf⟩ := h_36
          refine G_iret hk dX6_sheet_39 ?_
          exact ⟨by unfold vSheet; rw [if_pos c_9, if_pos ⟨c_18, c_24⟩, if_pos hm0]; rfl, by unfold fSheet lSheet zSheet cSheet; rw [bSheetD_f (fun z => z.2.2 hm0), if_pos c_9, if_pos ⟨c_18, c_24⟩, if_pos hm0]; exact hRf, f1.tr xf⟩
      · try simp only [gB_ne, gB_eq, Decidable.not_not] at c_24
        refine G_bipush (v := (-2)) hk dX6_sheet_27 (by decide) ?_
        refine G_iret hk dX6_sheet_29 ?_
        exact ⟨by unfold vSheet; rw [if_pos c_9, if_neg (fun z => c_24 z.2)], by unfold fSheet lSheet zSheet cSheet; rw [bSheetD_f (fun z => c_24 z.2.1.2), if_pos c_9, if_neg (fun z => c_24 z.2)]; exact hR1, f1⟩
  · try simp only [gB_ne, gB_eq, Decidable.not_not] at c_9
    refine G_iconst (v := (-1)) hk dX6_sheet_12 (by decide) ?_
    refine G_iret hk dX6_sheet_13 ?_
    exact ⟨by unfold vSheet; rw [if_neg c_9], by unfold fSheet lSheet zSheet cSheet; rw [bSheetD_f (fun z => c_9 z.1), if_neg c_9]; exact hR1, f1⟩

set_option maxHeartbeats 4000000 in
set_option maxRecDepth 100000 in
theorem c_X6_put (l : Launch) (V : gV) (ad : Nat → Nat) (E : Nat → va_E) (n rd : Nat) (R : Nat → Nat → Int32) (rp rw : Nat → Int32) (tr fa : Int32) (la : Nat → Int32) (sz : Nat → Nat) (cl : Nat → Nat → Int32) (hR : mR V ad E (n, R, rd, rp, rw, tr, fa, la, sz, cl)) (ho0 : sOk n R) (hlo : lOk la) (k i v : Int32) : Ct l V ad 44 44 yX6_put cX6_put 4 (some .int) { frames := 2, cells := 0, slots := 0, locals := 42 } [.ref (ad 34), .int k, .int i, .int v] E (pI ad (fun z E2 => z = vPut la sz k i ∧ mR V ad E2 (n, R, rd, rp, rw, tr, fPut la sz k i, la, sz, cPut la sz cl k i v) ∧ frM E E2)) := by
  refine gCt mX6_put (Nat.le_of_ble_eq_true rfl) ?_
  intro K hk
  obtain ⟨at1, rr, dn, wo, so, sl, ce, pa, rz, dl, ke, p2, w2, hC, hrd8, hag, hrd, hso, hsl, hsz⟩ := id hR
  obtain ⟨m0, g35, g36, g37, g38, g39, g40, g41, g42, g43, m3⟩ := id hC
  have hM := hC.k
  have ho : ∀ i, i < n → rOk (pR pa i) := fun i hi => rOk_cw (hag i hi) (ho0 i hi)
  have hn0 : nI n = 0 ↔ n = 0 := neq (b := 0) (by omega) (by omega)
  refine G_aload_n (i := 0) hk dX6_put_0 rfl rfl ?_
  refine G_iconst (v := 0) hk dX6_put_1 (by decide) ?_
  refine G_put hk fX6_37 iX6_0 dX6_put_2 (by assumption) (Nat.le_of_ble_eq_true rfl) (by first | decide | omega) ?_
  refine G_E (E2 := va_up E 34 (mO ad 0 tr (nI n) at1 rr dn wo (nI rd))) rfl ?_
  have hC1 := hC.o (fa2 := 0) (tr2 := tr) (at2 := at1) (rr2 := rr) (dn2 := dn) (wo2 := wo) (rd2 := nI rd) (n2 := n) m3
  have f1 : frM E (va_up E 34 (mO ad 0 tr (nI n) at1 rr dn wo (nI rd))) := frM.up (by omega)
  generalize va_up E 34 (mO ad 0 tr (nI n) at1 rr dn wo (nI rd)) = E1 at hC1 f1 ⊢
  clear m0 g35 g36 g37 g38 g39 g40 g41 g42 g43 hM hC hR
  obtain ⟨m0, g35, g36, g37, g38, g39, g40, g41, g42, g43, m3⟩ := id hC1
  have hM := hC1.k
  have hR1 : mR V ad E1 (n, R, rd, rp, rw, tr, 0, la, sz, cl) := ⟨_, _, _, _, _, _, _, _, _, _, _, _, _, hC1, hrd8, hag, hrd, hso, hsl, hsz⟩
  refine G_iload_n (i := 1) hk dX6_put_5 rfl rfl ?_
  refine G_cSi hk (c_X6_isSheet l V ad E1 k) mX6_isSheet sX6_isSheet kX6_57 dX6_put_6 rfl (by decide) (by decide) rfl (Nat.le_of_ble_eq_true rfl) (fun r_6 E_6 h_6 => ?_)
  obtain ⟨rfl, rfl⟩ := h_6
  refine G_if_ne (tgt := 14) hk dX6_put_9 (by decide) (fun c_9 => ?_) (fun c_9 => ?_)
  · try simp only [gB_ne, gB_eq, Decidable.not_not] at c_9
    obtain ⟨j, hj, rfl⟩ := gIe (n := 3) c_9.1 c_9.2 (by omega)
    have hixj : ix (nI j) = j := ix_nI (by omega)
    have soj := so_iff hlo (show j < 4 by omega) (hso j (by omega))
    have szjj := hsz j (by omega)
    refine G_aload_n (i := 0) hk dX6_put_14 rfl rfl ?_
    refine G_get hk fX6_9 dX6_put_15 (by assumption) (by rfl) (by first | decide | omega) ?_
    refine G_iload_n (i := 1) hk dX6_put_18 rfl rfl ?_
    refine G_ialdX (j := j) hk dX6_put_19 (by assumption) rfl (by omega) (by decide) (by first | decide | omega) ?_
    refine G_bipush (v := (-9)) hk dX6_put_20 (by decide) ?_
    refine G_icmp_ne (tgt := 31) hk dX6_put_22 (by decide) (fun c_22 => ?_) (fun c_22 => ?_)
    · try simp only [gB_ne, gB_eq, Decidable.not_not] at c_22
      have hla : ¬ la j = -1 := fun q => c_22 (soj.mpr q)
      have sola := so_la (hso j (by omega)) hla
      have sla := (hsl j (by omega) hla).1
      have wij : (0 ≤ i ∧ i ≤ nI (sz j) - 1) ↔ (0 ≤ i ∧ i < nI (sz j)) := wi1 szjj
      refine G_iload_n (i := 2) hk dX6_put_31 rfl rfl ?_
      refine G_iconst (v := 0) hk dX6_put_32 (by decide) ?_
      refine G_aload_n (i := 0) hk dX6_put_33 rfl rfl ?_
      refine G_get hk fX6_13 dX6_put_34 (by assumption) (by rfl) (by first | decide | omega) ?_
      refine G_iload_n (i := 1) hk dX6_put_37 rfl rfl ?_
      refine G_ialdX (j := j) hk dX6_put_38 (by assumption) rfl (by omega) (by decide) (by first | decide | omega) ?_
      refine G_iconst (v := 1) hk dX6_put_39 (by decide) ?_
      rw [sla]
      refine G_isub hk dX6_put_40 ?_
      refine G_cSi hk (c_X6_within l V ad E1 i 0 (nI (sz j) - 1)) mX6_within sX6_within kX6_43 dX6_put_41 rfl (by decide) (by decide) rfl (Nat.le_of_ble_eq_true rfl) (fun r_41 E_41 h_41 => ?_)
      obtain ⟨rfl, rfl⟩ := h_41
      refine G_if_ne (tgt := 53) hk dX6_put_44 (by decide) (fun c_44 => ?_) (fun c_44 => ?_)
      · try simp only [gB_ne, gB_eq, Decidable.not_not] at c_44
        have hi := wij.mp c_44
        obtain ⟨t, ht, rfl⟩ := gIx (Int32.not_lt.mpr hi.1) hi.2 (by omega)
        have hixt : ix (nI t) = t := ix_nI (by omega)
        refine G_aload_n (i := 0) hk dX6_put_53 rfl rfl ?_
        refine G_get hk fX6_16 dX6_put_54 (by assumption) (by rfl) (by first | decide | omega) ?_
        refine G_bipush (v := 60) hk dX6_put_57 (by decide) ?_
        refine G_iload_n (i := 1) hk dX6_put_59 rfl rfl ?_
        refine G_imul hk dX6_put_60 ?_
        rw [nI_60]
        refine G_iload_n (i := 2) hk dX6_put_61 rfl rfl ?_
        refine G_iadd hk dX6_put_62 ?_
        rw [nI_add]
        refine G_aload_n (i := 0) hk dX6_put_63 rfl rfl ?_
        refine G_get hk fX6_9 dX6_put_64 (by assumption) (by rfl) (by first | decide | omega) ?_
        refine G_iload_n (i := 1) hk dX6_put_67 rfl rfl ?_
        refine G_ialdX (j := j) hk dX6_put_68 (by assumption) rfl (by omega) (by decide) (by first | decide | omega) ?_
        refine G_if_ne (tgt := 77) hk dX6_put_69 (by decide) (fun c_69 => ?_) (fun c_69 => ?_)
        · try simp only [gB_ne, gB_eq, Decidable.not_not] at c_69
          refine G_aload_n (i := 0) hk dX6_put_77 rfl rfl ?_
          refine G_get hk fX6_9 dX6_put_78 (by assumption) (by rfl) (by first | decide | omega) ?_
          refine G_iload_n (i := 1) hk dX6_put_81 rfl rfl ?_
          refine G_ialdX (j := j) hk dX6_put_82 (by assumption) rfl (by omega) (by decide) (by first | decide | omega) ?_
          refine G_iconst (v := 1) hk dX6_put_83 (by decide) ?_
          refine G_icmp_ne (tgt := 92) hk dX6_put_84 (by decide) (fun c_84 => ?_) (fun c_84 => ?_)
          · try simp only [gB_ne, gB_eq, Decidable.not_not] at c_84
            refine G_iload_n (i := 3) hk dX6_put_92 rfl rfl ?_
            refine G_iastX (j := (60 * j + t)) hk dX6_put_93 (by assumption) rfl (by omega) (by decide) (by first | decide | omega) ?_
            have ecut : sCut (la j) v = v := by unfold sCut; rw [if_neg (fun q => c_69 (sola.trans q)), if_neg (fun q => c_84 (sola.trans q))]
            refine G_E (E2 := va_up E1 37 (gI V 240 (upd ce (60 * j + t) (sCut (la j) v)))) (by rw [ecut]) ?_
            refine G_iconst (v := 1) hk dX6_put_94 (by decide) ?_
            refine G_iret hk dX6_put_95 ?_
            refine ⟨by unfold vPut; rw [hixj, if_pos c_9, if_neg hla, if_pos hi], ?_, f1.tr (frM.up (by omega))⟩
            unfold fPut cPut
            rw [hixj, hixt, if_pos c_9, if_pos c_9, if_neg hla, if_neg hla, if_pos hi, if_pos hi]
            refine ⟨_, _, _, _, _, _, _, _, _, _, _, _, _, hC1.s_ce _, hrd8, hag, hrd, hso, fun s hs hl => ⟨(hsl s hs hl).1, fun x hx => ?_⟩, hsz⟩
            have hsx := hsz s hs
            unfold upd va_up
            by_cases hsj : s = j
            · subst hsj
              rw [if_pos rfl]
              by_cases hxt : x = t
              · rw [if_pos (by omega), if_pos hxt]
              · rw [if_neg (by omega), if_neg hxt]; exact (hsl s hs hl).2 x hx
            · rw [if_neg hsj, if_neg (by omega)]; exact (hsl s hs hl).2 x hx
          · try simp only [gB_ne, gB_eq, Decidable.not_not] at c_84
            refine G_iload_n (i := 3) hk dX6_put_87 rfl rfl ?_
            refine G_i2s hk dX6_put_88 ?_
            refine G_goto (tgt := 93) hk dX6_put_89 (by decide) ?_
            refine G_iastX (j := (60 * j + t)) hk dX6_put_93 (by assumption) rfl (by omega) (by decide) (by first | decide | omega) ?_
            have ecut : sCut (la j) v = v.toInt16.toInt32 := by unfold sCut; rw [if_neg (fun q => c_69 (sola.trans q)), if_pos (sola.symm.trans (by first | exact c_84 | exact Decidable.not_not.mp c_84))]
            refine G_E (E2 := va_up E1 37 (gI V 240 (upd ce (60 * j + t) (sCut (la j) v)))) (by rw [ecut]) ?_
            refine G_iconst (v := 1) hk dX6_put_94 (by decide) ?_
            refine G_iret hk dX6_put_95 ?_
            refine ⟨by unfold vPut; rw [hixj, if_pos c_9, if_neg hla, if_pos hi], ?_, f1.tr (frM.up (by omega))⟩
            unfold fPut cPut
            rw [hixj, hixt, if_pos c_9, if_pos c_9, if_neg hla, if_neg hla, if_pos hi, if_pos hi]
            refine ⟨_, _, _, _, _, _, _, _, _, _, _, _, _, hC1.s_ce _, hrd8, hag, hrd, hso, fun s hs hl => ⟨(hsl s hs hl).1, fun x hx => ?_⟩, hsz⟩
            have hsx := hsz s hs
            unfold upd va_up
            by_cases hsj : s = j
            · subst hsj
              rw [if_pos rfl]
              by_cases hxt : x = t
              · rw [if_pos (by omega), if_pos hxt]
              · rw [if_neg (by omega), if_neg hxt]; exact (hsl s hs hl).2 x hx
            · rw [if_neg hsj, if_neg (by omega)]; exact (hsl s hs hl).2 x hx
        · try simp only [gB_ne, gB_eq, Decidable.not_not] at c_69
          refine G_iload_n (i := 3) hk dX6_put_72 rfl rfl ?_
          refine G_i2b hk dX6_put_73 ?_
          refine G_goto (tgt := 93) hk dX6_put_74 (by decide) ?_
          refine G_iastX (j := (60 * j + t)) hk dX6_put_93 (by assumption) rfl (by omega) (by decide) (by first | decide | omega) ?_
          have ecut : sCut (la j) v = v.toInt8.toInt32 := by unfold sCut; rw [if_pos (sola.symm.trans (by first | exact c_69 | exact Decidable.not_not.mp c_69))]
          refine G_E (E2 := va_up E1 37 (gI V 240 (upd ce (60 * j + t) (sCut (la j) v)))) (by rw [ecut]) ?_
          refine G_iconst (v := 1) hk dX6_put_94 (by decide) ?_
          refine G_iret hk dX6_put_95 ?_
          refine ⟨by unfold vPut; rw [hixj, if_pos c_9, if_neg hla, if_pos hi], ?_, f1.tr (frM.up (by omega))⟩
          unfold fPut cPut
          rw [hixj, hixt, if_pos c_9, if_pos c_9, if_neg hla, if_neg hla, if_pos hi, if_pos hi]
          refine ⟨_, _, _, _, _, _, _, _, _, _, _, _, _, hC1.s_ce _, hrd8, hag, hrd, hso, fun s hs hl => ⟨(hsl s hs hl).1, fun x hx => ?_⟩, hsz⟩
          have hsx := hsz s hs
          unfold upd va_up
          by_cases hsj : s = j
          · subst hsj
            rw [if_pos rfl]
            by_cases hxt : x = t
            · rw [if_pos (by omega), if_pos hxt]
            · rw [if_neg (by omega), if_neg hxt]; exact (hsl s hs hl).2 x hx
          · rw [if_neg hsj, if_neg (by omega)]; exact (hsl s hs hl).2 x hx
      · try simp only [gB_ne, gB_eq, Decidable.not_not] at c_44
        have hi : ¬ (0 ≤ i ∧ i < nI (sz j)) := fun z => c_44 (wij.mpr z)
        refine G_aload_n (i := 0) hk dX6_put_47 rfl rfl ?_
        refine G_iconst (v := 3) hk dX6_put_48 (by decide) ?_
        refine G_cVi hk (c_X6_fails l V ad E1 n rd R rp rw tr 0 la sz cl hR1 ho0 3) mX6_fails vX6_fails kX6_68 dX6_put_49 (by assumption) (by rfl) (by first | decide | omega) rfl (by decide) (by decide) rfl (Nat.le_of_ble_eq_true rfl) (fun r_49 E_49 h_49 => ?_)
        obtain ⟨rfl, hRf, xf⟩ := h_49
        refine G_iret hk dX6_put_52 ?_
        exact ⟨by unfold vPut; rw [hixj, if_pos c_9, if_neg hla, if_neg hi]; rfl, by unfold fPut cPut; rw [hixj, if_pos c_9, if_pos c_9, if_neg hla, if_neg hla, if_neg hi, if_neg hi]; exact hRf, f1.tr xf⟩
    · try simp only [gB_ne, gB_eq, Decidable.not_not] at c_22
      have hla : la j = -1 := soj.mp (by first | exact c_22 | exact Decidable.not_not.mp c_22)
      refine G_aload_n (i := 0) hk dX6_put_25 rfl rfl ?_
      refine G_iconst (v := 1) hk dX6_put_26 (by decide) ?_
      refine G_cVi hk (c_X6_fails l V ad E1 n rd R rp rw tr 0 la sz cl hR1 ho0 1) mX6_fails vX6_fails kX6_68 dX6_put_27 (by assumption) (by rfl) (by first | decide | omega) rfl (by decide) (by decide) rfl (Nat.le_of_ble_eq_true rfl) (fun r_27 E_27 h_27 => ?_)
      obtain ⟨rfl, hRf, xf⟩ := h_27
      refine G_iret hk dX6_put_30 ?_
      exact ⟨by unfold vPut; rw [hixj, if_pos c_9, if_pos hla]; rfl, by unfold fPut cPut; rw [hixj, if_pos c_9, if_pos c_9, if_pos hla, if_pos hla]; exact hRf, f1.tr xf⟩
  · try simp only [gB_ne, gB_eq, Decidable.not_not] at c_9
    refine G_iconst (v := (-1)) hk dX6_put_12 (by decide) ?_
    refine G_iret hk dX6_put_13 ?_
    exact ⟨by unfold vPut; rw [if_neg c_9], by unfold fPut cPut; rw [if_neg c_9, if_neg c_9]; exact hR1, f1⟩

set_option maxHeartbeats 4000000 in
set_option maxRecDepth 100000 in
theorem c_X6_cell (l : Launch) (V : gV) (ad : Nat → Nat) (E : Nat → va_E) (n rd : Nat) (R : Nat → Nat → Int32) (rp rw : Nat → Int32) (tr fa : Int32) (la : Nat → Int32) (sz : Nat → Nat) (cl : Nat → Nat → Int32) (hR : mR V ad E (n, R, rd, rp, rw, tr, fa, la, sz, cl)) (ho0 : sOk n R) (hlo : lOk la) (k i a : Int32) : Ct l V ad 44 44 yX6_cell cX6_cell 4 (some .long) { frames := 2, cells := 0, slots := 0, locals := 42 } [.ref (ad 34), .int k, .int i, .int a] E (pJ ad (fun z E2 => z = vCell la sz cl k i a ∧ mR V ad E2 (n, R, rd, rp, rw, tr, fCell la sz k i a, la, sz, cl) ∧ frM E E2)) := by
  refine gCt mX6_cell (Nat.le_of_ble_eq_true rfl) ?_
  intro K hk
  obtain ⟨at1, rr, dn, wo, so, sl, ce, pa, rz, dl, ke, p2, w2, hC, hrd8, hag, hrd, hso, hsl, hsz⟩ := id hR
  obtain ⟨m0, g35, g36, g37, g38, g39, g40, g41, g42, g43, m3⟩ := id hC
  have hM := hC.k
  have ho : ∀ i, i < n → rOk (pR pa i) := fun i hi => rOk_cw (hag i hi) (ho0 i hi)
  have hn0 : nI n = 0 ↔ n = 0 := neq (b := 0) (by omega) (by omega)
  refine G_aload_n (i := 0) hk dX6_cell_0 rfl rfl ?_
  refine G_iconst (v := 0) hk dX6_cell_1 (by decide) ?_
  refine G_put hk fX6_37 iX6_0 dX6_cell_2 (by assumption) (Nat.le_of_ble_eq_true rfl) (by first | decide | omega) ?_
  refine G_E (E2 := va_up E 34 (mO ad 0 tr (nI n) at1 rr dn wo (nI rd))) rfl ?_
  have hC1 := hC.o (fa2 := 0) (tr2 := tr) (at2 := at1) (rr2 := rr) (dn2 := dn) (wo2 := wo) (rd2 := nI rd) (n2 := n) m3
  have f1 : frM E (va_up E 34 (mO ad 0 tr (nI n) at1 rr dn wo (nI rd))) := frM.up (by omega)
  generalize va_up E 34 (mO ad 0 tr (nI n) at1 rr dn wo (nI rd)) = E1 at hC1 f1 ⊢
  clear m0 g35 g36 g37 g38 g39 g40 g41 g42 g43 hM hC hR
  obtain ⟨m0, g35, g36, g37, g38, g39, g40, g41, g42, g43, m3⟩ := id hC1
  have hM := hC1.k
  have hR1 : mR V ad E1 (n, R, rd, rp, rw, tr, 0, la, sz, cl) := ⟨_, _, _, _, _, _, _, _, _, _, _, _, _, hC1, hrd8, hag, hrd, hso, hsl, hsz⟩
  refine G_iload_n (i := 1) hk dX6_cell_5 rfl rfl ?_
  refine G_cSi hk (c_X6_isSheet l V ad E1 k) mX6_isSheet sX6_isSheet kX6_57 dX6_cell_6 rfl (by decide) (by decide) rfl (Nat.le_of_ble_eq_true rfl) (fun r_6 E_6 h_6 => ?_)
  obtain ⟨rfl, rfl⟩ := h_6
  refine G_if_eq (tgt := 19) hk dX6_cell_9 (by decide) (fun c_9 => ?_) (fun c_9 => ?_)
  · try simp only [gB_ne, gB_eq, Decidable.not_not] at c_9
    refine G_ldc2 (v := sLost) hk jcX6_41 dX6_cell_19 ?_
    refine G_lret hk dX6_cell_22 ?_
    exact ⟨by unfold vCell; rw [if_neg (fun z => c_9 z.1)], by unfold fCell; rw [if_neg (fun z => c_9 z.1)]; exact hR1, f1⟩
  · try simp only [gB_ne, gB_eq, Decidable.not_not] at c_9
    refine G_iload_n (i := 3) hk dX6_cell_12 rfl rfl ?_
    refine G_cSi hk (c_X6_isSort l V ad E1 a) mX6_isSort sX6_isSort kX6_61 dX6_cell_13 rfl (by decide) (by decide) rfl (Nat.le_of_ble_eq_true rfl) (fun r_13 E_13 h_13 => ?_)
    obtain ⟨rfl, rfl⟩ := h_13
    refine G_if_ne (tgt := 23) hk dX6_cell_16 (by decide) (fun c_16 => ?_) (fun c_16 => ?_)
    · try simp only [gB_ne, gB_eq, Decidable.not_not] at c_16
      obtain ⟨j, hj, rfl⟩ := gIe (n := 3) c_9.1 c_9.2 (by omega)
      have hixj : ix (nI j) = j := ix_nI (by omega)
      have soj := so_iff hlo (show j < 4 by omega) (hso j (by omega))
      have szjj := hsz j (by omega)
      refine G_aload_n (i := 0) hk dX6_cell_23 rfl rfl ?_
      refine G_get hk fX6_9 dX6_cell_24 (by assumption) (by rfl) (by first | decide | omega) ?_
      refine G_iload_n (i := 1) hk dX6_cell_27 rfl rfl ?_
      refine G_ialdX (j := j) hk dX6_cell_28 (by assumption) rfl (by omega) (by decide) (by first | decide | omega) ?_
      refine G_bipush (v := (-9)) hk dX6_cell_29 (by decide) ?_
      refine G_icmp_eq (tgt := 50) hk dX6_cell_31 (by decide) (fun c_31 => ?_) (fun c_31 => ?_)
      · try simp only [gB_ne, gB_eq, Decidable.not_not] at c_31
        have hla := soj.mp c_31
        refine G_aload_n (i := 0) hk dX6_cell_50 rfl rfl ?_
        refine G_get hk fX6_9 dX6_cell_51 (by assumption) (by rfl) (by first | decide | omega) ?_
        refine G_iload_n (i := 1) hk dX6_cell_54 rfl rfl ?_
        refine G_ialdX (j := j) hk dX6_cell_55 (by assumption) rfl (by omega) (by decide) (by first | decide | omega) ?_
        refine G_bipush (v := (-9)) hk dX6_cell_56 (by decide) ?_
        refine G_icmp_ne (tgt := 67) hk dX6_cell_58 (by decide) (fun c_58 => ?_) (fun c_58 => ?_)
        · try simp only [gB_ne, gB_eq, Decidable.not_not] at c_58
          exact absurd c_31 c_58
        · try simp only [gB_ne, gB_eq, Decidable.not_not] at c_58
          refine G_aload_n (i := 0) hk dX6_cell_61 rfl rfl ?_
          refine G_iconst (v := 1) hk dX6_cell_62 (by decide) ?_
          refine G_cVl hk (c_X6_lost l V ad E1 n rd R rp rw tr 0 la sz cl hR1 ho0 1) mX6_lost vX6_lost kX6_175 dX6_cell_63 (by assumption) (by rfl) (by first | decide | omega) rfl (by decide) (by decide) rfl (Nat.le_of_ble_eq_true rfl) (fun r_63 E_63 h_63 => ?_)
          obtain ⟨rfl, hRf, xf⟩ := h_63
          refine G_lret hk dX6_cell_66 ?_
          have hf : sFas (la j) a = 1 := by unfold sFas; rw [if_pos hla]
          exact ⟨by unfold vCell; rw [hixj, if_pos ⟨c_9, c_16⟩, hf, if_neg (by decide)], by unfold fCell; rw [hixj, if_pos ⟨c_9, c_16⟩, hf, if_neg (by decide)]; exact hRf, f1.tr xf⟩
      · try simp only [gB_ne, gB_eq, Decidable.not_not] at c_31
        have hla : ¬ la j = -1 := fun q => c_31 (soj.mpr q)
        have sola := so_la (hso j (by omega)) hla
        have sla := (hsl j (by omega) hla).1
        have wij : (0 ≤ i ∧ i ≤ nI (sz j) - 1) ↔ (0 ≤ i ∧ i < nI (sz j)) := wi1 szjj
        refine G_aload_n (i := 0) hk dX6_cell_34 rfl rfl ?_
        refine G_get hk fX6_9 dX6_cell_35 (by assumption) (by rfl) (by first | decide | omega) ?_
        refine G_iload_n (i := 1) hk dX6_cell_38 rfl rfl ?_
        refine G_ialdX (j := j) hk dX6_cell_39 (by assumption) rfl (by omega) (by decide) (by first | decide | omega) ?_
        refine G_iload_n (i := 3) hk dX6_cell_40 rfl rfl ?_
        refine G_icmp_eq (tgt := 50) hk dX6_cell_41 (by decide) (fun c_41 => ?_) (fun c_41 => ?_)
        · try simp only [gB_ne, gB_eq, Decidable.not_not] at c_41
          refine G_aload_n (i := 0) hk dX6_cell_50 rfl rfl ?_
          refine G_get hk fX6_9 dX6_cell_51 (by assumption) (by rfl) (by first | decide | omega) ?_
          refine G_iload_n (i := 1) hk dX6_cell_54 rfl rfl ?_
          refine G_ialdX (j := j) hk dX6_cell_55 (by assumption) rfl (by omega) (by decide) (by first | decide | omega) ?_
          refine G_bipush (v := (-9)) hk dX6_cell_56 (by decide) ?_
          refine G_icmp_ne (tgt := 67) hk dX6_cell_58 (by decide) (fun c_58 => ?_) (fun c_58 => ?_)
          · try simp only [gB_ne, gB_eq, Decidable.not_not] at c_58
            have hf : sFas (la j) a = 0 := by unfold sFas; rw [if_neg hla, if_pos (sola.symm.trans c_41)]
            refine G_iload_n (i := 2) hk dX6_cell_67 rfl rfl ?_
            refine G_iconst (v := 0) hk dX6_cell_68 (by decide) ?_
            refine G_aload_n (i := 0) hk dX6_cell_69 rfl rfl ?_
            refine G_get hk fX6_13 dX6_cell_70 (by assumption) (by rfl) (by first | decide | omega) ?_
            refine G_iload_n (i := 1) hk dX6_cell_73 rfl rfl ?_
            refine G_ialdX (j := j) hk dX6_cell_74 (by assumption) rfl (by omega) (by decide) (by first | decide | omega) ?_
            refine G_iconst (v := 1) hk dX6_cell_75 (by decide) ?_
            rw [sla]
            refine G_isub hk dX6_cell_76 ?_
            refine G_cSi hk (c_X6_within l V ad E1 i 0 (nI (sz j) - 1)) mX6_within sX6_within kX6_43 dX6_cell_77 rfl (by decide) (by decide) rfl (Nat.le_of_ble_eq_true rfl) (fun r_77 E_77 h_77 => ?_)
            obtain ⟨rfl, rfl⟩ := h_77
            refine G_if_ne (tgt := 89) hk dX6_cell_80 (by decide) (fun c_80 => ?_) (fun c_80 => ?_)
            · try simp only [gB_ne, gB_eq, Decidable.not_not] at c_80
              have hi := wij.mp c_80
              obtain ⟨t, ht, rfl⟩ := gIx (Int32.not_lt.mpr hi.1) hi.2 (by omega)
              have hixt : ix (nI t) = t := ix_nI (by omega)
              refine G_aload_n (i := 0) hk dX6_cell_89 rfl rfl ?_
              refine G_get hk fX6_16 dX6_cell_90 (by assumption) (by rfl) (by first | decide | omega) ?_
              refine G_bipush (v := 60) hk dX6_cell_93 (by decide) ?_
              refine G_iload_n (i := 1) hk dX6_cell_95 rfl rfl ?_
              refine G_imul hk dX6_cell_96 ?_
              rw [nI_60]
              refine G_iload_n (i := 2) hk dX6_cell_97 rfl rfl ?_
              refine G_iadd hk dX6_cell_98 ?_
              rw [nI_add]
              refine G_ialdX (j := (60 * j + t)) hk dX6_cell_99 (by assumption) rfl (by omega) (by decide) (by first | decide | omega) ?_
              refine G_i2l hk dX6_cell_100 ?_
              refine G_lret hk dX6_cell_101 ?_
              exact ⟨by unfold vCell; rw [hixj, hixt, if_pos ⟨c_9, c_16⟩, if_pos hf, if_pos hi, (hsl j (by omega) hla).2 t ht], by unfold fCell; rw [hixj, if_pos ⟨c_9, c_16⟩, if_pos hf, if_pos hi]; exact hR1, f1⟩
            · try simp only [gB_ne, gB_eq, Decidable.not_not] at c_80
              have hi : ¬ (0 ≤ i ∧ i < nI (sz j)) := fun z => c_80 (wij.mpr z)
              refine G_aload_n (i := 0) hk dX6_cell_83 rfl rfl ?_
              refine G_iconst (v := 3) hk dX6_cell_84 (by decide) ?_
              refine G_cVl hk (c_X6_lost l V ad E1 n rd R rp rw tr 0 la sz cl hR1 ho0 3) mX6_lost vX6_lost kX6_175 dX6_cell_85 (by assumption) (by rfl) (by first | decide | omega) rfl (by decide) (by decide) rfl (Nat.le_of_ble_eq_true rfl) (fun r_85 E_85 h_85 => ?_)
              obtain ⟨rfl, hRf, xf⟩ := h_85
              refine G_lret hk dX6_cell_88 ?_
              exact ⟨by unfold vCell; rw [hixj, if_pos ⟨c_9, c_16⟩, if_pos hf, if_neg hi], by unfold fCell; rw [hixj, if_pos ⟨c_9, c_16⟩, if_pos hf, if_neg hi]; exact hRf, f1.tr xf⟩
          · try simp only [gB_ne, gB_eq, Decidable.not_not] at c_58
            exact absurd (by first | exact c_58 | exact Decidable.not_not.mp c_58) c_31
        · try simp only [gB_ne, gB_eq, Decidable.not_not] at c_41
          refine G_aload_n (i := 0) hk dX6_cell_44 rfl rfl ?_
          refine G_iconst (v := 2) hk dX6_cell_45 (by decide) ?_
          refine G_cVl hk (c_X6_lost l V ad E1 n rd R rp rw tr 0 la sz cl hR1 ho0 2) mX6_lost vX6_lost kX6_175 dX6_cell_46 (by assumption) (by rfl) (by first | decide | omega) rfl (by decide) (by decide) rfl (Nat.le_of_ble_eq_true rfl) (fun r_46 E_46 h_46 => ?_)
          obtain ⟨rfl, hRf, xf⟩ := h_46
          refine G_lret hk dX6_cell_49 ?_
          have hf : sFas (la j) a = 2 := by unfold sFas; rw [if_neg hla, if_neg (fun q => c_41 (sola.trans q))]
          exact ⟨by unfold vCell; rw [hixj, if_pos ⟨c_9, c_16⟩, hf, if_neg (by decide)], by unfold fCell; rw [hixj, if_pos ⟨c_9, c_16⟩, hf, if_neg (by decide)]; exact hRf, f1.tr xf⟩
    · try simp only [gB_ne, gB_eq, Decidable.not_not] at c_16
      refine G_ldc2 (v := sLost) hk jcX6_41 dX6_cell_19 ?_
      refine G_lret hk dX6_cell_22 ?_
      exact ⟨by unfold vCell; rw [if_neg (fun z => c_16 z.2)], by unfold fCell; rw [if_neg (fun z => c_16 z.2)]; exact hR1, f1⟩
