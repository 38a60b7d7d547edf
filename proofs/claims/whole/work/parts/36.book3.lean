set_option maxHeartbeats 4000000 in
set_option maxRecDepth 100000 in
theorem c_X1_changePlaces (l : Launch) (V : gV) (ad : Nat → Nat) (E : Nat → va_E) (bb n : Nat) (π : Nat → Nat) (R : Nat → Nat → Int32) (hB : bkB V ad E bb n π R) (r : Nat) (hr : r + 1 < n) : Ct l V ad 44 44 yX1_changePlaces cX1_changePlaces 3 none { frames := 1, cells := 0, slots := 0, locals := 21 } [.ref (ad bb), .int (nI r)] E (pV ad (fun E2 => bkM V ad bb E E2 n (sSwap R r))) := by
  refine gCt mX1_changePlaces (Nat.le_of_ble_eq_true rfl) ?_
  intro K hk
  obtain ⟨h0, h1, h2, h3, h4, h5, h6⟩ := id hB
  have hr0 := h2 r (by omega)
  have hr1 := h2 (r + 1) (by omega)
  have p0 := h4 r (by omega)
  have p1 := h4 (r + 1) (by omega)
  refine G_aload_n (i := 0) hk dX1_changePlaces_0 rfl rfl ?_
  refine G_iload_n (i := 1) hk dX1_changePlaces_1 rfl rfl ?_
  refine G_cVi hk (c_X1_isPair l V ad E bb n π R hB (nI r)) mX1_isPair vX1_isPair kX1_52 dX1_changePlaces_2 (by assumption) (by rfl) (by first | decide | omega) rfl (by decide) (by decide) rfl (Nat.le_of_ble_eq_true rfl) (fun r_2 E_2 h_2 => ?_)
  obtain ⟨rfl, rfl⟩ := h_2
  refine G_if_ne (tgt := 9) hk dX1_changePlaces_5 (by decide) (fun c_5 => ?_) (fun c_5 => ?_)
  · try simp only [gB_ne, gB_eq, Decidable.not_not] at c_5
    refine G_aload_n (i := 0) hk dX1_changePlaces_9 rfl rfl ?_
    refine G_get hk fX1_11 dX1_changePlaces_10 (by assumption) (by rfl) (by first | decide | omega) ?_
    refine G_iload_n (i := 1) hk dX1_changePlaces_13 rfl rfl ?_
    refine G_aaldRlX (j := r) hk dX1_changePlaces_14 (by assumption) rfl (by omega) (by decide) (by rfl) (by first | decide | omega) ?_
    refine G_astore_n (i := 2) hk dX1_changePlaces_15 rfl (by decide) rfl ?_
    refine G_aload_n (i := 0) hk dX1_changePlaces_16 rfl rfl ?_
    refine G_get hk fX1_11 dX1_changePlaces_17 (by assumption) (by rfl) (by first | decide | omega) ?_
    refine G_iload_n (i := 1) hk dX1_changePlaces_20 rfl rfl ?_
    refine G_aload_n (i := 0) hk dX1_changePlaces_21 rfl rfl ?_
    refine G_get hk fX1_11 dX1_changePlaces_22 (by assumption) (by rfl) (by first | decide | omega) ?_
    refine G_iload_n (i := 1) hk dX1_changePlaces_25 rfl rfl ?_
    refine G_iconst (v := 1) hk dX1_changePlaces_26 (by decide) ?_
    refine G_iadd hk dX1_changePlaces_27 ?_
    refine G_aaldRlX (j := (r + 1)) hk dX1_changePlaces_28 (by assumption) (nI_i1 r) (by omega) (by decide) (by rfl) (by first | decide | omega) ?_
    refine G_aastRlX (j := r) hk dX1_changePlaces_29 (by assumption) rfl (by omega) (by decide) (by first | decide | omega) (by assumption) (by first | decide | omega) ?_
    generalize hE1 : va_up E (bb + 1) (gRl V 7 (va_up (fun i => some (ad (bb + 4 + π i))) r (some (ad (bb + 4 + π (r + 1)))))) = E1
    have e0 := (show E1 bb = E bb by rw [← hE1, va_up_ne _ _ (by omega)]).trans h0
    have e1 := (congrFun hE1.symm (bb + 1)).trans (va_up_self _ _ _)
    have er : E1 (bb + 4 + π r) = rC (R r) := by rw [← hE1, va_up_ne _ _ (by omega)]; exact hr0
    refine G_aload_n (i := 0) hk dX1_changePlaces_30 rfl rfl ?_
    refine G_get hk fX1_11 dX1_changePlaces_31 (by assumption) (by rfl) (by first | decide | omega) ?_
    refine G_iload_n (i := 1) hk dX1_changePlaces_34 rfl rfl ?_
    refine G_iconst (v := 1) hk dX1_changePlaces_35 (by decide) ?_
    refine G_iadd hk dX1_changePlaces_36 ?_
    refine G_aload_n (i := 2) hk dX1_changePlaces_37 rfl rfl ?_
    refine G_aastRlX (j := (r + 1)) hk dX1_changePlaces_38 (by assumption) (nI_i1 r) (by omega) (by decide) (by first | decide | omega) (by assumption) (by first | decide | omega) ?_
    refine G_vret hk dX1_changePlaces_39 ?_
    rw [← hE1, va_up_up, va_arr (B := fun i => π (if i = r then r + 1 else i)) (fun i => by by_cases hi : i = r <;> simp [hi]), va_arr (B := fun i => π (if i = r + 1 then r else if i = r then r + 1 else i)) (fun i => by by_cases hi : i = r + 1 <;> by_cases hj : i = r <;> simp [hi, hj])]
    refine ⟨⟨_, _, bk_perm (σ := fun i => if i = r + 1 then r else if i = r then r + 1 else i) hB (by rw [va_up_ne _ _ (by omega)]; exact h0) (va_up_self _ _ _) (fun k q1 q2 => va_up_ne _ _ q2) h3 (fun i hi => by (try dsimp only); split <;> (try split) <;> omega) (fun i j hi hj => by (try dsimp only); intro q; split at q <;> split at q <;> (try split at q) <;> (try split at q) <;> omega), fun i hi => ?_⟩, va_up_ne _ _ (by omega), va_up_ne _ _ (by omega), fun k hq => va_up_ne _ _ (by omega)⟩
    unfold sSwap
    by_cases ha : i = r
    · simp [ha]
    · by_cases hb : i = r + 1 <;> simp [ha, hb]
  · try simp only [gB_ne, gB_eq, Decidable.not_not] at c_5
    exact absurd ⟨nI_pos' (by omega), by rw [show nI n - 1 = nI (n - 1) from pk_sub (b := 1) (by omega)]; exact (nlt (by omega) (by omega)).mpr (by omega)⟩ c_5

set_option maxHeartbeats 4000000 in
set_option maxRecDepth 100000 in
theorem lp_X1_takeAway {l : Launch} {V : gV} {ad : Nat → Nat} {K : gX} (hk : gOk l { frames := 1, cells := 0, slots := 0, locals := 21 } K V cX1_takeAway 4 RX1 none yX1_takeAway.name) (E : Nat → va_E) (bb n : Nat) (π : Nat → Nat) (R : Nat → Nat → Int32) (hB : bkB V ad E bb n π R) (k0 : Nat) (hk0 : k0 < n) : ∀ (k r : Nat) (E1 : Nat → va_E), n - 1 < r + k → k0 ≤ r → r ≤ n - 1 → E1 = va_up E (bb + 1) (gRl V 7 (fun i => some (ad (bb + 4 + (fun i => π (if i < k0 then i else if i < r then i + 1 else i)) i)))) → G K V 4 (gQ K V 44 0 0 (pV ad (fun E2 => bkM V ad bb E E2 (n - 1) (sDel R k0)))) ad 44 0 0 18 [(0, .ref (ad bb)), (1, .int (nI k0)), (2, .ref (ad (bb + 4 + π k0))), (3, .int (nI r))] [] E1 := by
  obtain ⟨h0, h1, h2, h3, h4, h5, h6⟩ := id hB
  intro k
  induction k with
  | zero => intro r E1 hr; omega
  | succ k ih =>
    intro r E1 hr hkr hrn hE1
    have e0 := (show E1 bb = E bb by rw [hE1, va_up_ne _ _ (by omega)]).trans h0
    have e1 := (congrFun hE1 (bb + 1)).trans (va_up_self _ _ _)
    have hcnt : nI n - 1 = nI (n - 1) := pk_sub (b := 1) (by omega)
    refine G_iload_n (i := 3) hk dX1_takeAway_18 rfl rfl ?_
    refine G_aload_n (i := 0) hk dX1_takeAway_19 rfl rfl ?_
    refine G_get hk fX1_25 dX1_takeAway_20 (by assumption) (by rfl) (by first | decide | omega) ?_
    refine G_iconst (v := 1) hk dX1_takeAway_23 (by decide) ?_
    refine G_isub hk dX1_takeAway_24 ?_
    rw [hcnt]
    refine G_icmp_ge (tgt := 48) hk dX1_takeAway_25 (by decide) (fun c_25 => ?_) (fun c_25 => ?_)
    · try simp only [gB_ne, gB_eq, Decidable.not_not] at c_25
      have hge : n - 1 ≤ r := (nle (by omega) (by omega)).mp c_25
      have hre : r = n - 1 := by omega
      refine G_aload_n (i := 0) hk dX1_takeAway_48 rfl rfl ?_
      refine G_dup hk dX1_takeAway_49 rfl ?_
      refine G_get hk fX1_25 dX1_takeAway_50 (by assumption) (by rfl) (by first | decide | omega) ?_
      refine G_iconst (v := 1) hk dX1_takeAway_53 (by decide) ?_
      refine G_isub hk dX1_takeAway_54 ?_
      rw [hcnt]
      refine G_put hk fX1_25 iX1_2 dX1_takeAway_55 (by assumption) (Nat.le_of_ble_eq_true rfl) (by first | decide | omega) ?_
      generalize hE2 : va_up E1 bb _ = E2
      have g0 : E2 bb = .inr (1, [.ref (ad (bb + 1)), .ref (ad (bb + 2)), .int (nI (n - 1))]) := by rw [← hE2, va_up_self]; rfl
      have g1 := (show E2 (bb + 1) = E1 (bb + 1) by rw [← hE2, va_up_ne _ _ (by omega)]).trans e1
      have gk : E2 (bb + 4 + π k0) = rC (R k0) := by rw [← hE2, va_up_ne _ _ (by omega), hE1, va_up_ne _ _ (by omega)]; exact h2 _ (by omega)
      have pk := h4 k0 (by omega)
      refine G_aload_n (i := 0) hk dX1_takeAway_58 rfl rfl ?_
      refine G_get hk fX1_11 dX1_takeAway_59 (by assumption) (by rfl) (by first | decide | omega) ?_
      refine G_aload_n (i := 0) hk dX1_takeAway_62 rfl rfl ?_
      refine G_get hk fX1_25 dX1_takeAway_63 (by assumption) (by rfl) (by first | decide | omega) ?_
      refine G_aload_n (i := 2) hk dX1_takeAway_66 rfl rfl ?_
      refine G_aastRlX (j := (n - 1)) hk dX1_takeAway_67 (by assumption) rfl (by omega) (by decide) (by first | decide | omega) (by assumption) (by first | decide | omega) ?_
      refine G_vret hk dX1_takeAway_68 ?_
      rw [va_arr (B := fun i => π (if i < k0 then i else if i < n - 1 then i + 1 else if i = n - 1 then k0 else i)) (fun i => ?_)]
      · generalize hE3 : va_up E2 (bb + 1) _ = E3
        have f1 : ∀ q, q ≠ bb → q ≠ bb + 1 → E3 q = E q := fun q q1 q2 => by rw [← hE3, va_up_ne _ _ q2, ← hE2, va_up_ne _ _ q1, hE1, va_up_ne _ _ q2]
        refine ⟨⟨_, _, bk_perm (σ := fun i => if i < k0 then i else if i < n - 1 then i + 1 else if i = n - 1 then k0 else i) (n2 := n - 1) hB (by rw [← hE3, va_up_ne _ _ (by omega)]; exact g0) (by rw [← hE3, va_up_self]) f1 (by omega) (fun i hi => by (try dsimp only); split <;> (try split) <;> (try split) <;> omega) (fun i j hi hj => by (try dsimp only); intro q; split at q <;> (try split at q) <;> (try split at q) <;> (try split at q) <;> (try split at q) <;> (try split at q) <;> omega), fun i hi => ?_⟩, f1 _ (by omega) (by omega), f1 _ (by omega) (by omega), fun q hq => f1 q (by omega) (by omega)⟩
        unfold sDel
        try dsimp only
        by_cases h7 : i < k0
        · rw [if_pos h7, if_pos h7]
        · rw [if_neg h7, if_neg h7, if_pos hi]
      · by_cases h7 : i < k0
        · simp [h7, show ¬ i = n - 1 by omega]
        · by_cases h8 : i < n - 1
          · simp [h7, h8, show ¬ i = n - 1 by omega, show i < r by omega]
          · by_cases h9 : i = n - 1
            · simp [h9, show ¬ n - 1 < k0 by omega]
            · simp [h7, h8, h9, show ¬ i < r by omega]
    · try simp only [gB_ne, gB_eq, Decidable.not_not] at c_25
      have hlt : r < n - 1 := Nat.lt_of_not_le (fun q => c_25 ((nle (by omega) (by omega)).mpr q))
      have p1 := h4 (r + 1) (by omega)
      have er : E1 (bb + 4 + π (r + 1)) = rC (R (r + 1)) := by rw [hE1, va_up_ne _ _ (by omega)]; exact h2 _ (by omega)
      refine G_aload_n (i := 0) hk dX1_takeAway_28 rfl rfl ?_
      refine G_get hk fX1_11 dX1_takeAway_29 (by assumption) (by rfl) (by first | decide | omega) ?_
      refine G_iload_n (i := 3) hk dX1_takeAway_32 rfl rfl ?_
      refine G_aload_n (i := 0) hk dX1_takeAway_33 rfl rfl ?_
      refine G_get hk fX1_11 dX1_takeAway_34 (by assumption) (by rfl) (by first | decide | omega) ?_
      refine G_iload_n (i := 3) hk dX1_takeAway_37 rfl rfl ?_
      refine G_iconst (v := 1) hk dX1_takeAway_38 (by decide) ?_
      refine G_iadd hk dX1_takeAway_39 ?_
      refine G_aaldRlX (j := (r + 1)) (a := ad (bb + 4 + π (r + 1))) hk dX1_takeAway_40 (by assumption) (nI_i1 r) (by omega) (by decide) (by simp only [if_neg (show ¬ r + 1 < k0 by omega), if_neg (show ¬ r + 1 < r by omega)]) (by first | decide | omega) ?_
      refine G_aastRlX (j := r) hk dX1_takeAway_41 (by assumption) rfl (by omega) (by decide) (by first | decide | omega) (by assumption) (by first | decide | omega) ?_
      refine G_iinc (v := nI (r + 1)) hk dX1_takeAway_42 rfl (nI_inc r) (by decide) rfl ?_
      refine G_goto (tgt := 18) hk dX1_takeAway_45 (by decide) ?_
      refine G_E ?_ (G_lv (by exact And.intro rfl (And.intro rfl (And.intro rfl (And.intro rfl (trivial))))) (ih (r + 1) (va_up E (bb + 1) (gRl V 7 (fun i => some (ad (bb + 4 + (fun i => π (if i < k0 then i else if i < r + 1 then i + 1 else i)) i))))) (by omega) (by omega) (by omega) rfl))
      rw [hE1, va_up_up, va_arr (B := fun i => π (if i < k0 then i else if i < r + 1 then i + 1 else i)) (fun i => ?_)]
      by_cases hi : i = r
      · subst hi
        simp [show ¬ i < k0 by omega]
      · by_cases h7 : i < k0
        · simp [h7, hi]
        · by_cases h8 : i < r
          · simp [h7, hi, h8, show i < r + 1 by omega]
          · simp [h7, hi, h8, show ¬ i < r + 1 by omega]

set_option maxHeartbeats 4000000 in
set_option maxRecDepth 100000 in
theorem c_X1_takeAway (l : Launch) (V : gV) (ad : Nat → Nat) (E : Nat → va_E) (bb n : Nat) (π : Nat → Nat) (R : Nat → Nat → Int32) (hB : bkB V ad E bb n π R) (k0 : Nat) (hk0 : k0 < n) : Ct l V ad 44 44 yX1_takeAway cX1_takeAway 4 none { frames := 1, cells := 0, slots := 0, locals := 21 } [.ref (ad bb), .int (nI k0)] E (pV ad (fun E2 => bkM V ad bb E E2 (n - 1) (sDel R k0))) := by
  refine gCt mX1_takeAway (Nat.le_of_ble_eq_true rfl) ?_
  intro K hk
  obtain ⟨h0, h1, h2, h3, h4, h5, h6⟩ := id hB
  refine G_aload_n (i := 0) hk dX1_takeAway_0 rfl rfl ?_
  refine G_iload_n (i := 1) hk dX1_takeAway_1 rfl rfl ?_
  refine G_cVi hk (c_X1_isRule l V ad E bb n π R hB (nI k0)) mX1_isRule vX1_isRule kX1_48 dX1_takeAway_2 (by assumption) (by rfl) (by first | decide | omega) rfl (by decide) (by decide) rfl (Nat.le_of_ble_eq_true rfl) (fun r_2 E_2 h_2 => ?_)
  obtain ⟨rfl, rfl⟩ := h_2
  refine G_if_ne (tgt := 9) hk dX1_takeAway_5 (by decide) (fun c_5 => ?_) (fun c_5 => ?_)
  · try simp only [gB_ne, gB_eq, Decidable.not_not] at c_5
    refine G_aload_n (i := 0) hk dX1_takeAway_9 rfl rfl ?_
    refine G_get hk fX1_11 dX1_takeAway_10 (by assumption) (by rfl) (by first | decide | omega) ?_
    refine G_iload_n (i := 1) hk dX1_takeAway_13 rfl rfl ?_
    refine G_aaldRlX (j := k0) hk dX1_takeAway_14 (by assumption) rfl (by omega) (by decide) (by rfl) (by first | decide | omega) ?_
    refine G_astore_n (i := 2) hk dX1_takeAway_15 rfl (by decide) rfl ?_
    refine G_iload_n (i := 1) hk dX1_takeAway_16 rfl rfl ?_
    refine G_istore_n (i := 3) hk dX1_takeAway_17 rfl (by decide) rfl ?_
    refine G_lv (by exact And.intro rfl (And.intro rfl (And.intro rfl (And.intro rfl (trivial))))) (lp_X1_takeAway hk E bb n π R hB k0 hk0 (n + 1) k0 E (by omega) (by omega) (by omega) ?_)
    funext q
    unfold va_up
    by_cases hq : q = bb + 1
    · rw [if_pos hq, hq, h1]
      congr 4
      funext i
      by_cases h7 : i < k0 <;> simp [h7]
    · rw [if_neg hq]
  · try simp only [gB_ne, gB_eq, Decidable.not_not] at c_5
    exact absurd ⟨nI_pos' (by omega), (nlt (by omega) (by omega)).mpr hk0⟩ c_5

set_option maxHeartbeats 4000000 in
set_option maxRecDepth 100000 in
theorem lp_X1_openPlace {l : Launch} {V : gV} {ad : Nat → Nat} {K : gX} (hk : gOk l { frames := 0, cells := 0, slots := 0, locals := 0 } K V cX1_openPlace 4 RX1 none yX1_openPlace.name) (E : Nat → va_E) (bb n : Nat) (π : Nat → Nat) (R : Nat → Nat → Int32) (hB : bkB V ad E bb n π R) (k0 : Nat) (hk0 : k0 ≤ n) (hn7 : n < 7) : ∀ (k r : Nat) (E1 : Nat → va_E), r < k0 + k → k0 ≤ r → r ≤ n → E1 = va_up E (bb + 1) (gRl V 7 (fun i => some (ad (bb + 4 + (fun i => π (if r < i ∧ i ≤ n then i - 1 else i)) i)))) → G K V 4 (gQ K V 44 0 0 (pV ad (fun E2 => bkM V ad bb E E2 (n + 1) (sIns R k0 (R n))))) ad 44 0 0 37 [(0, .ref (ad bb)), (1, .int (nI k0)), (2, .ref (ad (bb + 4 + π n))), (3, .int (nI r))] [] E1 := by
  obtain ⟨h0, h1, h2, h3, h4, h5, h6⟩ := id hB
  intro k
  induction k with
  | zero => intro r E1 hr; omega
  | succ k ih =>
    intro r E1 hr hkr hrn hE1
    have e0 := (show E1 bb = E bb by rw [hE1, va_up_ne _ _ (by omega)]).trans h0
    have e1 := (congrFun hE1 (bb + 1)).trans (va_up_self _ _ _)
    refine G_iload_n (i := 3) hk dX1_openPlace_37 rfl rfl ?_
    refine G_iload_n (i := 1) hk dX1_openPlace_38 rfl rfl ?_
    refine G_icmp_le (tgt := 62) hk dX1_openPlace_39 (by decide) (fun c_39 => ?_) (fun c_39 => ?_)
    · try simp only [gB_ne, gB_eq, Decidable.not_not] at c_39
      have hle : r ≤ k0 := (nle (by omega) (by omega)).mp c_39
      have hre : r = k0 := by omega
      refine G_aload_n (i := 0) hk dX1_openPlace_62 rfl rfl ?_
      refine G_get hk fX1_11 dX1_openPlace_63 (by assumption) (by rfl) (by first | decide | omega) ?_
      refine G_iload_n (i := 1) hk dX1_openPlace_66 rfl rfl ?_
      refine G_aload_n (i := 2) hk dX1_openPlace_67 rfl rfl ?_
      have pn := h4 n (by omega)
      have en : E1 (bb + 4 + π n) = rC (R n) := by rw [hE1, va_up_ne _ _ (by omega)]; exact h2 _ (by omega)
      refine G_aastRlX (j := k0) hk dX1_openPlace_68 (by assumption) rfl (by omega) (by decide) (by first | decide | omega) (by assumption) (by first | decide | omega) ?_
      generalize hE2 : va_up E1 (bb + 1) _ = E2
      have g0 := (show E2 bb = E1 bb by rw [← hE2, va_up_ne _ _ (by omega)]).trans e0
      refine G_aload_n (i := 0) hk dX1_openPlace_69 rfl rfl ?_
      refine G_dup hk dX1_openPlace_70 rfl ?_
      refine G_get hk fX1_25 dX1_openPlace_71 (by assumption) (by rfl) (by first | decide | omega) ?_
      refine G_iconst (v := 1) hk dX1_openPlace_74 (by decide) ?_
      refine G_iadd hk dX1_openPlace_75 ?_
      refine G_put hk fX1_25 iX1_2 dX1_openPlace_76 (by assumption) (Nat.le_of_ble_eq_true rfl) (by first | decide | omega) ?_
      refine G_vret hk dX1_openPlace_79 ?_
      generalize hE3 : va_up E2 bb _ = E3
      have f1 : ∀ q, q ≠ bb → q ≠ bb + 1 → E3 q = E q := fun q q1 q2 => by rw [← hE3, va_up_ne _ _ q1, ← hE2, va_up_ne _ _ q2, hE1, va_up_ne _ _ q2]
      refine ⟨⟨_, _, bk_perm (σ := fun i => if i = k0 then n else if k0 < i ∧ i ≤ n then i - 1 else i) (n2 := n + 1) hB (by rw [← hE3, va_up_self, ← nI_i1]; rfl) ?_ f1 (by omega) (fun i hi => by (try dsimp only); split <;> (try split) <;> omega) (fun i j hi hj => by (try dsimp only); intro q; split at q <;> (try split at q) <;> (try split at q) <;> (try split at q) <;> omega), fun i hi => ?_⟩, f1 _ (by omega) (by omega), f1 _ (by omega) (by omega), fun q hq => f1 q (by omega) (by omega)⟩
      · rw [← hE3, va_up_ne _ _ (by omega), ← hE2, va_up_self, va_arr (B := fun i => π (if i = k0 then n else if k0 < i ∧ i ≤ n then i - 1 else i)) (fun i => ?_)]
        by_cases h7 : i = k0
        · simp [h7]
        · simp [h7, hre]
      · unfold sIns
        try dsimp only
        by_cases h7 : i < k0
        · rw [if_pos h7, if_neg (by omega), if_neg (by omega)]
        · by_cases h8 : i = k0
          · rw [if_neg h7, if_pos h8, if_pos h8]
          · rw [if_neg h7, if_neg h8, if_neg h8, if_pos (by omega)]
    · try simp only [gB_ne, gB_eq, Decidable.not_not] at c_39
      have hlt : k0 < r := Nat.lt_of_not_le (fun q => c_39 ((nle (by omega) (by omega)).mpr q))
      have p1 := h4 (r - 1) (by omega)
      have er : E1 (bb + 4 + π (r - 1)) = rC (R (r - 1)) := by rw [hE1, va_up_ne _ _ (by omega)]; exact h2 _ (by omega)
      have hm1 : nI r - 1 = nI (r - 1) := pk_sub (b := 1) (by omega)
      refine G_aload_n (i := 0) hk dX1_openPlace_42 rfl rfl ?_
      refine G_get hk fX1_11 dX1_openPlace_43 (by assumption) (by rfl) (by first | decide | omega) ?_
      refine G_iload_n (i := 3) hk dX1_openPlace_46 rfl rfl ?_
      refine G_aload_n (i := 0) hk dX1_openPlace_47 rfl rfl ?_
      refine G_get hk fX1_11 dX1_openPlace_48 (by assumption) (by rfl) (by first | decide | omega) ?_
      refine G_iload_n (i := 3) hk dX1_openPlace_51 rfl rfl ?_
      refine G_iconst (v := 1) hk dX1_openPlace_52 (by decide) ?_
      refine G_isub hk dX1_openPlace_53 ?_
      refine G_aaldRlX (j := (r - 1)) (a := ad (bb + 4 + π (r - 1))) hk dX1_openPlace_54 (by assumption) hm1 (by omega) (by decide) (by simp only [if_neg (show ¬ (r < r - 1 ∧ r - 1 ≤ n) by omega)]) (by first | decide | omega) ?_
      refine G_aastRlX (j := r) hk dX1_openPlace_55 (by assumption) rfl (by omega) (by decide) (by first | decide | omega) (by assumption) (by first | decide | omega) ?_
      refine G_iinc (v := nI (r - 1)) hk dX1_openPlace_56 rfl (show nI r + Int32.ofInt (-1) = nI (r - 1) by have h := nI_dec (r - 1); rwa [Nat.sub_add_cancel (by omega)] at h) (by decide) rfl ?_
      refine G_goto (tgt := 37) hk dX1_openPlace_59 (by decide) ?_
      refine G_E ?_ (G_lv (by exact And.intro rfl (And.intro rfl (And.intro rfl (And.intro rfl (trivial))))) (ih (r - 1) (va_up E (bb + 1) (gRl V 7 (fun i => some (ad (bb + 4 + (fun i => π (if r - 1 < i ∧ i ≤ n then i - 1 else i)) i))))) (by omega) (by omega) (by omega) rfl))
      rw [hE1, va_up_up, va_arr (B := fun i => π (if r - 1 < i ∧ i ≤ n then i - 1 else i)) (fun i => ?_)]
      by_cases hi : i = r
      · subst hi
        simp [show i - 1 < i ∧ i ≤ n by omega]
      · by_cases h7 : r < i ∧ i ≤ n
        · simp [h7, hi, show r - 1 < i by omega]
        · simp [h7, hi, show ¬ (r - 1 < i ∧ i ≤ n) by omega]

set_option maxHeartbeats 4000000 in
set_option maxRecDepth 100000 in
theorem c_X1_openPlace (l : Launch) (V : gV) (ad : Nat → Nat) (E : Nat → va_E) (bb n : Nat) (π : Nat → Nat) (R : Nat → Nat → Int32) (hB : bkB V ad E bb n π R) (k0 : Nat) (hk0 : k0 ≤ n) (hn7 : n < 7) : Ct l V ad 44 44 yX1_openPlace cX1_openPlace 4 none { frames := 0, cells := 0, slots := 0, locals := 0 } [.ref (ad bb), .int (nI k0)] E (pV ad (fun E2 => bkM V ad bb E E2 (n + 1) (sIns R k0 (R n)))) := by
  refine gCt mX1_openPlace (Nat.le_of_ble_eq_true rfl) ?_
  intro K hk
  obtain ⟨h0, h1, h2, h3, h4, h5, h6⟩ := id hB
  refine G_iload_n (i := 1) hk dX1_openPlace_0 rfl rfl ?_
  refine G_if_lt (tgt := 21) hk dX1_openPlace_1 (by decide) (fun c_1 => ?_) (fun c_1 => ?_)
  · try simp only [gB_ne, gB_eq, Decidable.not_not] at c_1
    exact absurd c_1 (nI_pos (by omega))
  · try simp only [gB_ne, gB_eq, Decidable.not_not] at c_1
    refine G_iload_n (i := 1) hk dX1_openPlace_4 rfl rfl ?_
    refine G_aload_n (i := 0) hk dX1_openPlace_5 rfl rfl ?_
    refine G_get hk fX1_25 dX1_openPlace_6 (by assumption) (by rfl) (by first | decide | omega) ?_
    refine G_icmp_gt (tgt := 21) hk dX1_openPlace_9 (by decide) (fun c_9 => ?_) (fun c_9 => ?_)
    · try simp only [gB_ne, gB_eq, Decidable.not_not] at c_9
      exact absurd ((nlt (by omega) (by omega)).mp c_9) (by omega)
    · try simp only [gB_ne, gB_eq, Decidable.not_not] at c_9
      refine G_aload_n (i := 0) hk dX1_openPlace_12 rfl rfl ?_
      refine G_get hk fX1_25 dX1_openPlace_13 (by assumption) (by rfl) (by first | decide | omega) ?_
      refine G_bipush (v := 7) hk dX1_openPlace_16 (by decide) ?_
      refine G_icmp_lt (tgt := 22) hk dX1_openPlace_18 (by decide) (fun c_18 => ?_) (fun c_18 => ?_)
      · try simp only [gB_ne, gB_eq, Decidable.not_not] at c_18
        refine G_aload_n (i := 0) hk dX1_openPlace_22 rfl rfl ?_
        refine G_get hk fX1_11 dX1_openPlace_23 (by assumption) (by rfl) (by first | decide | omega) ?_
        refine G_aload_n (i := 0) hk dX1_openPlace_26 rfl rfl ?_
        refine G_get hk fX1_25 dX1_openPlace_27 (by assumption) (by rfl) (by first | decide | omega) ?_
        refine G_aaldRlX (j := n) hk dX1_openPlace_30 (by assumption) rfl (by omega) (by decide) (by rfl) (by first | decide | omega) ?_
        refine G_astore_n (i := 2) hk dX1_openPlace_31 rfl (by decide) rfl ?_
        refine G_aload_n (i := 0) hk dX1_openPlace_32 rfl rfl ?_
        refine G_get hk fX1_25 dX1_openPlace_33 (by assumption) (by rfl) (by first | decide | omega) ?_
        refine G_istore_n (i := 3) hk dX1_openPlace_36 rfl (by decide) rfl ?_
        refine G_lv (by exact And.intro rfl (And.intro rfl (And.intro rfl (And.intro rfl (trivial))))) (lp_X1_openPlace hk E bb n π R hB k0 hk0 hn7 (n + 1) n E (by omega) (by omega) (by omega) ?_)
        funext q
        unfold va_up
        by_cases hq : q = bb + 1
        · rw [if_pos hq, hq, h1]
          congr 4
          funext i
          simp [show ¬ (n < i ∧ i ≤ n) by omega]
        · rw [if_neg hq]
      · try simp only [gB_ne, gB_eq, Decidable.not_not] at c_18
        exact absurd ((nlt (b := 7) (by omega) (by omega)).mpr hn7) c_18
