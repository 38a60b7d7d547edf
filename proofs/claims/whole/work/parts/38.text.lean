set_option maxHeartbeats 4000000 in
set_option maxRecDepth 100000 in
theorem c_X5_isIn (l : Launch) (V : gV) (ad : Nat → Nat) (E : Nat → va_E) (v a b : Int32) : Ct l V ad 44 44 yX5_isIn cX5_isIn 3 (some .boolean) { frames := 0, cells := 0, slots := 0, locals := 0 } [.int v, .int a, .int b] E (pI ad (pS E (gB (a ≤ v ∧ v ≤ b)))) := by
  refine gCt mX5_isIn (Nat.le_of_ble_eq_true rfl) ?_
  intro K hk
  refine G_iload_n (i := 0) hk dX5_isIn_0 rfl rfl ?_
  refine G_iload_n (i := 1) hk dX5_isIn_1 rfl rfl ?_
  refine G_icmp_lt (tgt := 14) hk dX5_isIn_2 (by decide) (fun c_2 => ?_) (fun c_2 => ?_)
  · try simp only [gB_ne, gB_eq, Decidable.not_not] at c_2
    refine G_iconst (v := 0) hk dX5_isIn_14 (by decide) ?_
    refine G_zret hk dX5_isIn_15 (by first | rfl | exact gB_nar _) ?_
    exact ⟨rfl, by first | (simp [gB, *]; done) | exact (gB_t (by (simp only [fa_lt, fa_le, fa_eq, iT_0, iT_1, iT_2, iT_3, iT_4, iT_5, iT_6, iT_7, iT_9, iT_10, iT_20, iT_25, iT_26, iTm1, iTm2, iTm3, iTm4, iTm9] at *; omega))).symm | exact (gB_f (by (simp only [fa_lt, fa_le, fa_eq, iT_0, iT_1, iT_2, iT_3, iT_4, iT_5, iT_6, iT_7, iT_9, iT_10, iT_20, iT_25, iT_26, iTm1, iTm2, iTm3, iTm4, iTm9] at *; omega))).symm⟩
  · try simp only [gB_ne, gB_eq, Decidable.not_not] at c_2
    refine G_iload_n (i := 0) hk dX5_isIn_5 rfl rfl ?_
    refine G_iload_n (i := 2) hk dX5_isIn_6 rfl rfl ?_
    refine G_icmp_gt (tgt := 14) hk dX5_isIn_7 (by decide) (fun c_7 => ?_) (fun c_7 => ?_)
    · try simp only [gB_ne, gB_eq, Decidable.not_not] at c_7
      refine G_iconst (v := 0) hk dX5_isIn_14 (by decide) ?_
      refine G_zret hk dX5_isIn_15 (by first | rfl | exact gB_nar _) ?_
      exact ⟨rfl, by first | (simp [gB, *]; done) | exact (gB_t (by (simp only [fa_lt, fa_le, fa_eq, iT_0, iT_1, iT_2, iT_3, iT_4, iT_5, iT_6, iT_7, iT_9, iT_10, iT_20, iT_25, iT_26, iTm1, iTm2, iTm3, iTm4, iTm9] at *; omega))).symm | exact (gB_f (by (simp only [fa_lt, fa_le, fa_eq, iT_0, iT_1, iT_2, iT_3, iT_4, iT_5, iT_6, iT_7, iT_9, iT_10, iT_20, iT_25, iT_26, iTm1, iTm2, iTm3, iTm4, iTm9] at *; omega))).symm⟩
    · try simp only [gB_ne, gB_eq, Decidable.not_not] at c_7
      refine G_iconst (v := 1) hk dX5_isIn_10 (by decide) ?_
      refine G_goto (tgt := 15) hk dX5_isIn_11 (by decide) ?_
      refine G_zret hk dX5_isIn_15 (by first | rfl | exact gB_nar _) ?_
      exact ⟨rfl, by first | (simp [gB, *]; done) | exact (gB_t (by (simp only [fa_lt, fa_le, fa_eq, iT_0, iT_1, iT_2, iT_3, iT_4, iT_5, iT_6, iT_7, iT_9, iT_10, iT_20, iT_25, iT_26, iTm1, iTm2, iTm3, iTm4, iTm9] at *; omega))).symm | exact (gB_f (by (simp only [fa_lt, fa_le, fa_eq, iT_0, iT_1, iT_2, iT_3, iT_4, iT_5, iT_6, iT_7, iT_9, iT_10, iT_20, iT_25, iT_26, iTm1, iTm2, iTm3, iTm4, iTm9] at *; omega))).symm⟩

set_option maxHeartbeats 4000000 in
set_option maxRecDepth 100000 in
theorem lp_X1_becomeLike {l : Launch} {V : gV} {ad : Nat → Nat} {K : gX} (hk : gOk l { frames := 1, cells := 0, slots := 0, locals := 25 } K V cX1_becomeLike 4 RX1 none yX1_becomeLike.name) (E : Nat → va_E) (bb n : Nat) (π : Nat → Nat) (cb : Nat) (ρ : Nat → Nat) (R : Nat → Nat → Int32) (hC : bkB V ad E cb n ρ R) (hcb : cb + 10 < bb) : ∀ (k r : Nat) (E1 : Nat → va_E) (R1 : Nat → Nat → Int32), n < r + k → r ≤ n → bkB V ad E1 bb n π R1 → (∀ i, i < r → R1 i = R i) → E1 (bb + 2) = E (bb + 2) → E1 (bb + 3) = E (bb + 3) → exB bb E E1 → G K V 4 (gQ K V 44 0 0 (pV ad (fun E2 => bkM V ad bb E E2 n R))) ad 44 0 0 10 [(0, .ref (ad bb)), (1, .ref (ad cb)), (2, .int (nI r))] [] E1 := by
  obtain ⟨g0, g1, g2, g3, g4, g5, g6⟩ := hC
  intro k
  induction k with
  | zero => intro r E1 R1 hr; omega
  | succ k ih =>
    intro r E1 R1 hr hrn hB hR x2 x3 xB
    obtain ⟨h0, h1, h2, h3, h4, h5, h6⟩ := id hB
    have c1 := (xB (cb + 1) (by omega)).trans g1
    have c0 := (xB cb (by omega)).trans g0
    refine G_iload_n (i := 2) hk dX1_becomeLike_10 rfl rfl ?_
    refine G_aload_n (i := 0) hk dX1_becomeLike_11 rfl rfl ?_
    refine G_get hk fX1_25 dX1_becomeLike_12 (by assumption) (by rfl) (by first | decide | omega) ?_
    refine G_icmp_ge (tgt := 60) hk dX1_becomeLike_15 (by decide) (fun c_15 => ?_) (fun c_15 => ?_)
    · try simp only [gB_ne, gB_eq, Decidable.not_not] at c_15
      have hge : n ≤ r := (nle (by omega) (by omega)).mp c_15
      refine G_vret hk dX1_becomeLike_60 ?_
      exact ⟨⟨π, R1, hB, fun i hi => hR i (by omega)⟩, x2, x3, xB⟩
    · try simp only [gB_ne, gB_eq, Decidable.not_not] at c_15
      have hlt : r < n := Nat.lt_of_not_le (fun q => c_15 ((nle (by omega) (by omega)).mpr q))
      have q0 := g4 r (by omega)
      have p0 := h4 r (by omega)
      have cr := (xB (cb + 4 + ρ r) (by omega)).trans (g2 r (by omega))
      have br := h2 r (by omega)
      refine G_aload_n (i := 1) hk dX1_becomeLike_18 rfl rfl ?_
      refine G_get hk fX1_11 dX1_becomeLike_19 (by assumption) (by rfl) (by first | decide | omega) ?_
      refine G_iload_n (i := 2) hk dX1_becomeLike_22 rfl rfl ?_
      refine G_aaldRlX (j := r) hk dX1_becomeLike_23 (by assumption) rfl (by omega) (by decide) (by rfl) (by first | decide | omega) ?_
      refine G_astore_n (i := 3) hk dX1_becomeLike_24 rfl (by decide) rfl ?_
      refine G_aload_n (i := 0) hk dX1_becomeLike_25 rfl rfl ?_
      refine G_get hk fX1_11 dX1_becomeLike_26 (by assumption) (by rfl) (by first | decide | omega) ?_
      refine G_iload_n (i := 2) hk dX1_becomeLike_29 rfl rfl ?_
      refine G_aaldRlX (j := r) hk dX1_becomeLike_30 (by assumption) rfl (by omega) (by decide) (by rfl) (by first | decide | omega) ?_
      refine G_aload_n (i := 3) hk dX1_becomeLike_31 rfl rfl ?_
      refine G_get hk fX1_29 dX1_becomeLike_32 (by assumption) (by rfl) (by first | decide | omega) ?_
      refine G_aload_n (i := 3) hk dX1_becomeLike_35 rfl rfl ?_
      refine G_get hk fX1_32 dX1_becomeLike_36 (by assumption) (by rfl) (by first | decide | omega) ?_
      refine G_aload_n (i := 3) hk dX1_becomeLike_39 rfl rfl ?_
      refine G_get hk fX1_35 dX1_becomeLike_40 (by assumption) (by rfl) (by first | decide | omega) ?_
      refine G_aload_n (i := 3) hk dX1_becomeLike_43 rfl rfl ?_
      refine G_get hk fX1_38 dX1_becomeLike_44 (by assumption) (by rfl) (by first | decide | omega) ?_
      refine G_aload_n (i := 3) hk dX1_becomeLike_47 rfl rfl ?_
      refine G_get hk fX1_41 dX1_becomeLike_48 (by assumption) (by rfl) (by first | decide | omega) ?_
      refine G_cVv hk (c_X3_become l V ad E1 (bb + 4 + π r) (by omega) (R1 r) (R r 0) (R r 1) (R r 2) (R r 3) (R r 4) br) mX3_become vX3_become kX1_44 dX1_becomeLike_51 (by assumption) (by rfl) (by first | decide | omega) rfl (by decide) (by decide) rfl (Nat.le_of_ble_eq_true rfl) (fun E_51 h_51 => ?_)
      subst h_51
      refine G_iinc (v := nI (r + 1)) hk dX1_becomeLike_54 rfl (nI_inc r) (by decide) rfl ?_
      refine G_goto (tgt := 10) hk dX1_becomeLike_57 (by decide) ?_
      refine G_lv (by exact And.intro rfl (And.intro rfl (And.intro rfl (trivial)))) (ih (r + 1) _ (fun i => if i = r then R r else R1 i) (by omega) (by omega) (hB.rule (by omega) (R r)) (fun i hi => ?_) ?_ ?_ (fun q hq => ?_))
      · by_cases hir : i = r
        · rw [if_pos hir, hir]
        · rw [if_neg hir, hR i (by omega)]
      · rw [va_up_ne _ _ (by omega)]; exact x2
      · rw [va_up_ne _ _ (by omega)]; exact x3
      · rw [va_up_ne _ _ (by omega)]; exact xB q hq

set_option maxHeartbeats 4000000 in
set_option maxRecDepth 100000 in
theorem c_X1_becomeLike (l : Launch) (V : gV) (ad : Nat → Nat) (E : Nat → va_E) (bb n0 : Nat) (π : Nat → Nat) (R0 : Nat → Nat → Int32) (hB : bkB V ad E bb n0 π R0) (cb n : Nat) (ρ : Nat → Nat) (R : Nat → Nat → Int32) (hC : bkB V ad E cb n ρ R) (hcb : cb + 10 < bb) : Ct l V ad 44 44 yX1_becomeLike cX1_becomeLike 4 none { frames := 1, cells := 0, slots := 0, locals := 25 } [.ref (ad bb), .ref (ad cb)] E (pV ad (fun E2 => bkM V ad bb E E2 n R)) := by
  refine gCt mX1_becomeLike (Nat.le_of_ble_eq_true rfl) ?_
  intro K hk
  obtain ⟨h0, h1, h2, h3, h4, h5, h6⟩ := id hB
  obtain ⟨g0, g1, g2, g3, g4, g5, g6⟩ := id hC
  refine G_aload_n (i := 0) hk dX1_becomeLike_0 rfl rfl ?_
  refine G_aload_n (i := 1) hk dX1_becomeLike_1 rfl rfl ?_
  refine G_get hk fX1_25 dX1_becomeLike_2 (by assumption) (by rfl) (by first | decide | omega) ?_
  refine G_put hk fX1_25 iX1_2 dX1_becomeLike_5 (by assumption) (Nat.le_of_ble_eq_true rfl) (by first | decide | omega) ?_
  refine G_iconst (v := 0) hk dX1_becomeLike_8 (by decide) ?_
  refine G_istore_n (i := 2) hk dX1_becomeLike_9 rfl (by decide) rfl ?_
  refine G_lv (by exact And.intro rfl (And.intro rfl (And.intro rfl (trivial)))) (lp_X1_becomeLike hk E bb n π cb ρ R hC hcb (n + 1) 0 _ R0 (by omega) (by omega) ⟨?_, ?_, fun i hi => ?_, g3, h4, h5, h6⟩ (fun i hi => absurd hi (Nat.not_lt_zero i)) ?_ ?_ (fun q hq => ?_))
  · rw [va_up_self]; rfl
  · rw [va_up_ne _ _ (by omega)]; exact h1
  · rw [va_up_ne _ _ (by omega)]; exact h2 i hi
  · rw [va_up_ne _ _ (by omega)]
  · rw [va_up_ne _ _ (by omega)]
  · rw [va_up_ne _ _ (by omega)]

set_option maxHeartbeats 4000000 in
set_option maxRecDepth 100000 in
theorem c_X2_read (l : Launch) (V : gV) (ad : Nat → Nat) (E : Nat → va_E) (p : Nat) (hp : p + 1 < 44) (la : Int32) (sz : Nat) (hsz : sz ≤ 60) (cl : Nat → Int32) (hE : E p = wC ad p la (nI sz)) (hE1 : E (p + 1) = gI V 60 cl) (j : Nat) (hj : j < sz) : Ct l V ad 44 44 yX2_read cX2_read 2 (some .int) { frames := 0, cells := 0, slots := 0, locals := 0 } [.ref (ad p), .int (nI j)] E (pI ad (pS E (cl j))) := by
  refine gCt mX2_read (Nat.le_of_ble_eq_true rfl) ?_
  intro K hk
  refine G_iload_n (i := 1) hk dX2_read_0 rfl rfl ?_
  refine G_if_lt (tgt := 21) hk dX2_read_1 (by decide) (fun c_1 => ?_) (fun c_1 => ?_)
  · try simp only [gB_ne, gB_eq, Decidable.not_not] at c_1
    exact absurd c_1 (nI_pos (by omega))
  · try simp only [gB_ne, gB_eq, Decidable.not_not] at c_1
    refine G_iload_n (i := 1) hk dX2_read_4 rfl rfl ?_
    refine G_aload_n (i := 0) hk dX2_read_5 rfl rfl ?_
    refine G_get hk fX2_19 dX2_read_6 (by assumption) (by rfl) (by first | decide | omega) ?_
    refine G_icmp_ge (tgt := 21) hk dX2_read_9 (by decide) (fun c_9 => ?_) (fun c_9 => ?_)
    · try simp only [gB_ne, gB_eq, Decidable.not_not] at c_9
      exact absurd ((nle (by omega) (by omega)).mp c_9) (by omega)
    · try simp only [gB_ne, gB_eq, Decidable.not_not] at c_9
      refine G_aload_n (i := 0) hk dX2_read_12 rfl rfl ?_
      refine G_get hk fX2_9 dX2_read_13 (by assumption) (by rfl) (by first | decide | omega) ?_
      refine G_iload_n (i := 1) hk dX2_read_16 rfl rfl ?_
      refine G_ialdX (j := j) hk dX2_read_17 (by assumption) rfl (by omega) (by decide) (by first | decide | omega) ?_
      refine G_goto (tgt := 22) hk dX2_read_18 (by decide) ?_
      refine G_iret hk dX2_read_22 ?_
      exact ⟨rfl, rfl⟩

set_option maxHeartbeats 4000000 in
set_option maxRecDepth 100000 in
theorem c_X2_write (l : Launch) (V : gV) (ad : Nat → Nat) (E : Nat → va_E) (p : Nat) (hp : p + 1 < 44) (la : Int32) (sz : Nat) (hsz : sz ≤ 60) (cl : Nat → Int32) (hE : E p = wC ad p la (nI sz)) (hE1 : E (p + 1) = gI V 60 cl) (j : Nat) (hj : j < sz) (v : Int32) : Ct l V ad 44 44 yX2_write cX2_write 3 none { frames := 1, cells := 0, slots := 0, locals := 21 } [.ref (ad p), .int (nI j), .int v] E (pV ad (fun E2 => E2 = va_up E (p + 1) (gI V 60 (upd cl j (sCut la v))))) := by
  refine gCt mX2_write (Nat.le_of_ble_eq_true rfl) ?_
  intro K hk
  refine G_iload_n (i := 1) hk dX2_write_0 rfl rfl ?_
  refine G_if_lt (tgt := 23) hk dX2_write_1 (by decide) (fun c_1 => ?_) (fun c_1 => ?_)
  · try simp only [gB_ne, gB_eq, Decidable.not_not] at c_1
    exact absurd c_1 (nI_pos (by omega))
  · try simp only [gB_ne, gB_eq, Decidable.not_not] at c_1
    refine G_iload_n (i := 1) hk dX2_write_4 rfl rfl ?_
    refine G_aload_n (i := 0) hk dX2_write_5 rfl rfl ?_
    refine G_get hk fX2_19 dX2_write_6 (by assumption) (by rfl) (by first | decide | omega) ?_
    refine G_icmp_ge (tgt := 23) hk dX2_write_9 (by decide) (fun c_9 => ?_) (fun c_9 => ?_)
    · try simp only [gB_ne, gB_eq, Decidable.not_not] at c_9
      exact absurd ((nle (by omega) (by omega)).mp c_9) (by omega)
    · try simp only [gB_ne, gB_eq, Decidable.not_not] at c_9
      refine G_aload_n (i := 0) hk dX2_write_12 rfl rfl ?_
      refine G_get hk fX2_9 dX2_write_13 (by assumption) (by rfl) (by first | decide | omega) ?_
      refine G_iload_n (i := 1) hk dX2_write_16 rfl rfl ?_
      refine G_aload_n (i := 0) hk dX2_write_17 rfl rfl ?_
      refine G_iload_n (i := 2) hk dX2_write_18 rfl rfl ?_
      refine G_cVi hk (c_X2_cut l V ad E p hp la (nI sz) v hE) mX2_cut vX2_cut kX2_35 dX2_write_19 (by assumption) (by rfl) (by first | decide | omega) rfl (by decide) (by decide) rfl (Nat.le_of_ble_eq_true rfl) (fun r_19 E_19 h_19 => ?_)
      obtain ⟨rfl, rfl⟩ := h_19
      refine G_iastX (j := j) hk dX2_write_22 (by assumption) rfl (by omega) (by decide) (by first | decide | omega) ?_
      refine G_vret hk dX2_write_23 ?_
      rfl

set_option maxHeartbeats 4000000 in
set_option maxRecDepth 100000 in
theorem lp_X2_becomeNew {l : Launch} {V : gV} {ad : Nat → Nat} {K : gX} (hk : gOk l { frames := 1, cells := 0, slots := 0, locals := 60 } K V cX2_becomeNew 4 RX2 none yX2_becomeNew.name) (E : Nat → va_E) (p : Nat) (hp : p + 1 < 44) (la : Int32) (m : Nat) (hm : m ≤ 60) (cl : Nat → Int32) (hE : E p = wC ad p la (nI m)) : ∀ (k r : Nat) (E1 : Nat → va_E), m < r + k → r ≤ m → E1 = va_up E (p + 1) (gI V 60 (fun i => if i < r then 0 else cl i)) → G K V 4 (gQ K V 44 0 0 (pV ad (fun E2 => E2 = va_up E (p + 1) (gI V 60 (fun i => if i < m then 0 else cl i))))) ad 44 0 0 21 [(0, .ref (ad p)), (3, .int (nI r))] [] E1 := by
  intro k
  induction k with
  | zero => intro r E1 hr; omega
  | succ k ih =>
    intro r E1 hr hrn hE1
    have e0 := (show E1 p = E p by rw [hE1, va_up_ne _ _ (by omega)]).trans hE
    have e1 := (congrFun hE1 (p + 1)).trans (va_up_self _ _ _)
    refine G_iload_n (i := 3) hk dX2_becomeNew_21 rfl rfl ?_
    refine G_aload_n (i := 0) hk dX2_becomeNew_22 rfl rfl ?_
    refine G_get hk fX2_19 dX2_becomeNew_23 (by assumption) (by rfl) (by first | decide | omega) ?_
    refine G_icmp_ge (tgt := 42) hk dX2_becomeNew_26 (by decide) (fun c_26 => ?_) (fun c_26 => ?_)
    · try simp only [gB_ne, gB_eq, Decidable.not_not] at c_26
      have hge : m ≤ r := (nle (by omega) (by omega)).mp c_26
      have hre : r = m := by omega
      subst hre
      refine G_vret hk dX2_becomeNew_42 ?_
      exact hE1
    · try simp only [gB_ne, gB_eq, Decidable.not_not] at c_26
      have hlt : r < m := Nat.lt_of_not_le (fun q => c_26 ((nle (by omega) (by omega)).mpr q))
      refine G_aload_n (i := 0) hk dX2_becomeNew_29 rfl rfl ?_
      refine G_get hk fX2_9 dX2_becomeNew_30 (by assumption) (by rfl) (by first | decide | omega) ?_
      refine G_iload_n (i := 3) hk dX2_becomeNew_33 rfl rfl ?_
      refine G_iconst (v := 0) hk dX2_becomeNew_34 (by decide) ?_
      refine G_iastX (j := r) hk dX2_becomeNew_35 (by assumption) rfl (by omega) (by decide) (by first | decide | omega) ?_
      refine G_iinc (v := nI (r + 1)) hk dX2_becomeNew_36 rfl (nI_inc r) (by decide) rfl ?_
      refine G_goto (tgt := 21) hk dX2_becomeNew_39 (by decide) ?_
      refine G_lv (by exact And.intro rfl (And.intro rfl (trivial))) (ih (r + 1) _ (by omega) (by omega) ?_)
      rw [hE1, va_up_up]
      congr 4
      funext i
      show (if i = r then (0 : Int32) else (if i < r then 0 else cl i)) = (if i < r + 1 then 0 else cl i)
      by_cases hi : i = r
      · rw [if_pos hi, if_pos (by omega)]
      · by_cases h7 : i < r
        · rw [if_neg hi, if_pos h7, if_pos (by omega)]
        · rw [if_neg hi, if_neg h7, if_neg (by omega)]

set_option maxHeartbeats 4000000 in
set_option maxRecDepth 100000 in
theorem c_X2_becomeNew (l : Launch) (V : gV) (ad : Nat → Nat) (E : Nat → va_E) (p : Nat) (hp : p + 1 < 44) (la0 sz0 : Int32) (cl : Nat → Int32) (hE : E p = wC ad p la0 sz0) (hE1 : E (p + 1) = gI V 60 cl) (la : Int32) (m : Nat) (hm : m ≤ 60) : Ct l V ad 44 44 yX2_becomeNew cX2_becomeNew 4 none { frames := 1, cells := 0, slots := 0, locals := 60 } [.ref (ad p), .int la, .int (nI m)] E (pV ad (fun E2 => E2 = va_up (va_up E p (wC ad p la (nI m))) (p + 1) (gI V 60 (fun i => if i < m then 0 else cl i)))) := by
  refine gCt mX2_becomeNew (Nat.le_of_ble_eq_true rfl) ?_
  intro K hk
  refine G_aload_n (i := 0) hk dX2_becomeNew_0 rfl rfl ?_
  refine G_iload_n (i := 1) hk dX2_becomeNew_1 rfl rfl ?_
  refine G_put hk fX2_15 iX2_1 dX2_becomeNew_2 (by assumption) (Nat.le_of_ble_eq_true rfl) (by first | decide | omega) ?_
  refine G_aload_n (i := 0) hk dX2_becomeNew_5 rfl rfl ?_
  refine G_iconst (v := 0) hk dX2_becomeNew_6 (by decide) ?_
  refine G_iload_n (i := 2) hk dX2_becomeNew_7 rfl rfl ?_
  refine G_bipush (v := 60) hk dX2_becomeNew_8 (by decide) ?_
  refine G_mmin hk jkX2_22 dX2_becomeNew_10 (Nat.le_of_ble_eq_true rfl) (by decide) (by decide) ?_
  rw [show (if (60 : Int32) < nI m then (60 : Int32) else nI m) = nI m from if_neg (fun q => absurd ((nlt (a := 60) (by omega) (by omega)).mp q) (by omega))]
  refine G_mmax hk jkX2_28 dX2_becomeNew_13 (Nat.le_of_ble_eq_true rfl) (by decide) (by decide) ?_
  rw [mx0 (show m < 100000 by omega)]
  refine G_put hk fX2_19 iX2_2 dX2_becomeNew_16 (va_up_self _ _ _) (Nat.le_of_ble_eq_true rfl) (by first | decide | omega) ?_
  rw [va_up_up]
  refine G_iconst (v := 0) hk dX2_becomeNew_19 (by decide) ?_
  refine G_istore_n (i := 3) hk dX2_becomeNew_20 rfl (by decide) rfl ?_
  refine G_lv (by exact And.intro rfl (And.intro rfl (trivial))) (lp_X2_becomeNew hk (va_up E p (wC ad p la (nI m))) p hp la m hm cl (va_up_self _ _ _) (m + 1) 0 _ (by omega) (by omega) ?_)
  funext q
  by_cases h1 : q = p + 1
  · subst h1
    rw [va_up_self, va_up_ne _ _ (by omega), hE1]
    rfl
  · rw [va_up_ne _ _ h1]
    rfl

set_option maxHeartbeats 4000000 in
set_option maxRecDepth 100000 in
theorem c_X4_kindOf (l : Launch) (V : gV) (ad : Nat → Nat) (E : Nat → va_E) (c : Int32) : Ct l V ad 44 44 yX4_kindOf cX4_kindOf 1 (some .int) { frames := 0, cells := 0, slots := 0, locals := 0 } [.int c] E (pI ad (pS E (sKd c))) := by
  refine gCt mX4_kindOf (Nat.le_of_ble_eq_true rfl) ?_
  intro K hk
  refine G_iload_n (i := 0) hk dX4_kindOf_0 rfl rfl ?_
  by_cases q1_66 : c = 66
  · skip
    refine G_lookup (off := 37) (tgt := 38) hk dX4_kindOf_1 (by decide) (by rw [q1_66]; decide) (by decide) ?_
    refine G_iconst (v := 1) hk dX4_kindOf_38 (by decide) ?_
    refine G_iret hk dX4_kindOf_39 ?_
    exact ⟨rfl, by unfold sKd; (try first | rw [if_pos q1_66] | rw [if_neg q1_66])⟩
  · skip
    by_cases q1_80 : c = 80
    · skip
      refine G_lookup (off := 35) (tgt := 36) hk dX4_kindOf_1 (by decide) (by rw [q1_80]; decide) (by decide) ?_
      refine G_iconst (v := 0) hk dX4_kindOf_36 (by decide) ?_
      refine G_iret hk dX4_kindOf_37 ?_
      exact ⟨rfl, by unfold sKd; (try first | rw [if_pos q1_66] | rw [if_neg q1_66]); (try first | rw [if_pos q1_80] | rw [if_neg q1_80])⟩
    · skip
      by_cases q1_87 : c = 87
      · skip
        refine G_lookup (off := 39) (tgt := 40) hk dX4_kindOf_1 (by decide) (by rw [q1_87]; decide) (by decide) ?_
        refine G_iconst (v := 2) hk dX4_kindOf_40 (by decide) ?_
        refine G_iret hk dX4_kindOf_41 ?_
        exact ⟨rfl, by unfold sKd; (try first | rw [if_pos q1_66] | rw [if_neg q1_66]); (try first | rw [if_pos q1_80] | rw [if_neg q1_80]); (try first | rw [if_pos q1_87] | rw [if_neg q1_87])⟩
      · skip
        refine G_lookup (off := 41) (tgt := 42) hk dX4_kindOf_1 (by decide) (show Op.lookupswitch.offset [(66, 37), (80, 35), (87, 39)] 41 (Int32.toInt (c)) = 41 by rw [lv_osw (k := 66) q1_66 (by decide), lv_osw (k := 80) q1_80 (by decide), lv_osw (k := 87) q1_87 (by decide)]; rfl) (by decide) ?_
        refine G_bipush (v := (-9)) hk dX4_kindOf_42 (by decide) ?_
        refine G_iret hk dX4_kindOf_44 ?_
        exact ⟨rfl, by unfold sKd; (try first | rw [if_pos q1_66] | rw [if_neg q1_66]); (try first | rw [if_pos q1_80] | rw [if_neg q1_80]); (try first | rw [if_pos q1_87] | rw [if_neg q1_87])⟩

set_option maxHeartbeats 4000000 in
set_option maxRecDepth 100000 in
theorem c_X4_deedOf (l : Launch) (V : gV) (ad : Nat → Nat) (E : Nat → va_E) (c : Int32) : Ct l V ad 44 44 yX4_deedOf cX4_deedOf 1 (some .int) { frames := 0, cells := 0, slots := 0, locals := 0 } [.int c] E (pI ad (pS E (sDd c))) := by
  refine gCt mX4_deedOf (Nat.le_of_ble_eq_true rfl) ?_
  intro K hk
  refine G_iload_n (i := 0) hk dX4_deedOf_0 rfl rfl ?_
  by_cases q1_68 : c = 68
  · skip
    refine G_lookup (off := 37) (tgt := 38) hk dX4_deedOf_1 (by decide) (by rw [q1_68]; decide) (by decide) ?_
    refine G_iconst (v := 1) hk dX4_deedOf_38 (by decide) ?_
    refine G_iret hk dX4_deedOf_39 ?_
    exact ⟨rfl, by unfold sDd; (try first | rw [if_pos q1_68] | rw [if_neg q1_68])⟩
  · skip
    by_cases q1_71 : c = 71
    · skip
      refine G_lookup (off := 35) (tgt := 36) hk dX4_deedOf_1 (by decide) (by rw [q1_71]; decide) (by decide) ?_
      refine G_iconst (v := 0) hk dX4_deedOf_36 (by decide) ?_
      refine G_iret hk dX4_deedOf_37 ?_
      exact ⟨rfl, by unfold sDd; (try first | rw [if_pos q1_68] | rw [if_neg q1_68]); (try first | rw [if_pos q1_71] | rw [if_neg q1_71])⟩
    · skip
      by_cases q1_74 : c = 74
      · skip
        refine G_lookup (off := 39) (tgt := 40) hk dX4_deedOf_1 (by decide) (by rw [q1_74]; decide) (by decide) ?_
        refine G_iconst (v := 2) hk dX4_deedOf_40 (by decide) ?_
        refine G_iret hk dX4_deedOf_41 ?_
        exact ⟨rfl, by unfold sDd; (try first | rw [if_pos q1_68] | rw [if_neg q1_68]); (try first | rw [if_pos q1_71] | rw [if_neg q1_71]); (try first | rw [if_pos q1_74] | rw [if_neg q1_74])⟩
      · skip
        refine G_lookup (off := 41) (tgt := 42) hk dX4_deedOf_1 (by decide) (show Op.lookupswitch.offset [(68, 37), (71, 35), (74, 39)] 41 (Int32.toInt (c)) = 41 by rw [lv_osw (k := 68) q1_68 (by decide), lv_osw (k := 71) q1_71 (by decide), lv_osw (k := 74) q1_74 (by decide)]; rfl) (by decide) ?_
        refine G_bipush (v := (-9)) hk dX4_deedOf_42 (by decide) ?_
        refine G_iret hk dX4_deedOf_44 ?_
        exact ⟨rfl, by unfold sDd; (try first | rw [if_pos q1_68] | rw [if_neg q1_68]); (try first | rw [if_pos q1_71] | rw [if_neg q1_71]); (try first | rw [if_pos q1_74] | rw [if_neg q1_74])⟩

set_option maxHeartbeats 4000000 in
set_option maxRecDepth 100000 in
theorem c_X4_goesOn (l : Launch) (V : gV) (ad : Nat → Nat) (E : Nat → va_E) (p : Nat) (hp : p + 1 < 44) (la : Int32) (sz : Nat) (hsz : sz ≤ 60) (cl : Nat → Int32) (hE : E p = wC ad p la (nI sz)) (hE1 : E (p + 1) = gI V 60 cl) (i m : Nat) (him : i + m ≤ sz) (q : Nat) (hq : q < m) : Ct l V ad 44 44 yX4_goesOn cX4_goesOn 4 (some .boolean) { frames := 1, cells := 0, slots := 0, locals := 22 } [.ref (ad p), .int (nI i), .int (nI q)] E (pI ad (pS E (gB (sGoD (fun a => cl (i + a)) q = true)))) := by
  refine gCt mX4_goesOn (Nat.le_of_ble_eq_true rfl) ?_
  intro K hk
  have hz : nI q = 0 ↔ q = 0 := neq (b := 0) (by omega) (by omega)
  have h42 : nI q ≤ 42 ↔ q ≤ 42 := nle (b := 42) (by omega) (by omega)
  have key : ∀ (c : Prop) [Decidable c], (sGo (fun a => cl (i + a)) q ↔ c) → gB c = gB (sGoD (fun a => cl (i + a)) q = true) := fun c _ h => gB_c (h.symm.trans sGoD_iff.symm)
  refine G_aload_n (i := 0) hk dX4_goesOn_0 rfl rfl ?_
  refine G_iload_n (i := 1) hk dX4_goesOn_1 rfl rfl ?_
  refine G_iload_n (i := 2) hk dX4_goesOn_2 rfl rfl ?_
  refine G_iadd hk dX4_goesOn_3 ?_
  rw [nI_add]
  refine G_cVi hk (c_X2_read l V ad E p hp la sz hsz cl hE hE1 (i + q) (by omega)) mX2_read vX2_read kX4_15 dX4_goesOn_4 (by assumption) (by rfl) (by first | decide | omega) rfl (by decide) (by decide) rfl (Nat.le_of_ble_eq_true rfl) (fun r_4 E_4 h_4 => ?_)
  obtain ⟨rfl, rfl⟩ := h_4
  refine G_istore_n (i := 3) hk dX4_goesOn_7 rfl (by decide) rfl ?_
  refine G_iload_n (i := 2) hk dX4_goesOn_8 rfl rfl ?_
  refine G_if_ne (tgt := 24) hk dX4_goesOn_9 (by decide) (fun c_9 => ?_) (fun c_9 => ?_)
  · try simp only [gB_ne, gB_eq, Decidable.not_not] at c_9
    have hq0 : ¬ q = 0 := fun z => c_9 (hz.mpr z)
    refine G_iload_n (i := 2) hk dX4_goesOn_24 rfl rfl ?_
    refine G_bipush (v := 42) hk dX4_goesOn_25 (by decide) ?_
    refine G_icmp_le (tgt := 32) hk dX4_goesOn_27 (by decide) (fun c_27 => ?_) (fun c_27 => ?_)
    · try simp only [gB_ne, gB_eq, Decidable.not_not] at c_27
      have hq42 := h42.mp c_27
      have hrem : (nI q - 1) - (nI q - 1) / 6 * 6 = nI ((q - 1) % 6) := by rw [show nI q - 1 = nI (q - 1) from pk_sub (b := 1) (by omega)]; exact pk_rem6 (by omega)
      have hm6 : (q - 1) % 6 < 6 := Nat.mod_lt _ (by omega)
      have key2 : ∀ (t : Nat) (x : Int32), x = nI t → t < 100 → (nI ((q - 1) % 6) = x ↔ (q - 1) % 6 = t) := fun t x e h => by rw [e]; exact neq (by omega) (by omega)
      have hG : sGo (fun a => cl (i + a)) q ↔ (if (q - 1) % 6 = 0 then cl (i + q) = 59 else if (q - 1) % 6 = 1 then sKd (cl (i + q)) ≠ -9 else if (q - 1) % 6 = 2 then sDd (cl (i + q)) ≠ -9 else if (q - 1) % 6 = 3 then 49 ≤ cl (i + q) ∧ cl (i + q) ≤ 57 else if (q - 1) % 6 = 4 then 97 ≤ cl (i + q) ∧ cl (i + q) ≤ 122 else cl (i + (q - 1)) ≤ cl (i + q) ∧ cl (i + q) ≤ 122) := by unfold sGo; rw [if_neg hq0, if_neg (by omega)]
      refine G_iload_n (i := 2) hk dX4_goesOn_32 rfl rfl ?_
      refine G_iconst (v := 1) hk dX4_goesOn_33 (by decide) ?_
      refine G_isub hk dX4_goesOn_34 ?_
      refine G_bipush (v := 6) hk dX4_goesOn_35 (by decide) ?_
      refine G_irem hk dX4_goesOn_37 (by decide) ?_
      rw [hrem]
      by_cases q38_0 : nI ((q - 1) % 6) = 0
      · skip
        refine G_tbl (off := 34) (tgt := 72) 0 hk dX4_goesOn_38 (by rw [q38_0]; decide) (by decide) (by decide) (by rfl) (by decide) ?_
        have k0 := (key2 0 0 rfl (by omega)).mp q38_0
        rw [if_pos k0] at hG
        refine G_iload_n (i := 3) hk dX4_goesOn_72 rfl rfl ?_
        refine G_bipush (v := 59) hk dX4_goesOn_73 (by decide) ?_
        refine G_icmp_ne (tgt := 82) hk dX4_goesOn_75 (by decide) (fun c_75 => ?_) (fun c_75 => ?_)
        · try simp only [gB_ne, gB_eq, Decidable.not_not] at c_75
          refine G_iconst (v := 0) hk dX4_goesOn_82 (by decide) ?_
          refine G_zret hk dX4_goesOn_83 (by first | rfl | exact gB_nar _) ?_
          first | exact ⟨rfl, (gB_t (sGoD_iff.mpr (hG.mpr (by assumption)))).symm⟩ | exact ⟨rfl, (gB_t (sGoD_iff.mpr (hG.mpr (Decidable.not_not.mp (by assumption))))).symm⟩ | exact ⟨rfl, (gB_f (fun z => absurd (hG.mp (sGoD_iff.mp z)) (by assumption))).symm⟩ | exact ⟨rfl, (gB_f (fun z => absurd (by assumption) (hG.mp (sGoD_iff.mp z)))).symm⟩
        · try simp only [gB_ne, gB_eq, Decidable.not_not] at c_75
          refine G_iconst (v := 1) hk dX4_goesOn_78 (by decide) ?_
          refine G_goto (tgt := 83) hk dX4_goesOn_79 (by decide) ?_
          refine G_zret hk dX4_goesOn_83 (by first | rfl | exact gB_nar _) ?_
          first | exact ⟨rfl, (gB_t (sGoD_iff.mpr (hG.mpr (by assumption)))).symm⟩ | exact ⟨rfl, (gB_t (sGoD_iff.mpr (hG.mpr (Decidable.not_not.mp (by assumption))))).symm⟩ | exact ⟨rfl, (gB_f (fun z => absurd (hG.mp (sGoD_iff.mp z)) (by assumption))).symm⟩ | exact ⟨rfl, (gB_f (fun z => absurd (by assumption) (hG.mp (sGoD_iff.mp z)))).symm⟩
      · skip
        by_cases q38_1 : nI ((q - 1) % 6) = 1
        · skip
          refine G_tbl (off := 46) (tgt := 84) 1 hk dX4_goesOn_38 (by rw [q38_1]; decide) (by decide) (by decide) (by rfl) (by decide) ?_
          have k0 := mt (key2 0 0 rfl (by omega)).mpr q38_0
          have k1 := (key2 1 1 rfl (by omega)).mp q38_1
          rw [if_neg k0, if_pos k1] at hG
          refine G_iload_n (i := 3) hk dX4_goesOn_84 rfl rfl ?_
          refine G_cSi hk (c_X4_kindOf l V ad E (cl (i + q))) mX4_kindOf sX4_kindOf kX4_21 dX4_goesOn_85 rfl (by decide) (by decide) rfl (Nat.le_of_ble_eq_true rfl) (fun r_85 E_85 h_85 => ?_)
          obtain ⟨rfl, rfl⟩ := h_85
          refine G_bipush (v := (-9)) hk dX4_goesOn_88 (by decide) ?_
          refine G_icmp_eq (tgt := 97) hk dX4_goesOn_90 (by decide) (fun c_90 => ?_) (fun c_90 => ?_)
          · try simp only [gB_ne, gB_eq, Decidable.not_not] at c_90
            refine G_iconst (v := 0) hk dX4_goesOn_97 (by decide) ?_
            refine G_zret hk dX4_goesOn_98 (by first | rfl | exact gB_nar _) ?_
            first | exact ⟨rfl, (gB_t (sGoD_iff.mpr (hG.mpr (by assumption)))).symm⟩ | exact ⟨rfl, (gB_t (sGoD_iff.mpr (hG.mpr (Decidable.not_not.mp (by assumption))))).symm⟩ | exact ⟨rfl, (gB_f (fun z => absurd (hG.mp (sGoD_iff.mp z)) (by assumption))).symm⟩ | exact ⟨rfl, (gB_f (fun z => absurd (by assumption) (hG.mp (sGoD_iff.mp z)))).symm⟩
          · try simp only [gB_ne, gB_eq, Decidable.not_not] at c_90
            refine G_iconst (v := 1) hk dX4_goesOn_93 (by decide) ?_
            refine G_goto (tgt := 98) hk dX4_goesOn_94 (by decide) ?_
            refine G_zret hk dX4_goesOn_98 (by first | rfl | exact gB_nar _) ?_
            first | exact ⟨rfl, (gB_t (sGoD_iff.mpr (hG.mpr (by assumption)))).symm⟩ | exact ⟨rfl, (gB_t (sGoD_iff.mpr (hG.mpr (Decidable.not_not.mp (by assumption))))).symm⟩ | exact ⟨rfl, (gB_f (fun z => absurd (hG.mp (sGoD_iff.mp z)) (by assumption))).symm⟩ | exact ⟨rfl, (gB_f (fun z => absurd (by assumption) (hG.mp (sGoD_iff.mp z)))).symm⟩
        · skip
          by_cases q38_2 : nI ((q - 1) % 6) = 2
          · skip
            refine G_tbl (off := 61) (tgt := 99) 2 hk dX4_goesOn_38 (by rw [q38_2]; decide) (by decide) (by decide) (by rfl) (by decide) ?_
            have k0 := mt (key2 0 0 rfl (by omega)).mpr q38_0
            have k1 := mt (key2 1 1 rfl (by omega)).mpr q38_1
            have k2 := (key2 2 2 rfl (by omega)).mp q38_2
            rw [if_neg k0, if_neg k1, if_pos k2] at hG
            refine G_iload_n (i := 3) hk dX4_goesOn_99 rfl rfl ?_
            refine G_cSi hk (c_X4_deedOf l V ad E (cl (i + q))) mX4_deedOf sX4_deedOf kX4_24 dX4_goesOn_100 rfl (by decide) (by decide) rfl (Nat.le_of_ble_eq_true rfl) (fun r_100 E_100 h_100 => ?_)
            obtain ⟨rfl, rfl⟩ := h_100
            refine G_bipush (v := (-9)) hk dX4_goesOn_103 (by decide) ?_
            refine G_icmp_eq (tgt := 112) hk dX4_goesOn_105 (by decide) (fun c_105 => ?_) (fun c_105 => ?_)
            · try simp only [gB_ne, gB_eq, Decidable.not_not] at c_105
              refine G_iconst (v := 0) hk dX4_goesOn_112 (by decide) ?_
              refine G_zret hk dX4_goesOn_113 (by first | rfl | exact gB_nar _) ?_
              first | exact ⟨rfl, (gB_t (sGoD_iff.mpr (hG.mpr (by assumption)))).symm⟩ | exact ⟨rfl, (gB_t (sGoD_iff.mpr (hG.mpr (Decidable.not_not.mp (by assumption))))).symm⟩ | exact ⟨rfl, (gB_f (fun z => absurd (hG.mp (sGoD_iff.mp z)) (by assumption))).symm⟩ | exact ⟨rfl, (gB_f (fun z => absurd (by assumption) (hG.mp (sGoD_iff.mp z)))).symm⟩
            · try simp only [gB_ne, gB_eq, Decidable.not_not] at c_105
              refine G_iconst (v := 1) hk dX4_goesOn_108 (by decide) ?_
              refine G_goto (tgt := 113) hk dX4_goesOn_109 (by decide) ?_
              refine G_zret hk dX4_goesOn_113 (by first | rfl | exact gB_nar _) ?_
              first | exact ⟨rfl, (gB_t (sGoD_iff.mpr (hG.mpr (by assumption)))).symm⟩ | exact ⟨rfl, (gB_t (sGoD_iff.mpr (hG.mpr (Decidable.not_not.mp (by assumption))))).symm⟩ | exact ⟨rfl, (gB_f (fun z => absurd (hG.mp (sGoD_iff.mp z)) (by assumption))).symm⟩ | exact ⟨rfl, (gB_f (fun z => absurd (by assumption) (hG.mp (sGoD_iff.mp z)))).symm⟩
          · skip
            by_cases q38_3 : nI ((q - 1) % 6) = 3
            · skip
              refine G_tbl (off := 76) (tgt := 114) 3 hk dX4_goesOn_38 (by rw [q38_3]; decide) (by decide) (by decide) (by rfl) (by decide) ?_
              have k0 := mt (key2 0 0 rfl (by omega)).mpr q38_0
              have k1 := mt (key2 1 1 rfl (by omega)).mpr q38_1
              have k2 := mt (key2 2 2 rfl (by omega)).mpr q38_2
              have k3 := (key2 3 3 rfl (by omega)).mp q38_3
              rw [if_neg k0, if_neg k1, if_neg k2, if_pos k3] at hG
              refine G_iload_n (i := 3) hk dX4_goesOn_114 rfl rfl ?_
              refine G_bipush (v := 49) hk dX4_goesOn_115 (by decide) ?_
              refine G_bipush (v := 57) hk dX4_goesOn_117 (by decide) ?_
              refine G_cSNi hk (c_X5_isIn l V ad E (cl (i + q)) 49 57) mX5_isIn sX5_isIn (fun q => q.2.2.2.1) dX4_goesOn_119 rfl (by decide) (by decide) rfl (Nat.le_of_ble_eq_true rfl) (fun r_119 E_119 h_119 => ?_)
              obtain ⟨rfl, rfl⟩ := h_119
              refine G_zret hk dX4_goesOn_122 (by first | rfl | exact gB_nar _) ?_
              exact ⟨rfl, key _ hG⟩
            · skip
              by_cases q38_4 : nI ((q - 1) % 6) = 4
              · skip
                refine G_tbl (off := 85) (tgt := 123) 4 hk dX4_goesOn_38 (by rw [q38_4]; decide) (by decide) (by decide) (by rfl) (by decide) ?_
                have k0 := mt (key2 0 0 rfl (by omega)).mpr q38_0
                have k1 := mt (key2 1 1 rfl (by omega)).mpr q38_1
                have k2 := mt (key2 2 2 rfl (by omega)).mpr q38_2
                have k3 := mt (key2 3 3 rfl (by omega)).mpr q38_3
                have k4 := (key2 4 4 rfl (by omega)).mp q38_4
                rw [if_neg k0, if_neg k1, if_neg k2, if_neg k3, if_pos k4] at hG
                refine G_iload_n (i := 3) hk dX4_goesOn_123 rfl rfl ?_
                refine G_bipush (v := 97) hk dX4_goesOn_124 (by decide) ?_
                refine G_bipush (v := 122) hk dX4_goesOn_126 (by decide) ?_
                refine G_cSNi hk (c_X5_isIn l V ad E (cl (i + q)) 97 122) mX5_isIn sX5_isIn (fun q => q.2.2.2.1) dX4_goesOn_128 rfl (by decide) (by decide) rfl (Nat.le_of_ble_eq_true rfl) (fun r_128 E_128 h_128 => ?_)
                obtain ⟨rfl, rfl⟩ := h_128
                refine G_zret hk dX4_goesOn_131 (by first | rfl | exact gB_nar _) ?_
                exact ⟨rfl, key _ hG⟩
              · skip
                refine G_tableOut (tgt := 132) hk dX4_goesOn_38 (by have a_0 := lv_neT (a := 0) q38_0 (by decide); have a_1 := lv_neT (a := 1) q38_1 (by decide); have a_2 := lv_neT (a := 2) q38_2 (by decide); have a_3 := lv_neT (a := 3) q38_3 (by decide); have a_4 := lv_neT (a := 4) q38_4 (by decide); omega) (by decide) ?_
                have k0 := mt (key2 0 0 rfl (by omega)).mpr q38_0
                have k1 := mt (key2 1 1 rfl (by omega)).mpr q38_1
                have k2 := mt (key2 2 2 rfl (by omega)).mpr q38_2
                have k3 := mt (key2 3 3 rfl (by omega)).mpr q38_3
                have k4 := mt (key2 4 4 rfl (by omega)).mpr q38_4
                rw [if_neg k0, if_neg k1, if_neg k2, if_neg k3, if_neg k4] at hG
                refine G_iload_n (i := 3) hk dX4_goesOn_132 rfl rfl ?_
                refine G_aload_n (i := 0) hk dX4_goesOn_133 rfl rfl ?_
                refine G_iload_n (i := 1) hk dX4_goesOn_134 rfl rfl ?_
                refine G_iload_n (i := 2) hk dX4_goesOn_135 rfl rfl ?_
                refine G_iadd hk dX4_goesOn_136 ?_
                rw [nI_add]
                refine G_iconst (v := 1) hk dX4_goesOn_137 (by decide) ?_
                refine G_isub hk dX4_goesOn_138 ?_
                rw [show nI (i + q) - 1 = nI (i + (q - 1)) by rw [← Nat.add_sub_assoc (by omega)]; exact pk_sub (b := 1) (by omega)]
                refine G_cVi hk (c_X2_read l V ad E p hp la sz hsz cl hE hE1 (i + (q - 1)) (by omega)) mX2_read vX2_read kX4_15 dX4_goesOn_139 (by assumption) (by rfl) (by first | decide | omega) rfl (by decide) (by decide) rfl (Nat.le_of_ble_eq_true rfl) (fun r_139 E_139 h_139 => ?_)
                obtain ⟨rfl, rfl⟩ := h_139
                refine G_bipush (v := 122) hk dX4_goesOn_142 (by decide) ?_
                refine G_cSNi hk (c_X5_isIn l V ad E (cl (i + q)) (cl (i + (q - 1))) 122) mX5_isIn sX5_isIn (fun q => q.2.2.2.1) dX4_goesOn_144 rfl (by decide) (by decide) rfl (Nat.le_of_ble_eq_true rfl) (fun r_144 E_144 h_144 => ?_)
                obtain ⟨rfl, rfl⟩ := h_144
                refine G_zret hk dX4_goesOn_147 (by first | rfl | exact gB_nar _) ?_
                exact ⟨rfl, key _ hG⟩
    · try simp only [gB_ne, gB_eq, Decidable.not_not] at c_27
      have hq42 : ¬ q ≤ 42 := fun z => c_27 (h42.mpr z)
      refine G_iconst (v := 0) hk dX4_goesOn_30 (by decide) ?_
      refine G_zret hk dX4_goesOn_31 (by first | rfl | exact gB_nar _) ?_
      exact ⟨rfl, (gB_f (fun z => by have := sGoD_iff.mp z; unfold sGo at this; rw [if_neg hq0, if_pos (by omega)] at this; exact this)).symm⟩
  · try simp only [gB_ne, gB_eq, Decidable.not_not] at c_9
    have hq0 : q = 0 := hz.mp (by first | exact c_9 | exact Decidable.not_not.mp c_9)
    refine G_iload_n (i := 3) hk dX4_goesOn_12 rfl rfl ?_
    refine G_bipush (v := 113) hk dX4_goesOn_13 (by decide) ?_
    refine G_icmp_ne (tgt := 22) hk dX4_goesOn_15 (by decide) (fun c_15 => ?_) (fun c_15 => ?_)
    · try simp only [gB_ne, gB_eq, Decidable.not_not] at c_15
      refine G_iconst (v := 0) hk dX4_goesOn_22 (by decide) ?_
      refine G_zret hk dX4_goesOn_23 (by first | rfl | exact gB_nar _) ?_
      subst hq0
      have hG : sGo (fun a => cl (i + a)) 0 ↔ cl (i + 0) = 113 := by unfold sGo; rw [if_pos rfl]
      first | exact ⟨rfl, (gB_t (sGoD_iff.mpr (hG.mpr c_15))).symm⟩ | exact ⟨rfl, (gB_t (sGoD_iff.mpr (hG.mpr (Decidable.not_not.mp c_15)))).symm⟩ | exact ⟨rfl, (gB_f (fun z => c_15 (hG.mp (sGoD_iff.mp z)))).symm⟩
    · try simp only [gB_ne, gB_eq, Decidable.not_not] at c_15
      refine G_iconst (v := 1) hk dX4_goesOn_18 (by decide) ?_
      refine G_goto (tgt := 23) hk dX4_goesOn_19 (by decide) ?_
      refine G_zret hk dX4_goesOn_23 (by first | rfl | exact gB_nar _) ?_
      subst hq0
      have hG : sGo (fun a => cl (i + a)) 0 ↔ cl (i + 0) = 113 := by unfold sGo; rw [if_pos rfl]
      first | exact ⟨rfl, (gB_t (sGoD_iff.mpr (hG.mpr c_15))).symm⟩ | exact ⟨rfl, (gB_t (sGoD_iff.mpr (hG.mpr (Decidable.not_not.mp c_15)))).symm⟩ | exact ⟨rfl, (gB_f (fun z => c_15 (hG.mp (sGoD_iff.mp z)))).symm⟩
