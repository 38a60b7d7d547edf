set_option maxHeartbeats 4000000 in
set_option maxRecDepth 100000 in
theorem lp_X6_areSo {l : Launch} {V : gV} {ad : Nat → Nat} {K : gX} (hk : gOk l { frames := 3, cells := 0, slots := 0, locals := 70 } K V cX6_areSo 2 RX6 (some .boolean) yX6_areSo.name) (E0 : Nat → va_E) (fa tr at1 rr dn wo : Int32) (rd n : Nat) (so sl ce pa rz dl ke p2 w2 : Nat → Int32) (hC0 : mC V ad E0 fa tr at1 rr dn wo (nI rd) n so sl ce pa rz dl ke p2 w2) (hr8 : rd ≤ 8) (ho : ∀ i, i < n → rOk (pR pa i)) : ∀ (k q : Nat) (E : Nat → va_E), rd < q + k → q ≤ rd → mX V ad E0 fa tr at1 rr (nI rd) n pa E → fa_cnt (sSp (pR pa) n p2 w2) q = 0 → G K V 2 (gQ K V 44 0 0 (pI ad (fun z E2 => z = gB (sSo (pR pa) n rd p2 w2 = true) ∧ mX V ad E0 fa tr at1 rr (nI rd) n pa E2))) ad 44 0 0 2 [(0, .ref (ad 34)), (1, .int (nI q))] [] E := by
  intro k
  induction k with
  | zero => intro q E hq; omega
  | succ k ih =>
    intro q E hq hqr hX hc
    obtain ⟨dn1, wo1, dl1, hM⟩ := hX.2
    obtain ⟨m0, g35, g36, g37, g38, g39, g40, g41, g42, g43, m3⟩ := hC0.ex hX.1 hM
    refine G_iload_n (i := 1) hk dX6_areSo_2 rfl rfl ?_
    refine G_aload_n (i := 0) hk dX6_areSo_3 rfl rfl ?_
    refine G_get hk fX6_80 dX6_areSo_4 (by assumption) (by rfl) (by first | decide | omega) ?_
    refine G_icmp_ge (tgt := 43) hk dX6_areSo_7 (by decide) (fun c_7 => ?_) (fun c_7 => ?_)
    · try simp only [gB_ne, gB_eq, Decidable.not_not] at c_7
      have hge : rd ≤ q := (nle (by omega) (by omega)).mp c_7
      have hqe : q = rd := by omega
      subst hqe
      refine G_iconst (v := 1) hk dX6_areSo_43 (by decide) ?_
      refine G_zret hk dX6_areSo_44 (by first | rfl | exact gB_nar _) ?_
      exact ⟨(gB_t (decide_eq_true hc)).symm, hX⟩
    · try simp only [gB_ne, gB_eq, Decidable.not_not] at c_7
      have hlt : q < rd := Nat.lt_of_not_le (fun z => c_7 ((nle (by omega) (by omega)).mpr z))
      refine G_aload_n (i := 0) hk dX6_areSo_10 rfl rfl ?_
      refine G_aload_n (i := 0) hk dX6_areSo_11 rfl rfl ?_
      refine G_get hk fX6_31 dX6_areSo_12 (by assumption) (by rfl) (by first | decide | omega) ?_
      refine G_iload_n (i := 1) hk dX6_areSo_15 rfl rfl ?_
      refine G_ialdX (j := q) hk dX6_areSo_16 (by assumption) rfl (by omega) (by decide) (by first | decide | omega) ?_
      refine G_bipush (v := (-9)) hk dX6_areSo_17 (by decide) ?_
      refine G_cVv hk (c_X6_asks l V ad E fa tr at1 rr (nI rd) n pa dn1 wo1 dl1 hM ho 99 (-9) hw99' (p2 q)) mX6_asks vX6_asks kX6_132 dX6_areSo_19 (by assumption) (by rfl) (by first | decide | omega) rfl (by decide) (by decide) rfl (Nat.le_of_ble_eq_true rfl) (fun E_19 h_19 => ?_)
      have hX2 := hX.tr h_19.x
      obtain ⟨x1, dl2, hM2, -⟩ := h_19
      have z0 := hM2.1
      have z3 := (x1 43 (by omega) (by omega)).trans g43
      refine G_aload_n (i := 0) hk dX6_areSo_22 rfl rfl ?_
      refine G_get hk fX6_100 dX6_areSo_23 (by assumption) (by rfl) (by first | decide | omega) ?_
      refine G_aload_n (i := 0) hk dX6_areSo_26 rfl rfl ?_
      refine G_get hk fX6_34 dX6_areSo_27 (by assumption) (by rfl) (by first | decide | omega) ?_
      refine G_iload_n (i := 1) hk dX6_areSo_30 rfl rfl ?_
      refine G_ialdX (j := q) hk dX6_areSo_31 z3 rfl (by omega) (by decide) (by first | decide | omega) ?_
      refine G_icmp_eq (tgt := 37) hk dX6_areSo_32 (by decide) (fun c_32 => ?_) (fun c_32 => ?_)
      · try simp only [gB_ne, gB_eq, Decidable.not_not] at c_32
        refine G_iinc (v := nI (q + 1)) hk dX6_areSo_37 rfl (nI_inc q) (by decide) rfl ?_
        refine G_goto (tgt := 2) hk dX6_areSo_40 (by decide) ?_
        exact G_lv (by exact And.intro rfl (And.intro rfl (trivial))) (ih (q + 1) _ (by omega) (by omega) hX2 (by rw [fa_cnt_no (sSp_f c_32)]; exact hc))
      · try simp only [gB_ne, gB_eq, Decidable.not_not] at c_32
        refine G_iconst (v := 0) hk dX6_areSo_35 (by decide) ?_
        refine G_zret hk dX6_areSo_36 (by first | rfl | exact gB_nar _) ?_
        refine ⟨(gB_f (fun z => ?_)).symm, hX2⟩
        have z1 := of_decide_eq_true z
        have hm := fa_cnt_mono (sSp (pR pa) n p2 w2) (a := q + 1) (b := rd) (by omega)
        rw [fa_cnt_yes (sSp_t c_32)] at hm
        omega

set_option maxHeartbeats 4000000 in
set_option maxRecDepth 100000 in
theorem c_X6_areSo (l : Launch) (V : gV) (ad : Nat → Nat) (E : Nat → va_E) (fa tr at1 rr dn wo : Int32) (rd n : Nat) (so sl ce pa rz dl ke p2 w2 : Nat → Int32) (hC : mC V ad E fa tr at1 rr dn wo (nI rd) n so sl ce pa rz dl ke p2 w2) (hr8 : rd ≤ 8) (ho : ∀ i, i < n → rOk (pR pa i)) : Ct l V ad 44 44 yX6_areSo cX6_areSo 2 (some .boolean) { frames := 3, cells := 0, slots := 0, locals := 70 } [.ref (ad 34)] E (pI ad (fun z E2 => z = gB (sSo (pR pa) n rd p2 w2 = true) ∧ mX V ad E fa tr at1 rr (nI rd) n pa E2)) := by
  refine gCt mX6_areSo (Nat.le_of_ble_eq_true rfl) ?_
  intro K hk
  refine G_iconst (v := 0) hk dX6_areSo_0 (by decide) ?_
  refine G_istore_n (i := 1) hk dX6_areSo_1 rfl (by decide) rfl ?_
  exact G_lv (by exact And.intro rfl (And.intro rfl (trivial))) (lp_X6_areSo hk E fa tr at1 rr dn wo rd n so sl ce pa rz dl ke p2 w2 hC hr8 ho (rd + 1) 0 E (by omega) (by omega) ⟨exM.rf, dn, wo, dl, hC.k⟩ rfl)

theorem upd_upd (f : Nat → Int32) (k : Nat) (x y : Int32) : upd (upd f k x) k y = upd f k y := by
  funext i
  unfold upd
  by_cases h : i = k <;> simp [h]
theorem upd_id (f : Nat → Int32) (k : Nat) : upd f k (f k) = f := by
  funext i
  unfold upd
  by_cases h : i = k <;> simp [h]
theorem pR_K {pa : Nat → Int32} {j : Nat} {v : Int32} (i q : Nat) (hq : q < 5) : pR (upd pa (5 * j) v) i q = rK (pR pa) j v i q := by
  unfold pR rK sKin upd
  by_cases h : i = j
  · subst h
    rw [if_pos rfl]
    by_cases h2 : q = 0
    · rw [if_pos (by omega), if_pos h2]
    · rw [if_neg (by omega), if_neg h2]
  · rw [if_neg h, if_neg (by omega)]
theorem pR_N {pa : Nat → Int32} {j : Nat} {v : Int32} (i q : Nat) (hq : q < 5) : pR (upd pa (5 * j + 2) v) i q = rN (pR pa) j v i q := by
  unfold pR rN sNum upd
  by_cases h : i = j
  · subst h
    rw [if_pos rfl]
    by_cases h2 : q = 2
    · rw [if_pos (by omega), if_pos h2]
    · rw [if_neg (by omega), if_neg h2]
  · rw [if_neg h, if_neg (by omega)]
theorem rK_cw {R R' : Nat → Nat → Int32} {n j : Nat} {v : Int32} (hj : j < n) (h : ∀ i, i < n → ∀ q, q < 5 → R i q = R' i q) : ∀ i, i < n → ∀ q, q < 5 → rK R j v i q = rK R' j v i q := by
  intro i hi q hq
  unfold rK sKin
  by_cases e : i = j
  · rw [if_pos e, if_pos e, h j hj q hq]
  · rw [if_neg e, if_neg e]; exact h i hi q hq
theorem rN_cw {R R' : Nat → Nat → Int32} {n j : Nat} {v : Int32} (hj : j < n) (h : ∀ i, i < n → ∀ q, q < 5 → R i q = R' i q) : ∀ i, i < n → ∀ q, q < 5 → rN R j v i q = rN R' j v i q := by
  intro i hi q hq
  unfold rN sNum
  by_cases e : i = j
  · rw [if_pos e, if_pos e, h j hj q hq]
  · rw [if_neg e, if_neg e]; exact h i hi q hq
theorem rOk_K {R : Nat → Nat → Int32} {n j t : Nat} (ho : ∀ i, i < n → rOk (R i)) (hj : j < n) (ht : t < 3) : ∀ i, i < n → rOk (rK R j (nI t) i) := by
  intro i hi
  unfold rK
  by_cases e : i = j
  · rw [if_pos e]
    obtain ⟨-, h1, h2⟩ := ho j hj
    refine ⟨?_, h1, h2⟩
    rcases (show t = 0 ∨ t = 1 ∨ t = 2 by omega) with rfl | rfl | rfl
    · exact Or.inl rfl
    · exact Or.inr (Or.inl rfl)
    · exact Or.inr (Or.inr rfl)
  · rw [if_neg e]; exact ho i hi
theorem rOk_N {R : Nat → Nat → Int32} {n j t : Nat} (ho : ∀ i, i < n → rOk (R i)) (hj : j < n) (ht : 1 ≤ t) (ht9 : t ≤ 9) : ∀ i, i < n → rOk (rN R j (nI t) i) := by
  intro i hi
  unfold rN
  by_cases e : i = j
  · rw [if_pos e]
    obtain ⟨h0, h1, -⟩ := ho j hj
    exact ⟨h0, h1, (nle (a := 1) (by omega) (by omega)).mpr ht, (nle (b := 9) (by omega) (by omega)).mpr ht9⟩
  · rw [if_neg e]; exact ho i hi

set_option maxHeartbeats 4000000 in
set_option maxRecDepth 100000 in
theorem lp_X6_kinds {l : Launch} {V : gV} {ad : Nat → Nat} {K : gX} (hk : gOk l { frames := 4, cells := 0, slots := 0, locals := 91 } K V cX6_kinds 5 RX6 (some .int) yX6_kinds.name) (E0 : Nat → va_E) (fa tr at1 rr : Int32) (rd n : Nat) (so sl ce pa rz ke p2 w2 : Nat → Int32) (hr8 : rd ≤ 8) (ho : ∀ i, i < n → rOk (pR pa i)) (j : Nat) (hj : j < n) (hn7 : n ≤ 7) : ∀ (k t : Nat) (c x dn wo : Int32) (dl : Nat → Int32) (E : Nat → va_E), 3 < t + k → 0 ≤ t → t ≤ 3 → mC V ad E fa tr at1 rr dn wo (nI rd) n so sl ce (upd pa (5 * j) x) rz dl ke p2 w2 → frM E0 E → c = sBits (sKs (pR pa) n rd p2 w2 j) t → G K V 5 (gQ K V 44 0 0 (pI ad (fun z E2 => z = sBits (sKs (pR pa) n rd p2 w2 j) 3 ∧ ∃ (dn wo : Int32) (dl : Nat → Int32), mC V ad E2 fa tr at1 rr dn wo (nI rd) n so sl ce pa rz dl ke p2 w2 ∧ frM E0 E2))) ad 44 0 0 21 [(0, .ref (ad 34)), (1, .int (nI j)), (2, .int (pR pa j 0)), (3, .int c), (4, .int (nI t))] [] E := by
  intro k
  induction k with
  | zero => intro t c x dn wo dl E ht; omega
  | succ k ih =>
    intro t c x dn wo dl E ht ht0 htn hC hfr hc
    obtain ⟨m0, g35, g36, g37, g38, g39, g40, g41, g42, g43, m3⟩ := id hC
    refine G_iload hk dX6_kinds_21 rfl ?_
    refine G_iconst (v := 3) hk dX6_kinds_23 (by decide) ?_
    refine G_icmp_ge (tgt := 61) hk dX6_kinds_24 (by decide) (fun c_24 => ?_) (fun c_24 => ?_)
    · try simp only [gB_ne, gB_eq, Decidable.not_not] at c_24
      have hge : 3 ≤ t := (nle (a := 3) (by omega) (by omega)).mp c_24
      have hte : t = 3 := by omega
      subst hte
      refine G_aload_n (i := 0) hk dX6_kinds_61 rfl rfl ?_
      refine G_get hk fX6_19 dX6_kinds_62 (by assumption) (by rfl) (by first | decide | omega) ?_
      refine G_iconst (v := 5) hk dX6_kinds_65 (by decide) ?_
      refine G_iload_n (i := 1) hk dX6_kinds_66 rfl rfl ?_
      refine G_imul hk dX6_kinds_67 ?_
      rw [nI_5]
      refine G_iload_n (i := 2) hk dX6_kinds_68 rfl rfl ?_
      refine G_iastX (j := (5 * j)) hk dX6_kinds_69 (by assumption) rfl (by omega) (by decide) (by first | decide | omega) ?_
      rw [upd_upd]
      refine G_iload_n (i := 3) hk dX6_kinds_70 rfl rfl ?_
      refine G_iret hk dX6_kinds_71 ?_
      have hC1 := hC.s_pa (upd pa (5 * j) (pR pa j 0))
      rw [show upd pa (5 * j) (pR pa j 0) = pa from upd_id pa (5 * j)] at hC1 ⊢
      exact ⟨hc, _, _, _, hC1, hfr.tr (frM.up (by omega))⟩
    · try simp only [gB_ne, gB_eq, Decidable.not_not] at c_24
      have hle : t < 3 := Nat.lt_of_not_le (fun z => c_24 ((nle (a := 3) (by omega) (by omega)).mpr z))
      refine G_aload_n (i := 0) hk dX6_kinds_27 rfl rfl ?_
      refine G_get hk fX6_19 dX6_kinds_28 (by assumption) (by rfl) (by first | decide | omega) ?_
      refine G_iconst (v := 5) hk dX6_kinds_31 (by decide) ?_
      refine G_iload_n (i := 1) hk dX6_kinds_32 rfl rfl ?_
      refine G_imul hk dX6_kinds_33 ?_
      rw [nI_5]
      refine G_iload hk dX6_kinds_34 rfl ?_
      refine G_iastX (j := (5 * j)) hk dX6_kinds_36 (by assumption) rfl (by omega) (by decide) (by first | decide | omega) ?_
      rw [upd_upd]
      have hC1 := hC.s_pa (upd pa (5 * j) (nI t))
      rw [show va_up E 38 (gI V 35 (upd pa (5 * j) (nI t))) = va_up E 38 (gI V 35 (upd pa (5 * j) (nI t))) from rfl] at *
      have f1 := hfr.tr (frM.up (E := E) (k := 38) (c := gI V 35 (upd pa (5 * j) (nI t))) (by omega))
      generalize va_up E 38 (gI V 35 (upd pa (5 * j) (nI t))) = E1 at hC1 f1 ⊢
      clear m0 g35 g36 g37 g38 g39 g40 g41 g42 g43
      obtain ⟨m0, g35, g36, g37, g38, g39, g40, g41, g42, g43, m3⟩ := id hC1
      have ho1 : ∀ i, i < n → rOk (pR (upd pa (5 * j) (nI t)) i) := fun i hi => rOk_cw (pR_K i) (rOk_K ho hj hle i hi)
      refine G_iload_n (i := 3) hk dX6_kinds_37 rfl rfl ?_
      refine G_aload_n (i := 0) hk dX6_kinds_38 rfl rfl ?_
      refine G_cVi hk (c_X6_areSo l V ad E1 fa tr at1 rr dn wo rd n so sl ce (upd pa (5 * j) (nI t)) rz dl ke p2 w2 hC1 hr8 ho1) mX6_areSo vX6_areSo kX6_165 dX6_kinds_39 (by assumption) (by rfl) (by first | decide | omega) rfl (by decide) (by decide) rfl (Nat.le_of_ble_eq_true rfl) (fun r_39 E_39 h_39 => ?_)
      obtain ⟨rfl, hX⟩ := h_39
      obtain ⟨dn2, wo2, dl2, hM2⟩ := hX.2
      have hC2 := hC1.ex hX.1 hM2
      have f2 := f1.tr (frM.ex hX.1)
      refine G_if_eq (tgt := 52) hk dX6_kinds_42 (by decide) (fun c_42 => ?_) (fun c_42 => ?_)
      · try simp only [gB_ne, gB_eq, Decidable.not_not] at c_42
        refine G_iconst (v := 0) hk dX6_kinds_52 (by decide) ?_
        refine G_ior hk dX6_kinds_53 ?_
        refine G_istore_n (i := 3) hk dX6_kinds_54 rfl (by decide) rfl ?_
        refine G_iinc (v := nI (t + 1)) hk dX6_kinds_55 rfl (nI_inc t) (by decide) rfl ?_
        refine G_goto (tgt := 21) hk dX6_kinds_58 (by decide) ?_
        refine G_lv (by exact And.intro rfl (And.intro rfl (And.intro rfl (And.intro rfl (And.intro rfl (trivial)))))) (ih (t + 1) _ (nI t) _ _ _ _ (by omega) (by omega) (by omega) hC2 f2 ?_)
        have hs : sKs (pR pa) n rd p2 w2 j t = sSo (pR (upd pa (5 * j) (nI t))) n rd p2 w2 := (sSo_ag (fun i hi q hq => (pR_K i q hq).symm) (fun q hq => ⟨rfl, rfl⟩))
        first | (rw [hc, sBits, hs, if_pos c_42]; done) | (rw [hc, or_z, sBits, hs, if_neg c_42]; done)
      · try simp only [gB_ne, gB_eq, Decidable.not_not] at c_42
        refine G_iconst (v := 1) hk dX6_kinds_45 (by decide) ?_
        refine G_iload hk dX6_kinds_46 rfl ?_
        refine G_ishl hk dX6_kinds_48 ?_
        refine G_goto (tgt := 53) hk dX6_kinds_49 (by decide) ?_
        refine G_ior hk dX6_kinds_53 ?_
        refine G_istore_n (i := 3) hk dX6_kinds_54 rfl (by decide) rfl ?_
        refine G_iinc (v := nI (t + 1)) hk dX6_kinds_55 rfl (nI_inc t) (by decide) rfl ?_
        refine G_goto (tgt := 21) hk dX6_kinds_58 (by decide) ?_
        refine G_lv (by exact And.intro rfl (And.intro rfl (And.intro rfl (And.intro rfl (And.intro rfl (trivial)))))) (ih (t + 1) _ (nI t) _ _ _ _ (by omega) (by omega) (by omega) hC2 f2 ?_)
        have hs : sKs (pR pa) n rd p2 w2 j t = sSo (pR (upd pa (5 * j) (nI t))) n rd p2 w2 := (sSo_ag (fun i hi q hq => (pR_K i q hq).symm) (fun q hq => ⟨rfl, rfl⟩))
        first | (rw [hc, sBits, hs, if_pos c_42]; done) | (rw [hc, or_z, sBits, hs, if_neg c_42]; done)

set_option maxHeartbeats 4000000 in
set_option maxRecDepth 100000 in
theorem c_X6_kinds (l : Launch) (V : gV) (ad : Nat → Nat) (E : Nat → va_E) (n rd : Nat) (R : Nat → Nat → Int32) (rp rw : Nat → Int32) (tr fa : Int32) (la : Nat → Int32) (sz : Nat → Nat) (cl : Nat → Nat → Int32) (hR : mR V ad E (n, R, rd, rp, rw, tr, fa, la, sz, cl)) (ho0 : sOk n R) (r : Int32) : Ct l V ad 44 44 yX6_kinds cX6_kinds 5 (some .int) { frames := 4, cells := 0, slots := 0, locals := 91 } [.ref (ad 34), .int r] E (pI ad (fun v E2 => v = vKinds n R rd rp rw r ∧ mR V ad E2 (n, R, rd, rp, rw, tr, fa, la, sz, cl) ∧ frM E E2)) := by
  refine gCt mX6_kinds (Nat.le_of_ble_eq_true rfl) ?_
  intro K hk
  obtain ⟨at1, rr, dn, wo, so, sl, ce, pa, rz, dl, ke, p2, w2, hC, hrd8, hag, hrd, hso, hsl, hsz⟩ := id hR
  obtain ⟨m0, g35, g36, g37, g38, g39, g40, g41, g42, g43, m3⟩ := id hC
  have hM := hC.k
  have ho : ∀ i, i < n → rOk (pR pa i) := fun i hi => rOk_cw (hag i hi) (ho0 i hi)
  have hn0 : nI n = 0 ↔ n = 0 := neq (b := 0) (by omega) (by omega)
  refine G_aload_n (i := 0) hk dX6_kinds_0 rfl rfl ?_
  refine G_iload_n (i := 1) hk dX6_kinds_1 rfl rfl ?_
  refine G_cVi hk (c_X6_isRule l V ad E fa tr at1 rr (nI rd) n pa dn wo dl hM r) mX6_isRule vX6_isRule kX6_116 dX6_kinds_2 (by assumption) (by rfl) (by first | decide | omega) rfl (by decide) (by decide) rfl (Nat.le_of_ble_eq_true rfl) (fun r_2 E_2 h_2 => ?_)
  obtain ⟨rfl, rfl⟩ := h_2
  refine G_if_ne (tgt := 10) hk dX6_kinds_5 (by decide) (fun c_5 => ?_) (fun c_5 => ?_)
  · try simp only [gB_ne, gB_eq, Decidable.not_not] at c_5
    obtain ⟨j, hj, rfl⟩ := gIx (Int32.not_lt.mpr c_5.1) c_5.2 (by omega)
    have hix : ix (nI j) = j := ix_nI (by omega)
    have haj := hag j hj
    refine G_aload_n (i := 0) hk dX6_kinds_10 rfl rfl ?_
    refine G_iload_n (i := 1) hk dX6_kinds_11 rfl rfl ?_
    refine G_cVi hk (c_X6_kindOf l V ad E fa tr at1 rr (nI rd) n pa dn wo dl hM j (by omega)) mX6_kindOf vX6_kindOf kX6_50 dX6_kinds_12 (by assumption) (by rfl) (by first | decide | omega) rfl (by decide) (by decide) rfl (Nat.le_of_ble_eq_true rfl) (fun r_12 E_12 h_12 => ?_)
    obtain ⟨rfl, rfl⟩ := h_12
    refine G_istore_n (i := 2) hk dX6_kinds_15 rfl (by decide) rfl ?_
    refine G_iconst (v := 0) hk dX6_kinds_16 (by decide) ?_
    refine G_istore_n (i := 3) hk dX6_kinds_17 rfl (by decide) rfl ?_
    refine G_iconst (v := 0) hk dX6_kinds_18 (by decide) ?_
    refine G_istore hk dX6_kinds_19 (by decide) rfl ?_
    have hl := lp_X6_kinds hk E fa tr at1 rr rd n so sl ce pa rz ke p2 w2 hrd8 ho j hj m3 4 0 0 (pR pa j 0) dn wo dl E (by omega) (by omega) (by omega) (by rw [show upd pa (5 * j) (pR pa j 0) = pa from upd_id pa (5 * j)]; exact hC) frM.rf (by rfl)
    refine G_lv (by exact And.intro rfl (And.intro rfl (And.intro rfl (And.intro rfl (And.intro rfl (trivial)))))) (G_post hl ?_)
    rintro r a E2 ⟨v, rfl, rfl, rfl, dn2, wo2, dl2, hC2, f2⟩
    refine ⟨_, rfl, rfl, ?_, ⟨_, _, _, _, _, _, _, _, _, _, _, _, _, hC2, hrd8, hag, hrd, hso, hsl, hsz⟩, f2⟩
    unfold vKinds
    rw [if_pos c_5, hix]
    exact (sBits_cong _ (fun t ht => sSo_ag (rK_cw hj (fun i hi q hq => (hag i hi q hq).symm)) (fun q hq => ⟨(hrd q hq).1.symm, (hrd q hq).2.symm⟩))).symm
  · try simp only [gB_ne, gB_eq, Decidable.not_not] at c_5
    refine G_iconst (v := (-1)) hk dX6_kinds_8 (by decide) ?_
    refine G_iret hk dX6_kinds_9 ?_
    exact ⟨by unfold vKinds; rw [if_neg c_5], hR, frM.rf⟩

set_option maxHeartbeats 4000000 in
set_option maxRecDepth 100000 in
theorem lp_X6_numbers {l : Launch} {V : gV} {ad : Nat → Nat} {K : gX} (hk : gOk l { frames := 4, cells := 0, slots := 0, locals := 91 } K V cX6_numbers 5 RX6 (some .int) yX6_numbers.name) (E0 : Nat → va_E) (fa tr at1 rr : Int32) (rd n : Nat) (so sl ce pa rz ke p2 w2 : Nat → Int32) (hr8 : rd ≤ 8) (ho : ∀ i, i < n → rOk (pR pa i)) (j : Nat) (hj : j < n) (hn7 : n ≤ 7) : ∀ (k t : Nat) (c x dn wo : Int32) (dl : Nat → Int32) (E : Nat → va_E), 10 < t + k → 1 ≤ t → t ≤ 10 → mC V ad E fa tr at1 rr dn wo (nI rd) n so sl ce (upd pa (5 * j + 2) x) rz dl ke p2 w2 → frM E0 E → c = sBits (sNs (pR pa) n rd p2 w2 j) t → G K V 5 (gQ K V 44 0 0 (pI ad (fun z E2 => z = sBits (sNs (pR pa) n rd p2 w2 j) 10 ∧ ∃ (dn wo : Int32) (dl : Nat → Int32), mC V ad E2 fa tr at1 rr dn wo (nI rd) n so sl ce pa rz dl ke p2 w2 ∧ frM E0 E2))) ad 44 0 0 21 [(0, .ref (ad 34)), (1, .int (nI j)), (2, .int (pR pa j 2)), (3, .int c), (4, .int (nI t))] [] E := by
  intro k
  induction k with
  | zero => intro t c x dn wo dl E ht; omega
  | succ k ih =>
    intro t c x dn wo dl E ht ht0 htn hC hfr hc
    obtain ⟨m0, g35, g36, g37, g38, g39, g40, g41, g42, g43, m3⟩ := id hC
    refine G_iload hk dX6_numbers_21 rfl ?_
    refine G_bipush (v := 9) hk dX6_numbers_23 (by decide) ?_
    refine G_icmp_gt (tgt := 64) hk dX6_numbers_25 (by decide) (fun c_25 => ?_) (fun c_25 => ?_)
    · try simp only [gB_ne, gB_eq, Decidable.not_not] at c_25
      have hgt : 9 < t := (nlt (a := 9) (by omega) (by omega)).mp c_25
      have hte : t = 10 := by omega
      subst hte
      refine G_aload_n (i := 0) hk dX6_numbers_64 rfl rfl ?_
      refine G_get hk fX6_19 dX6_numbers_65 (by assumption) (by rfl) (by first | decide | omega) ?_
      refine G_iconst (v := 5) hk dX6_numbers_68 (by decide) ?_
      refine G_iload_n (i := 1) hk dX6_numbers_69 rfl rfl ?_
      refine G_imul hk dX6_numbers_70 ?_
      rw [nI_5]
      refine G_iconst (v := 2) hk dX6_numbers_71 (by decide) ?_
      refine G_iadd hk dX6_numbers_72 ?_
      refine G_iload_n (i := 2) hk dX6_numbers_73 rfl rfl ?_
      refine G_iastX (j := (5 * j + 2)) hk dX6_numbers_74 (by assumption) (nI_add _ 2) (by omega) (by decide) (by first | decide | omega) ?_
      rw [upd_upd]
      refine G_iload_n (i := 3) hk dX6_numbers_75 rfl rfl ?_
      refine G_iret hk dX6_numbers_76 ?_
      have hC1 := hC.s_pa (upd pa (5 * j + 2) (pR pa j 2))
      rw [show upd pa (5 * j + 2) (pR pa j 2) = pa from upd_id pa (5 * j + 2)] at hC1 ⊢
      exact ⟨hc, _, _, _, hC1, hfr.tr (frM.up (by omega))⟩
    · try simp only [gB_ne, gB_eq, Decidable.not_not] at c_25
      have hle : t ≤ 9 := Nat.le_of_not_lt (fun z => c_25 ((nlt (a := 9) (by omega) (by omega)).mpr z))
      refine G_aload_n (i := 0) hk dX6_numbers_28 rfl rfl ?_
      refine G_get hk fX6_19 dX6_numbers_29 (by assumption) (by rfl) (by first | decide | omega) ?_
      refine G_iconst (v := 5) hk dX6_numbers_32 (by decide) ?_
      refine G_iload_n (i := 1) hk dX6_numbers_33 rfl rfl ?_
      refine G_imul hk dX6_numbers_34 ?_
      rw [nI_5]
      refine G_iconst (v := 2) hk dX6_numbers_35 (by decide) ?_
      refine G_iadd hk dX6_numbers_36 ?_
      refine G_iload hk dX6_numbers_37 rfl ?_
      refine G_iastX (j := (5 * j + 2)) hk dX6_numbers_39 (by assumption) (nI_add _ 2) (by omega) (by decide) (by first | decide | omega) ?_
      rw [upd_upd]
      have hC1 := hC.s_pa (upd pa (5 * j + 2) (nI t))
      rw [show va_up E 38 (gI V 35 (upd pa (5 * j + 2) (nI t))) = va_up E 38 (gI V 35 (upd pa (5 * j + 2) (nI t))) from rfl] at *
      have f1 := hfr.tr (frM.up (E := E) (k := 38) (c := gI V 35 (upd pa (5 * j + 2) (nI t))) (by omega))
      generalize va_up E 38 (gI V 35 (upd pa (5 * j + 2) (nI t))) = E1 at hC1 f1 ⊢
      clear m0 g35 g36 g37 g38 g39 g40 g41 g42 g43
      obtain ⟨m0, g35, g36, g37, g38, g39, g40, g41, g42, g43, m3⟩ := id hC1
      have ho1 : ∀ i, i < n → rOk (pR (upd pa (5 * j + 2) (nI t)) i) := fun i hi => rOk_cw (pR_N i) (rOk_N ho hj (by omega) hle i hi)
      refine G_iload_n (i := 3) hk dX6_numbers_40 rfl rfl ?_
      refine G_aload_n (i := 0) hk dX6_numbers_41 rfl rfl ?_
      refine G_cVi hk (c_X6_areSo l V ad E1 fa tr at1 rr dn wo rd n so sl ce (upd pa (5 * j + 2) (nI t)) rz dl ke p2 w2 hC1 hr8 ho1) mX6_areSo vX6_areSo kX6_165 dX6_numbers_42 (by assumption) (by rfl) (by first | decide | omega) rfl (by decide) (by decide) rfl (Nat.le_of_ble_eq_true rfl) (fun r_42 E_42 h_42 => ?_)
      obtain ⟨rfl, hX⟩ := h_42
      obtain ⟨dn2, wo2, dl2, hM2⟩ := hX.2
      have hC2 := hC1.ex hX.1 hM2
      have f2 := f1.tr (frM.ex hX.1)
      refine G_if_eq (tgt := 55) hk dX6_numbers_45 (by decide) (fun c_45 => ?_) (fun c_45 => ?_)
      · try simp only [gB_ne, gB_eq, Decidable.not_not] at c_45
        refine G_iconst (v := 0) hk dX6_numbers_55 (by decide) ?_
        refine G_ior hk dX6_numbers_56 ?_
        refine G_istore_n (i := 3) hk dX6_numbers_57 rfl (by decide) rfl ?_
        refine G_iinc (v := nI (t + 1)) hk dX6_numbers_58 rfl (nI_inc t) (by decide) rfl ?_
        refine G_goto (tgt := 21) hk dX6_numbers_61 (by decide) ?_
        refine G_lv (by exact And.intro rfl (And.intro rfl (And.intro rfl (And.intro rfl (And.intro rfl (trivial)))))) (ih (t + 1) _ (nI t) _ _ _ _ (by omega) (by omega) (by omega) hC2 f2 ?_)
        have hs : sNs (pR pa) n rd p2 w2 j t = sSo (pR (upd pa (5 * j + 2) (nI t))) n rd p2 w2 := ((if_neg (by omega)).trans (sSo_ag (fun i hi q hq => (pR_N i q hq).symm) (fun q hq => ⟨rfl, rfl⟩)))
        first | (rw [hc, sBits, hs, if_pos c_45]; done) | (rw [hc, or_z, sBits, hs, if_neg c_45]; done)
      · try simp only [gB_ne, gB_eq, Decidable.not_not] at c_45
        refine G_iconst (v := 1) hk dX6_numbers_48 (by decide) ?_
        refine G_iload hk dX6_numbers_49 rfl ?_
        refine G_ishl hk dX6_numbers_51 ?_
        refine G_goto (tgt := 56) hk dX6_numbers_52 (by decide) ?_
        refine G_ior hk dX6_numbers_56 ?_
        refine G_istore_n (i := 3) hk dX6_numbers_57 rfl (by decide) rfl ?_
        refine G_iinc (v := nI (t + 1)) hk dX6_numbers_58 rfl (nI_inc t) (by decide) rfl ?_
        refine G_goto (tgt := 21) hk dX6_numbers_61 (by decide) ?_
        refine G_lv (by exact And.intro rfl (And.intro rfl (And.intro rfl (And.intro rfl (And.intro rfl (trivial)))))) (ih (t + 1) _ (nI t) _ _ _ _ (by omega) (by omega) (by omega) hC2 f2 ?_)
        have hs : sNs (pR pa) n rd p2 w2 j t = sSo (pR (upd pa (5 * j + 2) (nI t))) n rd p2 w2 := ((if_neg (by omega)).trans (sSo_ag (fun i hi q hq => (pR_N i q hq).symm) (fun q hq => ⟨rfl, rfl⟩)))
        first | (rw [hc, sBits, hs, if_pos c_45]; done) | (rw [hc, or_z, sBits, hs, if_neg c_45]; done)

set_option maxHeartbeats 4000000 in
set_option maxRecDepth 100000 in
theorem c_X6_numbers (l : Launch) (V : gV) (ad : Nat → Nat) (E : Nat → va_E) (n rd : Nat) (R : Nat → Nat → Int32) (rp rw : Nat → Int32) (tr fa : Int32) (la : Nat → Int32) (sz : Nat → Nat) (cl : Nat → Nat → Int32) (hR : mR V ad E (n, R, rd, rp, rw, tr, fa, la, sz, cl)) (ho0 : sOk n R) (r : Int32) : Ct l V ad 44 44 yX6_numbers cX6_numbers 5 (some .int) { frames := 4, cells := 0, slots := 0, locals := 91 } [.ref (ad 34), .int r] E (pI ad (fun v E2 => v = vNumbers n R rd rp rw r ∧ mR V ad E2 (n, R, rd, rp, rw, tr, fa, la, sz, cl) ∧ frM E E2)) := by
  refine gCt mX6_numbers (Nat.le_of_ble_eq_true rfl) ?_
  intro K hk
  obtain ⟨at1, rr, dn, wo, so, sl, ce, pa, rz, dl, ke, p2, w2, hC, hrd8, hag, hrd, hso, hsl, hsz⟩ := id hR
  obtain ⟨m0, g35, g36, g37, g38, g39, g40, g41, g42, g43, m3⟩ := id hC
  have hM := hC.k
  have ho : ∀ i, i < n → rOk (pR pa i) := fun i hi => rOk_cw (hag i hi) (ho0 i hi)
  have hn0 : nI n = 0 ↔ n = 0 := neq (b := 0) (by omega) (by omega)
  refine G_aload_n (i := 0) hk dX6_numbers_0 rfl rfl ?_
  refine G_iload_n (i := 1) hk dX6_numbers_1 rfl rfl ?_
  refine G_cVi hk (c_X6_isRule l V ad E fa tr at1 rr (nI rd) n pa dn wo dl hM r) mX6_isRule vX6_isRule kX6_116 dX6_numbers_2 (by assumption) (by rfl) (by first | decide | omega) rfl (by decide) (by decide) rfl (Nat.le_of_ble_eq_true rfl) (fun r_2 E_2 h_2 => ?_)
  obtain ⟨rfl, rfl⟩ := h_2
  refine G_if_ne (tgt := 10) hk dX6_numbers_5 (by decide) (fun c_5 => ?_) (fun c_5 => ?_)
  · try simp only [gB_ne, gB_eq, Decidable.not_not] at c_5
    obtain ⟨j, hj, rfl⟩ := gIx (Int32.not_lt.mpr c_5.1) c_5.2 (by omega)
    have hix : ix (nI j) = j := ix_nI (by omega)
    have haj := hag j hj
    refine G_aload_n (i := 0) hk dX6_numbers_10 rfl rfl ?_
    refine G_iload_n (i := 1) hk dX6_numbers_11 rfl rfl ?_
    refine G_cVi hk (c_X6_numberOf l V ad E fa tr at1 rr (nI rd) n pa dn wo dl hM j (by omega)) mX6_numberOf vX6_numberOf kX6_54 dX6_numbers_12 (by assumption) (by rfl) (by first | decide | omega) rfl (by decide) (by decide) rfl (Nat.le_of_ble_eq_true rfl) (fun r_12 E_12 h_12 => ?_)
    obtain ⟨rfl, rfl⟩ := h_12
    refine G_istore_n (i := 2) hk dX6_numbers_15 rfl (by decide) rfl ?_
    refine G_iconst (v := 0) hk dX6_numbers_16 (by decide) ?_
    refine G_istore_n (i := 3) hk dX6_numbers_17 rfl (by decide) rfl ?_
    refine G_iconst (v := 1) hk dX6_numbers_18 (by decide) ?_
    refine G_istore hk dX6_numbers_19 (by decide) rfl ?_
    have hl := lp_X6_numbers hk E fa tr at1 rr rd n so sl ce pa rz ke p2 w2 hrd8 ho j hj m3 11 1 0 (pR pa j 2) dn wo dl E (by omega) (by omega) (by omega) (by rw [show upd pa (5 * j + 2) (pR pa j 2) = pa from upd_id pa (5 * j + 2)]; exact hC) frM.rf (by rfl)
    refine G_lv (by exact And.intro rfl (And.intro rfl (And.intro rfl (And.intro rfl (And.intro rfl (trivial)))))) (G_post hl ?_)
    rintro r a E2 ⟨v, rfl, rfl, rfl, dn2, wo2, dl2, hC2, f2⟩
    refine ⟨_, rfl, rfl, ?_, ⟨_, _, _, _, _, _, _, _, _, _, _, _, _, hC2, hrd8, hag, hrd, hso, hsl, hsz⟩, f2⟩
    unfold vNumbers
    rw [if_pos c_5, hix]
    exact (sBits_cong _ (fun t ht => by unfold sNs; rw [sSo_ag (rN_cw hj (fun i hi q hq => (hag i hi q hq).symm)) (fun q hq => ⟨(hrd q hq).1.symm, (hrd q hq).2.symm⟩)])).symm
  · try simp only [gB_ne, gB_eq, Decidable.not_not] at c_5
    refine G_iconst (v := (-1)) hk dX6_numbers_8 (by decide) ?_
    refine G_iret hk dX6_numbers_9 ?_
    exact ⟨by unfold vNumbers; rw [if_neg c_5], hR, frM.rf⟩

set_option maxHeartbeats 4000000 in
set_option maxRecDepth 100000 in
theorem lp_X6_inLeastTerms {l : Launch} {V : gV} {ad : Nat → Nat} {K : gX} (hk : gOk l { frames := 0, cells := 0, slots := 0, locals := 0 } K V cX6_inLeastTerms 11 RX6 (some .long) yX6_inLeastTerms.name) (E : Nat → va_E) (u g : Nat) (hu : u ≤ 26) (w : Int32) (hg : 0 < g) : ∀ (k a b : Nat), b < k → a ≤ 26 → b ≤ 26 → Nat.gcd a b = g → G K V 11 (gQ K V 44 0 0 (pJ ad (fun v E2 => v = (if w = 0 then lN (u / g) else lN (26 / g)) ∧ E = E2))) ad 44 0 0 6 [(0, .long (lN u)), (2, .long (lN 26)), (4, .int w), (5, .long (lN a)), (7, .long (lN b))] [] E := by
  intro k
  induction k with
  | zero => intro a b hb; omega
  | succ k ih =>
    intro a b hb ha26 hb26 hgc
    refine G_lload hk dX6_inLeastTerms_6 rfl ?_
    refine G_lconst (v := 0) hk dX6_inLeastTerms_8 (by decide) ?_
    refine G_lcmp hk dX6_inLeastTerms_9 ?_
    refine G_if_eq (tgt := 31) hk dX6_inLeastTerms_10 (by decide) (fun c_10 => ?_) (fun c_10 => ?_)
    · try simp only [gB_ne, gB_eq, Decidable.not_not] at c_10
      have hb0 : b = 0 := (lg_cmp0 (by omega)).mp c_10
      rw [hb0, Nat.gcd_zero_right] at hgc
      subst hgc
      have hnz : ¬ lN a = 0 := fun q => absurd ((pk_lEQ (a := a) (b := 0) (by omega) (by omega)).mp q) (by omega)
      refine G_iload hk dX6_inLeastTerms_31 rfl ?_
      refine G_if_ne (tgt := 43) hk dX6_inLeastTerms_33 (by decide) (fun c_33 => ?_) (fun c_33 => ?_)
      · try simp only [gB_ne, gB_eq, Decidable.not_not] at c_33
        refine G_lload_n (i := 2) hk dX6_inLeastTerms_43 rfl rfl ?_
        refine G_lload hk dX6_inLeastTerms_44 rfl ?_
        refine G_ldiv hk dX6_inLeastTerms_46 hnz ?_
        rw [pk_lDiv (by omega) (by omega) (by omega)]
        refine G_lret hk dX6_inLeastTerms_47 ?_
        exact ⟨(if_neg c_33).symm, rfl⟩
      · try simp only [gB_ne, gB_eq, Decidable.not_not] at c_33
        refine G_lload_n (i := 0) hk dX6_inLeastTerms_36 rfl rfl ?_
        refine G_lload hk dX6_inLeastTerms_37 rfl ?_
        refine G_ldiv hk dX6_inLeastTerms_39 hnz ?_
        rw [pk_lDiv (by omega) (by omega) (by omega)]
        refine G_goto (tgt := 47) hk dX6_inLeastTerms_40 (by decide) ?_
        refine G_lret hk dX6_inLeastTerms_47 ?_
        exact ⟨(if_pos (by first | exact c_33 | exact Decidable.not_not.mp c_33)).symm, rfl⟩
    · try simp only [gB_ne, gB_eq, Decidable.not_not] at c_10
      have hb0 : ¬ b = 0 := fun q => c_10 ((lg_cmp0 (by omega)).mpr q)
      have hnz : ¬ lN b = 0 := fun q => absurd ((pk_lEQ (a := b) (b := 0) (by omega) (by omega)).mp q) hb0
      have hmod : a % b < b := Nat.mod_lt _ (by omega)
      refine G_lload hk dX6_inLeastTerms_13 rfl ?_
      refine G_lload hk dX6_inLeastTerms_15 rfl ?_
      refine G_lrem hk dX6_inLeastTerms_17 hnz ?_
      rw [pk_lRem (by omega) (by omega) (by omega)]
      refine G_lstore hk dX6_inLeastTerms_18 (by decide) rfl rfl ?_
      refine G_lload hk dX6_inLeastTerms_20 rfl ?_
      refine G_lstore hk dX6_inLeastTerms_22 (by decide) rfl rfl ?_
      refine G_lload hk dX6_inLeastTerms_24 rfl ?_
      refine G_lstore hk dX6_inLeastTerms_26 (by decide) rfl rfl ?_
      refine G_goto (tgt := 6) hk dX6_inLeastTerms_28 (by decide) ?_
      exact G_lv (by exact And.intro rfl (And.intro rfl (And.intro rfl (And.intro rfl (And.intro rfl (trivial)))))) (ih b (a % b) (by omega) (by omega) (by omega) (by rw [← hgc, Nat.gcd_comm a b, Nat.gcd_rec b a]; exact Nat.gcd_comm _ _))

set_option maxHeartbeats 4000000 in
set_option maxRecDepth 100000 in
theorem c_X6_inLeastTerms (l : Launch) (V : gV) (ad : Nat → Nat) (E : Nat → va_E) (u : Nat) (hu : u ≤ 26) (w : Int32) : Ct l V ad 44 44 yX6_inLeastTerms cX6_inLeastTerms 11 (some .long) { frames := 0, cells := 0, slots := 0, locals := 0 } [.long (lN u), .long (lN 26), .int w] E (pJ ad (fun v E2 => v = (if w = 0 then lN (u / Nat.gcd u 26) else lN (26 / Nat.gcd u 26)) ∧ E = E2)) := by
  refine gCt mX6_inLeastTerms (Nat.le_of_ble_eq_true rfl) ?_
  intro K hk
  refine G_lload_n (i := 0) hk dX6_inLeastTerms_0 rfl rfl ?_
  refine G_lstore hk dX6_inLeastTerms_1 (by decide) rfl rfl ?_
  refine G_lload_n (i := 2) hk dX6_inLeastTerms_3 rfl rfl ?_
  refine G_lstore hk dX6_inLeastTerms_4 (by decide) rfl rfl ?_
  exact G_lv (by exact And.intro rfl (And.intro rfl (And.intro rfl (And.intro rfl (And.intro rfl (trivial)))))) (lp_X6_inLeastTerms hk E u _ hu w (Nat.gcd_pos_of_pos_right u (by omega)) 27 u 26 (by omega) (by omega) (by omega) rfl)

set_option maxHeartbeats 4000000 in
set_option maxRecDepth 100000 in
theorem lp_X6_odds {l : Launch} {V : gV} {ad : Nat → Nat} {K : gX} (hk : gOk l { frames := 3, cells := 0, slots := 0, locals := 70 } K V cX6_odds 5 RX6 (some .long) yX6_odds.name) (E0 : Nat → va_E) (fa tr at1 rr rd : Int32) (n : Nat) (pa : Nat → Int32) (ho : ∀ i, i < n → rOk (pR pa i)) (v w : Int32) : ∀ (k x : Nat) (c : Int32) (E : Nat → va_E), 26 < x + k → x ≤ 26 → mX V ad E0 fa tr at1 rr rd n pa E → c = nI (fa_cnt (sCp (pR pa) n v) x) → 0 ≤ v → G K V 5 (gQ K V 44 0 0 (pJ ad (fun z E2 => z = (if w = 0 then lN (sCw (pR pa) n v / Nat.gcd (sCw (pR pa) n v) 26) else lN (26 / Nat.gcd (sCw (pR pa) n v) 26)) ∧ mX V ad E0 fa tr at1 rr rd n pa E2))) ad 44 0 0 36 [(0, .ref (ad 34)), (1, .int v), (2, .int w), (3, .int c), (4, .int (nI x))] [] E := by
  intro k
  induction k with
  | zero => intro x c E hx; omega
  | succ k ih =>
    intro x c E hx hx26 hX hc hv0
    obtain ⟨dn, wo, dl, hM⟩ := hX.2
    obtain ⟨m0, m1, m2, m3⟩ := id hM
    refine G_iload hk dX6_odds_36 rfl ?_
    refine G_bipush (v := 26) hk dX6_odds_38 (by decide) ?_
    refine G_icmp_ge (tgt := 80) hk dX6_odds_40 (by decide) (fun c_40 => ?_) (fun c_40 => ?_)
    · try simp only [gB_ne, gB_eq, Decidable.not_not] at c_40
      have hge : 26 ≤ x := (nle (a := 26) (by omega) (by omega)).mp c_40
      have hxe : x = 26 := by omega
      subst hxe
      refine G_iload_n (i := 3) hk dX6_odds_80 rfl rfl ?_
      have hcw : sCw (pR pa) n v ≤ 26 := fa_cnt_le _ 26
      have hce : c = nI (sCw (pR pa) n v) := hc
      rw [hce]
      refine G_i2l hk dX6_odds_81 ?_
      rw [nI_l (show sCw (pR pa) n v < 2 ^ 31 by omega)]
      refine G_ldc2 (v := lN 26) hk jcX6_169 dX6_odds_82 ?_
      refine G_iload_n (i := 2) hk dX6_odds_85 rfl rfl ?_
      refine G_cSl hk (c_X6_inLeastTerms l V ad E (sCw (pR pa) n v) hcw w) mX6_inLeastTerms sX6_inLeastTerms kX6_171 dX6_odds_86 rfl (by decide) (by decide) rfl (Nat.le_of_ble_eq_true rfl) (fun r_86 E_86 h_86 => ?_)
      obtain ⟨rfl, rfl⟩ := h_86
      refine G_lret hk dX6_odds_89 ?_
      exact ⟨rfl, hX⟩
    · try simp only [gB_ne, gB_eq, Decidable.not_not] at c_40
      have hlt : x < 26 := Nat.lt_of_not_le (fun q => c_40 ((nle (a := 26) (by omega) (by omega)).mpr q))
      refine G_aload_n (i := 0) hk dX6_odds_43 rfl rfl ?_
      refine G_iload hk dX6_odds_44 rfl ?_
      refine G_bipush (v := (-9)) hk dX6_odds_46 (by decide) ?_
      refine G_cVv hk (c_X6_asks l V ad E fa tr at1 rr rd n pa dn wo dl hM ho 99 (-9) hw99' (nI x)) mX6_asks vX6_asks kX6_132 dX6_odds_48 (by assumption) (by rfl) (by first | decide | omega) rfl (by decide) (by decide) rfl (Nat.le_of_ble_eq_true rfl) (fun E_48 h_48 => ?_)
      have hX2 := hX.tr h_48.x
      obtain ⟨-, dl2, hM2, -⟩ := h_48
      obtain ⟨m20, m21, m22, -⟩ := id hM2
      have hln : (sAn (pR pa) 99 n 0 (nI x)).2.length ≤ 8 := Nat.le_trans sAn_len (by omega)
      have hpos : nI (sAn (pR pa) 99 n 0 (nI x)).2.length ≤ 0 ↔ (sAn (pR pa) 99 n 0 (nI x)).2 = [] := (nle (b := 0) (by omega) (by omega)).trans (by rw [Nat.le_zero, List.length_eq_zero_iff])
      refine G_iload_n (i := 3) hk dX6_odds_51 rfl rfl ?_
      refine G_aload_n (i := 0) hk dX6_odds_52 rfl rfl ?_
      refine G_get hk fX6_97 dX6_odds_53 (by assumption) (by rfl) (by first | decide | omega) ?_
      have hz : nI (sAn (pR pa) 99 n 0 (nI x)).2.length = 0 ↔ (sAn (pR pa) 99 n 0 (nI x)).2 = [] := (neq (b := 0) (by omega) (by omega)).trans List.length_eq_zero_iff
      refine G_if_ne (tgt := 71) hk dX6_odds_56 (by decide) (fun c_56 => ?_) (fun c_56 => ?_)
      · try simp only [gB_ne, gB_eq, Decidable.not_not] at c_56
        refine G_iconst (v := 0) hk dX6_odds_71 (by decide) ?_
        refine G_iadd hk dX6_odds_72 ?_
        refine G_istore_n (i := 3) hk dX6_odds_73 rfl (by decide) rfl ?_
        refine G_iinc (v := nI (x + 1)) hk dX6_odds_74 rfl (nI_inc x) (by decide) rfl ?_
        refine G_goto (tgt := 36) hk dX6_odds_77 (by decide) ?_
        refine G_lv (by exact And.intro rfl (And.intro rfl (And.intro rfl (And.intro rfl (And.intro rfl (trivial)))))) (ih (x + 1) _ _ (by omega) (by omega) hX2 ?_ hv0)
        first
          | (rw [hc, Int32.add_zero, fa_cnt_no (sCp_n1 (show sX (pR pa) n x = -9 from (sX_iff m3 ho (nI x)).mpr (fun q => c_56 (hz.mpr q))))]; done)
          | (rw [hc, Int32.add_zero, fa_cnt_no (sCp_n2 (show sX (pR pa) n x < v from c_64))]; done)
          | (rw [hc, nI_i1, fa_cnt_yes (sCp_y (show ¬ sX (pR pa) n x = -9 from fun q => (sX_iff m3 ho (nI x)).mp q he) (show ¬ sX (pR pa) n x < v from c_64))]; done)
      · try simp only [gB_ne, gB_eq, Decidable.not_not] at c_56
        have he := hz.mp (by first | exact c_56 | exact Decidable.not_not.mp c_56)
        refine G_aload_n (i := 0) hk dX6_odds_59 rfl rfl ?_
        refine G_get hk fX6_100 dX6_odds_60 (by assumption) (by rfl) (by first | decide | omega) ?_
        refine G_iload_n (i := 1) hk dX6_odds_63 rfl rfl ?_
        refine G_icmp_lt (tgt := 71) hk dX6_odds_64 (by decide) (fun c_64 => ?_) (fun c_64 => ?_)
        · try simp only [gB_ne, gB_eq, Decidable.not_not] at c_64
          refine G_iconst (v := 0) hk dX6_odds_71 (by decide) ?_
          refine G_iadd hk dX6_odds_72 ?_
          refine G_istore_n (i := 3) hk dX6_odds_73 rfl (by decide) rfl ?_
          refine G_iinc (v := nI (x + 1)) hk dX6_odds_74 rfl (nI_inc x) (by decide) rfl ?_
          refine G_goto (tgt := 36) hk dX6_odds_77 (by decide) ?_
          refine G_lv (by exact And.intro rfl (And.intro rfl (And.intro rfl (And.intro rfl (And.intro rfl (trivial)))))) (ih (x + 1) _ _ (by omega) (by omega) hX2 ?_ hv0)
          first
            | (rw [hc, Int32.add_zero, fa_cnt_no (sCp_n1 (show sX (pR pa) n x = -9 from (sX_iff m3 ho (nI x)).mpr (fun q => c_56 (hz.mpr q))))]; done)
            | (rw [hc, Int32.add_zero, fa_cnt_no (sCp_n2 (show sX (pR pa) n x < v from c_64))]; done)
            | (rw [hc, nI_i1, fa_cnt_yes (sCp_y (show ¬ sX (pR pa) n x = -9 from fun q => (sX_iff m3 ho (nI x)).mp q he) (show ¬ sX (pR pa) n x < v from c_64))]; done)
        · try simp only [gB_ne, gB_eq, Decidable.not_not] at c_64
          refine G_iconst (v := 1) hk dX6_odds_67 (by decide) ?_
          refine G_goto (tgt := 72) hk dX6_odds_68 (by decide) ?_
          refine G_iadd hk dX6_odds_72 ?_
          refine G_istore_n (i := 3) hk dX6_odds_73 rfl (by decide) rfl ?_
          refine G_iinc (v := nI (x + 1)) hk dX6_odds_74 rfl (nI_inc x) (by decide) rfl ?_
          refine G_goto (tgt := 36) hk dX6_odds_77 (by decide) ?_
          refine G_lv (by exact And.intro rfl (And.intro rfl (And.intro rfl (And.intro rfl (And.intro rfl (trivial)))))) (ih (x + 1) _ _ (by omega) (by omega) hX2 ?_ hv0)
          first
            | (rw [hc, Int32.add_zero, fa_cnt_no (sCp_n1 (show sX (pR pa) n x = -9 from (sX_iff m3 ho (nI x)).mpr (fun q => c_56 (hz.mpr q))))]; done)
            | (rw [hc, Int32.add_zero, fa_cnt_no (sCp_n2 (show sX (pR pa) n x < v from c_64))]; done)
            | (rw [hc, nI_i1, fa_cnt_yes (sCp_y (show ¬ sX (pR pa) n x = -9 from fun q => (sX_iff m3 ho (nI x)).mp q he) (show ¬ sX (pR pa) n x < v from c_64))]; done)

set_option maxHeartbeats 4000000 in
set_option maxRecDepth 100000 in
theorem c_X6_odds (l : Launch) (V : gV) (ad : Nat → Nat) (E : Nat → va_E) (n rd : Nat) (R : Nat → Nat → Int32) (rp rw : Nat → Int32) (tr fa : Int32) (la : Nat → Int32) (sz : Nat → Nat) (cl : Nat → Nat → Int32) (hR : mR V ad E (n, R, rd, rp, rw, tr, fa, la, sz, cl)) (ho0 : sOk n R) (v w : Int32) : Ct l V ad 44 44 yX6_odds cX6_odds 5 (some .long) { frames := 3, cells := 0, slots := 0, locals := 70 } [.ref (ad 34), .int v, .int w] E (pJ ad (fun z E2 => z = vOdds n R v w ∧ mR V ad E2 (n, R, rd, rp, rw, tr, fa, la, sz, cl) ∧ frM E E2)) := by
  refine gCt mX6_odds (Nat.le_of_ble_eq_true rfl) ?_
  intro K hk
  obtain ⟨at1, rr, dn, wo, so, sl, ce, pa, rz, dl, ke, p2, w2, hC, hrd8, hag, hrd, hso, hsl, hsz⟩ := id hR
  obtain ⟨m0, g35, g36, g37, g38, g39, g40, g41, g42, g43, m3⟩ := id hC
  have hM := hC.k
  have ho : ∀ i, i < n → rOk (pR pa i) := fun i hi => rOk_cw (hag i hi) (ho0 i hi)
  have hn0 : nI n = 0 ↔ n = 0 := neq (b := 0) (by omega) (by omega)
  refine G_iload_n (i := 1) hk dX6_odds_0 rfl rfl ?_
  refine G_iconst (v := 0) hk dX6_odds_1 (by decide) ?_
  refine G_sipush (v := 200) hk dX6_odds_2 (by decide) ?_
  refine G_cSi hk (c_X6_within l V ad E v 0 200) mX6_within sX6_within kX6_43 dX6_odds_5 rfl (by decide) (by decide) rfl (Nat.le_of_ble_eq_true rfl) (fun r_5 E_5 h_5 => ?_)
  obtain ⟨rfl, rfl⟩ := h_5
  refine G_if_eq (tgt := 27) hk dX6_odds_8 (by decide) (fun c_8 => ?_) (fun c_8 => ?_)
  · try simp only [gB_ne, gB_eq, Decidable.not_not] at c_8
    refine G_ldc2 (v := sLost) hk jcX6_41 dX6_odds_27 ?_
    refine G_lret hk dX6_odds_30 ?_
    exact ⟨by unfold vOdds; rw [if_neg (fun z => c_8 z.1)], hR, frM.rf⟩
  · try simp only [gB_ne, gB_eq, Decidable.not_not] at c_8
    refine G_iload_n (i := 2) hk dX6_odds_11 rfl rfl ?_
    refine G_iconst (v := 0) hk dX6_odds_12 (by decide) ?_
    refine G_iconst (v := 1) hk dX6_odds_13 (by decide) ?_
    refine G_cSi hk (c_X6_within l V ad E w 0 1) mX6_within sX6_within kX6_43 dX6_odds_14 rfl (by decide) (by decide) rfl (Nat.le_of_ble_eq_true rfl) (fun r_14 E_14 h_14 => ?_)
    obtain ⟨rfl, rfl⟩ := h_14
    refine G_if_eq (tgt := 27) hk dX6_odds_17 (by decide) (fun c_17 => ?_) (fun c_17 => ?_)
    · try simp only [gB_ne, gB_eq, Decidable.not_not] at c_17
      refine G_ldc2 (v := sLost) hk jcX6_41 dX6_odds_27 ?_
      refine G_lret hk dX6_odds_30 ?_
      exact ⟨by unfold vOdds; rw [if_neg (fun z => c_17 z.2)], hR, frM.rf⟩
    · try simp only [gB_ne, gB_eq, Decidable.not_not] at c_17
      refine G_aload_n (i := 0) hk dX6_odds_20 rfl rfl ?_
      refine G_get hk fX6_47 dX6_odds_21 (by assumption) (by rfl) (by first | decide | omega) ?_
      refine G_if_ne (tgt := 31) hk dX6_odds_24 (by decide) (fun c_24 => ?_) (fun c_24 => ?_)
      · try simp only [gB_ne, gB_eq, Decidable.not_not] at c_24
        have hn : ¬ n = 0 := fun q => c_24 (hn0.mpr q)
        refine G_iconst (v := 0) hk dX6_odds_31 (by decide) ?_
        refine G_istore_n (i := 3) hk dX6_odds_32 rfl (by decide) rfl ?_
        refine G_iconst (v := 0) hk dX6_odds_33 (by decide) ?_
        refine G_istore hk dX6_odds_34 (by decide) rfl ?_
        have hl := lp_X6_odds hk E fa tr at1 rr (nI rd) n pa ho v w 27 0 0 E (by omega) (by omega) ⟨exM.rf, dn, wo, dl, hM⟩ rfl c_8.1
        refine G_lv (by exact And.intro rfl (And.intro rfl (And.intro rfl (And.intro rfl (And.intro rfl (trivial)))))) (G_post hl ?_)
        rintro r a E2 ⟨z, rfl, rfl, rfl, hX⟩
        refine ⟨_, rfl, rfl, ?_, ⟨_, _, _, _, _, _, _, _, _, _, _, _, _, hC.ex hX.1 hX.2.choose_spec.choose_spec.choose_spec, hrd8, hag, hrd, hso, hsl, hsz⟩, frM.ex hX.1⟩
        unfold vOdds
        rw [if_pos (show (0 ≤ v ∧ v ≤ 200) ∧ (0 ≤ w ∧ w ≤ 1) from ⟨c_8, c_17⟩), if_neg hn, sCw_cw hag]
      · try simp only [gB_ne, gB_eq, Decidable.not_not] at c_24
        have hn : n = 0 := hn0.mp (by first | exact c_24 | exact Decidable.not_not.mp c_24)
        refine G_ldc2 (v := sLost) hk jcX6_41 dX6_odds_27 ?_
        refine G_lret hk dX6_odds_30 ?_
        exact ⟨by unfold vOdds; rw [if_pos ⟨c_8, c_17⟩, if_pos hn], hR, frM.rf⟩
