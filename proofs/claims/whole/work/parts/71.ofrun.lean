theorem sFrn_skip {p : Nat → Bool} {k : Nat} : ∀ y, y ≤ 26 → (∀ x, x < y → ¬ fa_cnt p (x + 1) = k + 1) → sFrn p k 0 = sFrn p k y
  | 0, _, _ => rfl
  | y + 1, h, hx => by rw [sFrn_skip y (by omega) (fun x hh => hx x (by omega)), sFrn_miss (by omega) (hx y (by omega))]
theorem lt_le1 {x : Int32} {r : Nat} (h : r < 100000) : x < nI r ↔ x ≤ nI r - 1 := by
  have e : (nI r - 1).toInt = (r : Int) - 1 := pk_sub_toInt (b := 1) (by omega) (by omega)
  have e2 := nI_toInt (n := r) (by omega)
  rw [fa_lt, fa_le, e, e2]
  omega
theorem sBg_iff {R : Nat → Nat → Int32} {n y : Nat} (h : ¬ y = 0) : sBg R n y = true ↔ ¬ sW R n (nI y) = sW R n (nI (y - 1)) := by
  unfold sBg
  rw [decide_eq_true_iff]
  exact ⟨fun q => q.elim (fun z => absurd z h) id, Or.inr⟩

set_option maxHeartbeats 4000000 in
set_option maxRecDepth 100000 in
theorem le_X6_ofRun {l : Launch} {V : gV} {ad : Nat → Nat} {K : gX} (hk : gOk l { frames := 4, cells := 0, slots := 0, locals := 90 } K V cX6_ofRun 6 RX6 (some .int) yX6_ofRun.name) (E : Nat → va_E) (fa tr at1 rr rd : Int32) (n : Nat) (pa : Nat → Int32) (dn wo : Int32) (dl : Nat → Int32) (hM : mK V ad E fa tr at1 rr rd n pa dn wo dl) (w : Int32) (k0 f m : Nat) (hm : f + m ≤ 26) (hA : sFrn (sBg (pR pa) n) k0 0 = f) (hB : sFrn (sBg (pR pa) n) (k0 + 1) 0 = f + m) :  G K V 6 (gQ K V 44 0 0 (pI ad (pS E (if w = 0 then nI (sFrn (sBg (pR pa) n) k0 0) else if w = 1 then nI (sFrn (sBg (pR pa) n) (k0 + 1) 0) - nI (sFrn (sBg (pR pa) n) k0 0) else if w = 2 then sW (pR pa) n (nI (sFrn (sBg (pR pa) n) k0 0)) else -2)))) ad 44 0 0 89 [(0, .ref (ad 34)), (2, .int w), (3, .int (nI f)), (5, .int (nI m))] [] E := by
  obtain ⟨m0, m1, m2, m3⟩ := id hM
  refine G_iload_n (i := 2) hk dX6_ofRun_89 rfl rfl ?_
  refine G_if_ne (tgt := 97) hk dX6_ofRun_90 (by decide) (fun c_90 => ?_) (fun c_90 => ?_)
  · try simp only [gB_ne, gB_eq, Decidable.not_not] at c_90
    refine G_iload_n (i := 2) hk dX6_ofRun_97 rfl rfl ?_
    refine G_iconst (v := 1) hk dX6_ofRun_98 (by decide) ?_
    refine G_icmp_ne (tgt := 107) hk dX6_ofRun_99 (by decide) (fun c_99 => ?_) (fun c_99 => ?_)
    · try simp only [gB_ne, gB_eq, Decidable.not_not] at c_99
      refine G_iload_n (i := 2) hk dX6_ofRun_107 rfl rfl ?_
      refine G_iconst (v := 2) hk dX6_ofRun_108 (by decide) ?_
      refine G_icmp_ne (tgt := 120) hk dX6_ofRun_109 (by decide) (fun c_109 => ?_) (fun c_109 => ?_)
      · try simp only [gB_ne, gB_eq, Decidable.not_not] at c_109
        refine G_bipush (v := (-2)) hk dX6_ofRun_120 (by decide) ?_
        refine G_iret hk dX6_ofRun_122 ?_
        refine ⟨rfl, ?_⟩
        rw [hA, hB, if_neg c_90, if_neg c_99, if_neg c_109]
      · try simp only [gB_ne, gB_eq, Decidable.not_not] at c_109
        refine G_aload_n (i := 0) hk dX6_ofRun_112 rfl rfl ?_
        refine G_iload_n (i := 3) hk dX6_ofRun_113 rfl rfl ?_
        refine G_cVi hk (c_X6_winnerOf l V ad E fa tr at1 rr rd n pa dn wo dl hM (nI f)) mX6_winnerOf vX6_winnerOf kX6_113 dX6_ofRun_114 (by assumption) (by rfl) (by first | decide | omega) rfl (by decide) (by decide) rfl (Nat.le_of_ble_eq_true rfl) (fun r_114 E_114 h_114 => ?_)
        obtain ⟨rfl, rfl⟩ := h_114
        refine G_goto (tgt := 122) hk dX6_ofRun_117 (by decide) ?_
        refine G_iret hk dX6_ofRun_122 ?_
        refine ⟨rfl, ?_⟩
        rw [hA, hB, if_neg c_90, if_neg c_99, if_pos (by first | exact c_109 | exact Decidable.not_not.mp c_109)]
    · try simp only [gB_ne, gB_eq, Decidable.not_not] at c_99
      refine G_iload hk dX6_ofRun_102 rfl ?_
      refine G_goto (tgt := 122) hk dX6_ofRun_104 (by decide) ?_
      refine G_iret hk dX6_ofRun_122 ?_
      refine ⟨rfl, ?_⟩
      rw [hA, hB, if_neg c_90, if_pos (by first | exact c_99 | exact Decidable.not_not.mp c_99), pk_sub (by omega), Nat.add_sub_cancel_left]
  · try simp only [gB_ne, gB_eq, Decidable.not_not] at c_90
    refine G_iload_n (i := 3) hk dX6_ofRun_93 rfl rfl ?_
    refine G_goto (tgt := 122) hk dX6_ofRun_94 (by decide) ?_
    refine G_iret hk dX6_ofRun_122 ?_
    refine ⟨rfl, ?_⟩
    rw [hA, hB, if_pos (by first | exact c_90 | exact Decidable.not_not.mp c_90)]

set_option maxHeartbeats 4000000 in
set_option maxRecDepth 100000 in
theorem l2_X6_ofRun {l : Launch} {V : gV} {ad : Nat → Nat} {K : gX} (hk : gOk l { frames := 4, cells := 0, slots := 0, locals := 90 } K V cX6_ofRun 6 RX6 (some .int) yX6_ofRun.name) (E : Nat → va_E) (fa tr at1 rr rd : Int32) (n : Nat) (pa : Nat → Int32) (dn wo : Int32) (dl : Nat → Int32) (hM : mK V ad E fa tr at1 rr rd n pa dn wo dl) (w : Int32) (k0 f : Nat) (hA : sFrn (sBg (pR pa) n) k0 0 = f) : ∀ (k m : Nat), 26 < f + m + k → 1 ≤ m → f + m ≤ 26 → fa_cnt (sBg (pR pa) n) (f + m) = k0 + 1 → sW (pR pa) n (nI (f + m - 1)) = sW (pR pa) n (nI f) → sFrn (sBg (pR pa) n) (k0 + 1) 0 = sFrn (sBg (pR pa) n) (k0 + 1) (f + m) → G K V 6 (gQ K V 44 0 0 (pI ad (pS E (if w = 0 then nI (sFrn (sBg (pR pa) n) k0 0) else if w = 1 then nI (sFrn (sBg (pR pa) n) (k0 + 1) 0) - nI (sFrn (sBg (pR pa) n) k0 0) else if w = 2 then sW (pR pa) n (nI (sFrn (sBg (pR pa) n) k0 0)) else -2)))) ad 44 0 0 58 [(0, .ref (ad 34)), (2, .int w), (3, .int (nI f)), (5, .int (nI m))] [] E := by
  obtain ⟨m0, m1, m2, m3⟩ := id hM
  intro k
  induction k with
  | zero => intro m hm; omega
  | succ k ih =>
    intro m hm h1 h26 hc hw hB
    refine G_iload_n (i := 3) hk dX6_ofRun_58 rfl rfl ?_
    refine G_iload hk dX6_ofRun_59 rfl ?_
    refine G_iadd hk dX6_ofRun_61 ?_
    rw [nI_add]
    refine G_bipush (v := 26) hk dX6_ofRun_62 (by decide) ?_
    refine G_icmp_ge (tgt := 89) hk dX6_ofRun_64 (by decide) (fun c_64 => ?_) (fun c_64 => ?_)
    · try simp only [gB_ne, gB_eq, Decidable.not_not] at c_64
      exact G_lv (by exact And.intro rfl (And.intro rfl (And.intro rfl (And.intro rfl (trivial))))) (le_X6_ofRun hk E fa tr at1 rr rd n pa dn wo dl hM w k0 f m (by omega) hA (by rw [hB]; exact sFrn_end ((nle (a := 26) (by omega) (by omega)).mp c_64)))
    · try simp only [gB_ne, gB_eq, Decidable.not_not] at c_64
      have hlt : f + m < 26 := Nat.lt_of_not_le (fun q => c_64 ((nle (a := 26) (by omega) (by omega)).mpr q))
      refine G_aload_n (i := 0) hk dX6_ofRun_67 rfl rfl ?_
      refine G_iload_n (i := 3) hk dX6_ofRun_68 rfl rfl ?_
      refine G_iload hk dX6_ofRun_69 rfl ?_
      refine G_iadd hk dX6_ofRun_71 ?_
      rw [nI_add]
      refine G_cVi hk (c_X6_winnerOf l V ad E fa tr at1 rr rd n pa dn wo dl hM (nI (f + m))) mX6_winnerOf vX6_winnerOf kX6_113 dX6_ofRun_72 (by assumption) (by rfl) (by first | decide | omega) rfl (by decide) (by decide) rfl (Nat.le_of_ble_eq_true rfl) (fun r_72 E_72 h_72 => ?_)
      obtain ⟨rfl, rfl⟩ := h_72
      refine G_aload_n (i := 0) hk dX6_ofRun_75 rfl rfl ?_
      refine G_iload_n (i := 3) hk dX6_ofRun_76 rfl rfl ?_
      refine G_cVi hk (c_X6_winnerOf l V ad E fa tr at1 rr rd n pa dn wo dl hM (nI f)) mX6_winnerOf vX6_winnerOf kX6_113 dX6_ofRun_77 (by assumption) (by rfl) (by first | decide | omega) rfl (by decide) (by decide) rfl (Nat.le_of_ble_eq_true rfl) (fun r_77 E_77 h_77 => ?_)
      obtain ⟨rfl, rfl⟩ := h_77
      refine G_icmp_ne (tgt := 89) hk dX6_ofRun_80 (by decide) (fun c_80 => ?_) (fun c_80 => ?_)
      · try simp only [gB_ne, gB_eq, Decidable.not_not] at c_80
        have hb : sBg (pR pa) n (f + m) = true := by
          rw [sBg_iff (by omega), hw]
          exact c_80
        exact G_lv (by exact And.intro rfl (And.intro rfl (And.intro rfl (And.intro rfl (trivial))))) (le_X6_ofRun hk E fa tr at1 rr rd n pa dn wo dl hM w k0 f m (by omega) hA (by rw [hB]; exact sFrn_hit hlt (by rw [fa_cnt_yes hb, hc])))
      · try simp only [gB_ne, gB_eq, Decidable.not_not] at c_80
        refine G_iinc (v := nI (m + 1)) hk dX6_ofRun_83 rfl (nI_inc m) (by decide) rfl ?_
        refine G_goto (tgt := 58) hk dX6_ofRun_86 (by decide) ?_
        have hb : sBg (pR pa) n (f + m) = false := by
          rw [← Bool.not_eq_true, sBg_iff (by omega), hw]
          exact fun z => z (by first | exact c_80 | exact Decidable.not_not.mp c_80)
        have hc2 : fa_cnt (sBg (pR pa) n) (f + m + 1) = k0 + 1 := by rw [fa_cnt_no hb]; exact hc
        refine G_lv (by exact And.intro rfl (And.intro rfl (And.intro rfl (And.intro rfl (trivial))))) (ih (m + 1) (by omega) (by omega) (by omega) hc2 (by first | exact c_80 | exact Decidable.not_not.mp c_80) ?_)
        rw [hB, sFrn_miss hlt (by omega)]
        rfl

set_option maxHeartbeats 4000000 in
set_option maxRecDepth 100000 in
theorem l1_X6_ofRun {l : Launch} {V : gV} {ad : Nat → Nat} {K : gX} (hk : gOk l { frames := 4, cells := 0, slots := 0, locals := 90 } K V cX6_ofRun 6 RX6 (some .int) yX6_ofRun.name) (E : Nat → va_E) (fa tr at1 rr rd : Int32) (n : Nat) (pa : Nat → Int32) (dn wo : Int32) (dl : Nat → Int32) (hM : mK V ad E fa tr at1 rr rd n pa dn wo dl) (w : Int32) (k0 : Nat) (hk0 : k0 < fa_cnt (sBg (pR pa) n) 26) : ∀ (k f q : Nat), 26 < f + k → f < 26 → fa_cnt (sBg (pR pa) n) (f + 1) + q = k0 + 1 → sFrn (sBg (pR pa) n) k0 0 = sFrn (sBg (pR pa) n) k0 f → G K V 6 (gQ K V 44 0 0 (pI ad (pS E (if w = 0 then nI (sFrn (sBg (pR pa) n) k0 0) else if w = 1 then nI (sFrn (sBg (pR pa) n) (k0 + 1) 0) - nI (sFrn (sBg (pR pa) n) k0 0) else if w = 2 then sW (pR pa) n (nI (sFrn (sBg (pR pa) n) k0 0)) else -2)))) ad 44 0 0 19 [(0, .ref (ad 34)), (2, .int w), (3, .int (nI f)), (4, .int (nI q))] [] E := by
  obtain ⟨m0, m1, m2, m3⟩ := id hM
  intro k
  induction k with
  | zero => intro f q hf; omega
  | succ k ih =>
    intro f q hf hf26 hc hA
    have hkl := fa_cnt_le (sBg (pR pa) n) 26
    refine G_iload hk dX6_ofRun_19 rfl ?_
    refine G_if_le (tgt := 55) hk dX6_ofRun_21 (by decide) (fun c_21 => ?_) (fun c_21 => ?_)
    · try simp only [gB_ne, gB_eq, Decidable.not_not] at c_21
      have hq0 : q = 0 := Nat.le_zero.mp ((nle (b := 0) (by omega) (by omega)).mp c_21)
      subst hq0
      refine G_iconst (v := 1) hk dX6_ofRun_55 (by decide) ?_
      refine G_istore hk dX6_ofRun_56 (by decide) rfl ?_
      have hA2 : sFrn (sBg (pR pa) n) k0 0 = f := by rw [hA]; exact sFrn_hit hf26 hc
      exact G_lv (by exact And.intro rfl (And.intro rfl (And.intro rfl (And.intro rfl (trivial))))) (l2_X6_ofRun hk E fa tr at1 rr rd n pa dn wo dl hM w k0 f hA2 27 1 (by omega) (by omega) (by omega) hc (by rw [Nat.add_sub_cancel]) (sFrn_skip (f + 1) (by omega) (fun x hx => by
        have := fa_cnt_mono (sBg (pR pa) n) (a := x + 1) (b := f + 1) (by omega)
        omega)))
    · try simp only [gB_ne, gB_eq, Decidable.not_not] at c_21
      have hq0 : 0 < q := Nat.lt_of_not_le (fun z => c_21 ((nle (b := 0) (by omega) (by omega)).mpr z))
      have hf2 : f + 1 < 26 := by
        rcases Nat.lt_or_ge (f + 1) 26 with z | z
        · exact z
        · exfalso
          have e : f + 1 = 26 := by omega
          rw [e] at hc
          omega
      have hms : sFrn (sBg (pR pa) n) k0 0 = sFrn (sBg (pR pa) n) k0 (f + 1) := by rw [hA, sFrn_miss hf26 (by omega)]
      have hbi := sBg_iff (R := pR pa) (n := n) (y := f + 1) (by omega)
      rw [Nat.add_sub_cancel] at hbi
      refine G_iinc (v := nI (f + 1)) hk dX6_ofRun_24 rfl (nI_inc f) (by decide) rfl ?_
      refine G_iload hk dX6_ofRun_27 rfl ?_
      refine G_aload_n (i := 0) hk dX6_ofRun_29 rfl rfl ?_
      refine G_iload_n (i := 3) hk dX6_ofRun_30 rfl rfl ?_
      refine G_cVi hk (c_X6_winnerOf l V ad E fa tr at1 rr rd n pa dn wo dl hM (nI (f + 1))) mX6_winnerOf vX6_winnerOf kX6_113 dX6_ofRun_31 (by assumption) (by rfl) (by first | decide | omega) rfl (by decide) (by decide) rfl (Nat.le_of_ble_eq_true rfl) (fun r_31 E_31 h_31 => ?_)
      obtain ⟨rfl, rfl⟩ := h_31
      refine G_aload_n (i := 0) hk dX6_ofRun_34 rfl rfl ?_
      refine G_iload_n (i := 3) hk dX6_ofRun_35 rfl rfl ?_
      refine G_iconst (v := 1) hk dX6_ofRun_36 (by decide) ?_
      refine G_isub hk dX6_ofRun_37 ?_
      rw [nI_pred]
      refine G_cVi hk (c_X6_winnerOf l V ad E fa tr at1 rr rd n pa dn wo dl hM (nI f)) mX6_winnerOf vX6_winnerOf kX6_113 dX6_ofRun_38 (by assumption) (by rfl) (by first | decide | omega) rfl (by decide) (by decide) rfl (Nat.le_of_ble_eq_true rfl) (fun r_38 E_38 h_38 => ?_)
      obtain ⟨rfl, rfl⟩ := h_38
      refine G_icmp_ne (tgt := 48) hk dX6_ofRun_41 (by decide) (fun c_41 => ?_) (fun c_41 => ?_)
      · try simp only [gB_ne, gB_eq, Decidable.not_not] at c_41
        refine G_iconst (v := 1) hk dX6_ofRun_48 (by decide) ?_
        refine G_isub hk dX6_ofRun_49 ?_
        rw [show nI q - 1 = nI (q - 1) from pk_sub (b := 1) hq0]
        refine G_istore hk dX6_ofRun_50 (by decide) rfl ?_
        refine G_goto (tgt := 19) hk dX6_ofRun_52 (by decide) ?_
        have hy := fa_cnt_yes (hbi.mpr c_41)
        exact G_lv (by exact And.intro rfl (And.intro rfl (And.intro rfl (And.intro rfl (trivial))))) (ih (f + 1) (q - 1) (by omega) hf2 (by omega) hms)
      · try simp only [gB_ne, gB_eq, Decidable.not_not] at c_41
        refine G_iconst (v := 0) hk dX6_ofRun_44 (by decide) ?_
        refine G_goto (tgt := 49) hk dX6_ofRun_45 (by decide) ?_
        refine G_isub hk dX6_ofRun_49 ?_
        rw [Int32.sub_zero]
        refine G_istore hk dX6_ofRun_50 (by decide) rfl ?_
        refine G_goto (tgt := 19) hk dX6_ofRun_52 (by decide) ?_
        have hy := fa_cnt_no (show sBg (pR pa) n (f + 1) = false by rw [← Bool.not_eq_true, hbi]; exact fun z => z (by first | exact c_41 | exact Decidable.not_not.mp c_41))
        exact G_lv (by exact And.intro rfl (And.intro rfl (And.intro rfl (And.intro rfl (trivial))))) (ih (f + 1) q (by omega) hf2 (by omega) hms)

set_option maxHeartbeats 4000000 in
set_option maxRecDepth 100000 in
theorem c_X6_ofRun (l : Launch) (V : gV) (ad : Nat → Nat) (E : Nat → va_E) (n rd : Nat) (R : Nat → Nat → Int32) (rp rw : Nat → Int32) (tr fa : Int32) (la : Nat → Int32) (sz : Nat → Nat) (cl : Nat → Nat → Int32) (hR : mR V ad E (n, R, rd, rp, rw, tr, fa, la, sz, cl)) (ho0 : sOk n R) (k w : Int32) : Ct l V ad 44 44 yX6_ofRun cX6_ofRun 6 (some .int) { frames := 4, cells := 0, slots := 0, locals := 90 } [.ref (ad 34), .int k, .int w] E (pI ad (fun v E2 => v = vOfRun n R k w ∧ mR V ad E2 (n, R, rd, rp, rw, tr, fa, la, sz, cl) ∧ frM E E2)) := by
  refine gCt mX6_ofRun (Nat.le_of_ble_eq_true rfl) ?_
  intro K hk
  obtain ⟨at1, rr, dn, wo, so, sl, ce, pa, rz, dl, ke, p2, w2, hC, hrd8, hag, hrd, hso, hsl, hsz⟩ := id hR
  obtain ⟨m0, g35, g36, g37, g38, g39, g40, g41, g42, g43, m3⟩ := id hC
  have hM := hC.k
  have ho : ∀ i, i < n → rOk (pR pa i) := fun i hi => rOk_cw (hag i hi) (ho0 i hi)
  have hn0 : nI n = 0 ↔ n = 0 := neq (b := 0) (by omega) (by omega)
  have hrl : sRunsN (pR pa) n ≤ 26 := by
    unfold sRunsN
    split
    · omega
    · exact fa_cnt_le _ 26
  have hr1 := lt_le1 (x := k) (r := sRunsN (pR pa) n) (by omega)
  refine G_iload_n (i := 1) hk dX6_ofRun_0 rfl rfl ?_
  refine G_if_lt (tgt := 12) hk dX6_ofRun_1 (by decide) (fun c_1 => ?_) (fun c_1 => ?_)
  · try simp only [gB_ne, gB_eq, Decidable.not_not] at c_1
    refine G_iconst (v := (-1)) hk dX6_ofRun_12 (by decide) ?_
    refine G_iret hk dX6_ofRun_13 ?_
    exact ⟨by unfold vOfRun; rw [if_neg (fun z => absurd z.1 (Int32.not_le.mpr c_1))], hR, frM.rf⟩
  · try simp only [gB_ne, gB_eq, Decidable.not_not] at c_1
    refine G_iload_n (i := 1) hk dX6_ofRun_4 rfl rfl ?_
    refine G_aload_n (i := 0) hk dX6_ofRun_5 rfl rfl ?_
    refine G_cVi hk (c_X6_runs l V ad E fa tr at1 rr (nI rd) n pa dn wo dl hM) mX6_runs vX6_runs kX6_156 dX6_ofRun_6 (by assumption) (by rfl) (by first | decide | omega) rfl (by decide) (by decide) rfl (Nat.le_of_ble_eq_true rfl) (fun r_6 E_6 h_6 => ?_)
    obtain ⟨rfl, rfl⟩ := h_6
    refine G_icmp_lt (tgt := 14) hk dX6_ofRun_9 (by decide) (fun c_9 => ?_) (fun c_9 => ?_)
    · try simp only [gB_ne, gB_eq, Decidable.not_not] at c_9
      refine G_iconst (v := 0) hk dX6_ofRun_14 (by decide) ?_
      refine G_istore_n (i := 3) hk dX6_ofRun_15 rfl (by decide) rfl ?_
      refine G_iload_n (i := 1) hk dX6_ofRun_16 rfl rfl ?_
      refine G_istore hk dX6_ofRun_17 (by decide) rfl ?_
      obtain ⟨k0, hk0, rfl⟩ := gIx c_1 c_9 (by omega)
      have hnz : ¬ n = 0 := by
        intro z
        unfold sRunsN at hk0
        rw [if_pos z] at hk0
        omega
      have hix : ix (nI k0) = k0 := ix_nI (by omega)
      have hk1 : k0 < fa_cnt (sBg (pR pa) n) 26 := by
        unfold sRunsN at hk0
        rw [if_neg hnz] at hk0
        exact hk0
      refine G_post (G_lv (by exact And.intro rfl (And.intro rfl (And.intro rfl (And.intro rfl (trivial))))) (l1_X6_ofRun hk E fa tr at1 rr (nI rd) n pa dn wo dl hM w k0 hk1 27 0 k0 (by omega) (by omega) (by rw [fa_cnt_yes (show sBg (pR pa) n 0 = true from decide_eq_true (Or.inl rfl))]; show 0 + 1 + k0 = _; omega) rfl)) ?_
      rintro r aa E2 ⟨v, rfl, rfl, rfl, rfl⟩
      refine ⟨_, rfl, rfl, ?_, hR, frM.rf⟩
      unfold vOfRun
      rw [if_pos (show 0 ≤ nI k0 ∧ nI k0 ≤ nI (sRunsN R n) - 1 from ⟨Int32.not_lt.mp c_1, by rw [← sRunsN_cw hag]; exact hr1.mp c_9⟩), hix, ← sBg_cw hag, ← sW_cw hag]
    · try simp only [gB_ne, gB_eq, Decidable.not_not] at c_9
      refine G_iconst (v := (-1)) hk dX6_ofRun_12 (by decide) ?_
      refine G_iret hk dX6_ofRun_13 ?_
      exact ⟨by unfold vOfRun; rw [if_neg (fun z => c_9 (hr1.mpr (by rw [sRunsN_cw hag]; exact z.2)))], hR, frM.rf⟩
