set_option maxHeartbeats 4000000 in
set_option maxRecDepth 100000 in
theorem lp_readAll {l : Launch} {V : gV} {ad : Nat → Nat} {K : gX} (hk : gOk l { frames := 3, cells := 0, slots := 0, locals := 70 } K V cX6_readAll 2 RX6 (some .boolean) yX6_readAll.name) (E : Nat → va_E) (fa tr rr dn wo rd : Int32) (n : Nat) (so sl ce pa rz dl ke p2 w2 : Nat → Int32) (c : Nat → Int32) (s0 m : Nat) (hs : s0 + m ≤ 240) (hce : ∀ q, q < m → ce (s0 + q) = c q) : ∀ (k r : Nat) (E1 : Nat → va_E) (rz1 : Nat → Int32), 7 < r + k → r ≤ 7 → 6 * r + 1 ≤ m → (∀ q, q < 6 * r + 1 → sGo c q) → mC V ad E1 fa tr (nI (s0 + (6 * r + 1))) (nI r) dn wo rd n so sl ce pa rz1 dl ke p2 w2 → frM E E1 → (∀ i, i < r → ∀ j, j < 5 → rz1 (5 * i + j) = sTx c i j) → G K V 2 (gQ K V 44 0 0 (pI ad (fun v E2 => frM E E2 ∧ ((v = 1 ∧ ∃ r rz2, 1 ≤ r ∧ r ≤ 7 ∧ m = 6 * r + 1 ∧ (∀ q, q < m → sGo c q) ∧ mC V ad E2 fa tr (nI (s0 + m)) (nI r) dn wo rd n so sl ce pa rz2 dl ke p2 w2 ∧ ∀ i, i < r → ∀ j, j < 5 → rz2 (5 * i + j) = sTx c i j) ∨ (v = 0 ∧ ∃ pf rr2 rz2, tF c m pf ∧ mC V ad E2 fa tr (nI (s0 + pf)) rr2 dn wo rd n so sl ce pa rz2 dl ke p2 w2))))) ad 44 0 0 17 [(0, .ref (ad 34)), (1, .int (nI (s0 + m)))] [] E1 := by
  intro k
  induction k with
  | zero => intro r E1 rz1 hr; omega
  | succ k ih =>
    intro r E1 rz1 hrk hr hpm0 hgo hC hfr hz
    obtain ⟨m0, g35, g36, g37, g38, g39, g40, g41, g42, g43, m3⟩ := id hC
    refine G_aload_n (i := 0) hk dX6_readAll_17 rfl rfl ?_
    refine G_get hk fX6_77 dX6_readAll_18 (by assumption) (by rfl) (by first | decide | omega) ?_
    refine G_if_eq (tgt := 41) hk dX6_readAll_21 (by decide) (fun c_21 => ?_) (fun c_21 => ?_)
    · try simp only [gB_ne, gB_eq, Decidable.not_not] at c_21
      have hr0 : r = 0 := (neq (b := 0) (by omega) (by omega)).mp c_21
      have hr7 : r < 7 := by omega
      have hin : r = 0 ∨ 6 * r + 1 < m := Or.inl hr0
      refine G_aload_n (i := 0) hk dX6_readAll_41 rfl rfl ?_
      refine G_iload_n (i := 1) hk dX6_readAll_42 rfl rfl ?_
      refine G_bipush (v := 59) hk dX6_readAll_43 (by decide) ?_
      refine G_cVi hk (c_X6_isSign l V ad E1 fa tr (nI r) dn wo rd n so sl ce pa rz1 dl ke p2 w2 c s0 m hs hce (6 * r + 1) (by omega) hC 59) mX6_isSign vX6_isSign kX6_83 dX6_readAll_45 (by assumption) (by rfl) (by first | decide | omega) rfl (by decide) (by decide) rfl (Nat.le_of_ble_eq_true rfl) (fun r_45 E_45 h_45 => ?_)
      skip
      refine G_if_eq (tgt := 65) hk dX6_readAll_48 (by decide) (fun c_48 => ?_) (fun c_48 => ?_)
      · try simp only [gB_ne, gB_eq, Decidable.not_not] at c_48
        refine G_iconst (v := 0) hk dX6_readAll_65 (by decide) ?_
        refine G_zret hk dX6_readAll_66 (by first | rfl | exact gB_nar _) ?_
        obtain ⟨x1, ⟨z1, -⟩ | ⟨-, y1, hC1⟩⟩ := h_45
        · exact absurd (z1.symm.trans c_48) (by decide)
        refine ⟨hfr.tr x1, Or.inr ⟨rfl, (6 * r + 1), _, _, ⟨by omega, hgo, ?_⟩, hC1⟩⟩
        rcases Nat.lt_or_ge (6 * r + 1) m with z | z
        · exact Or.inl ⟨z, fun w => y1 ⟨z, (sGo_1 hr7).mp w⟩⟩
        · exact Or.inr ⟨by omega, by omega⟩
      · try simp only [gB_ne, gB_eq, Decidable.not_not] at c_48
        obtain ⟨x1, ⟨-, y1, hC1⟩ | ⟨z1, -⟩⟩ := h_45
        rotate_left
        · exact absurd z1 c_48
        have g1 := go_up hgo ((sGo_1 hr7).mpr y1.2)
        have f1 := hfr.tr x1
        obtain ⟨u1_0, u1_1, u1_2, u1_3, u1_4, u1_5, -⟩ := id hC1
        refine G_aload_n (i := 0) hk dX6_readAll_51 rfl rfl ?_
        refine G_iload_n (i := 1) hk dX6_readAll_52 rfl rfl ?_
        refine G_iconst (v := 5) hk dX6_readAll_53 (by decide) ?_
        refine G_aload_n (i := 0) hk dX6_readAll_54 rfl rfl ?_
        refine G_get hk fX6_77 dX6_readAll_55 (by assumption) (by rfl) (by first | decide | omega) ?_
        refine G_imul hk dX6_readAll_58 ?_
        rw [nI_5]
        refine G_cVi hk (c_X6_readRule l V ad E_45 fa tr (nI r) dn wo rd n so sl ce pa rz1 dl ke p2 w2 c s0 m hs hce r hr7 (by omega) hC1 g1) mX6_readRule vX6_readRule kX6_87 dX6_readAll_59 (by assumption) (by rfl) (by first | decide | omega) rfl (by decide) (by decide) rfl (Nat.le_of_ble_eq_true rfl) (fun r_59 E_59 h_59 => ?_)
        skip
        refine G_if_ne (tgt := 67) hk dX6_readAll_62 (by decide) (fun c_62 => ?_) (fun c_62 => ?_)
        · try simp only [gB_ne, gB_eq, Decidable.not_not] at c_62
          obtain ⟨x2, ⟨-, y2, g2, rz2, hC2, v1, v2⟩ | ⟨z2, -⟩⟩ := h_59
          rotate_left
          · exact absurd z2 c_62
          have u2 := hC2.1
          refine G_aload_n (i := 0) hk dX6_readAll_67 rfl rfl ?_
          refine G_dup hk dX6_readAll_68 rfl ?_
          refine G_get hk fX6_77 dX6_readAll_69 (by assumption) (by rfl) (by first | decide | omega) ?_
          refine G_iconst (v := 1) hk dX6_readAll_72 (by decide) ?_
          refine G_iadd hk dX6_readAll_73 ?_
          rw [nI_i1]
          refine G_put hk fX6_77 iX6_8 dX6_readAll_74 (by assumption) (Nat.le_of_ble_eq_true rfl) (by first | decide | omega) ?_
          refine G_E (E2 := va_up E_59 34 (mO ad fa tr (nI n) (nI (s0 + (6 * r + 7))) (nI (r + 1)) dn wo rd)) rfl ?_
          refine G_goto (tgt := 17) hk dX6_readAll_77 (by decide) ?_
          have e7 : 6 * (r + 1) + 1 = 6 * r + 7 := by omega
          refine G_lv (by exact And.intro rfl (And.intro rfl (trivial))) (ih (r + 1) _ rz2 (by omega) (by omega) (by omega) (by rw [e7]; exact g2) (by rw [e7]; exact hC2.o m3) ((f1.tr x2).tr (frM.up (by omega))) ?_)
          intro i hi j hj
          by_cases hir : i = r
          · rw [hir]; exact v2 j hj
          · rw [v1 (5 * i + j) (by omega)]; exact hz i (by omega) j hj
        · try simp only [gB_ne, gB_eq, Decidable.not_not] at c_62
          refine G_iconst (v := 0) hk dX6_readAll_65 (by decide) ?_
          refine G_zret hk dX6_readAll_66 (by first | rfl | exact gB_nar _) ?_
          obtain ⟨x2, ⟨z2, -⟩ | ⟨-, pf, rz2, tf, hC2⟩⟩ := h_59
          · exact absurd (z2.symm.trans c_62) (by decide)
          exact ⟨f1.tr x2, Or.inr ⟨rfl, pf, _, _, tf, hC2⟩⟩
    · try simp only [gB_ne, gB_eq, Decidable.not_not] at c_21
      have hr0 : ¬ r = 0 := fun z => c_21 ((neq (b := 0) (by omega) (by omega)).mpr z)
      refine G_aload_n (i := 0) hk dX6_readAll_24 rfl rfl ?_
      refine G_get hk fX6_77 dX6_readAll_25 (by assumption) (by rfl) (by first | decide | omega) ?_
      refine G_bipush (v := 7) hk dX6_readAll_28 (by decide) ?_
      refine G_icmp_ge (tgt := 80) hk dX6_readAll_30 (by decide) (fun c_30 => ?_) (fun c_30 => ?_)
      · try simp only [gB_ne, gB_eq, Decidable.not_not] at c_30
        have h7 : r = 7 := by
          have := (nle (a := 7) (by omega) (by omega)).mp c_30
          omega
        refine G_aload_n (i := 0) hk dX6_readAll_80 rfl rfl ?_
        refine G_get hk fX6_71 dX6_readAll_81 (by assumption) (by rfl) (by first | decide | omega) ?_
        refine G_iload_n (i := 1) hk dX6_readAll_84 rfl rfl ?_
        refine G_icmp_ne (tgt := 92) hk dX6_readAll_85 (by decide) (fun c_85 => ?_) (fun c_85 => ?_)
        · try simp only [gB_ne, gB_eq, Decidable.not_not] at c_85
          have hlt : 6 * r + 1 < m := by
            rcases Nat.lt_or_ge (6 * r + 1) m with z | z
            · exact z
            · exact absurd (by rw [show 6 * r + 1 = m by omega]) c_85
          refine G_iconst (v := 0) hk dX6_readAll_92 (by decide) ?_
          refine G_zret hk dX6_readAll_93 (by first | rfl | exact gB_nar _) ?_
          subst h7
          exact ⟨hfr, Or.inr ⟨rfl, _, _, _, ⟨by omega, hgo, Or.inl ⟨hlt, sGo_43⟩⟩, hC⟩⟩
        · try simp only [gB_ne, gB_eq, Decidable.not_not] at c_85
          have hpm : 6 * r + 1 = m := by
            have := (neq (a := s0 + (6 * r + 1)) (b := s0 + m) (by omega) (by omega)).mp (by first | exact c_85 | exact Decidable.not_not.mp c_85)
            omega
          refine G_iconst (v := 1) hk dX6_readAll_88 (by decide) ?_
          refine G_goto (tgt := 93) hk dX6_readAll_89 (by decide) ?_
          refine G_zret hk dX6_readAll_93 (by first | rfl | exact gB_nar _) ?_
          exact ⟨hfr, Or.inl ⟨rfl, r, rz1, by omega, by omega, by omega, fun q hq => hgo q (by omega), hpm ▸ hC, hz⟩⟩
      · try simp only [gB_ne, gB_eq, Decidable.not_not] at c_30
        have hr7 : r < 7 := Nat.lt_of_not_le (fun z => c_30 ((nle (a := 7) (by omega) (by omega)).mpr z))
        refine G_aload_n (i := 0) hk dX6_readAll_33 rfl rfl ?_
        refine G_get hk fX6_71 dX6_readAll_34 (by assumption) (by rfl) (by first | decide | omega) ?_
        refine G_iload_n (i := 1) hk dX6_readAll_37 rfl rfl ?_
        refine G_icmp_ge (tgt := 80) hk dX6_readAll_38 (by decide) (fun c_38 => ?_) (fun c_38 => ?_)
        · try simp only [gB_ne, gB_eq, Decidable.not_not] at c_38
          have hpm : 6 * r + 1 = m := by
            have := (nle (by omega) (by omega)).mp c_38
            omega
          refine G_aload_n (i := 0) hk dX6_readAll_80 rfl rfl ?_
          refine G_get hk fX6_71 dX6_readAll_81 (by assumption) (by rfl) (by first | decide | omega) ?_
          refine G_iload_n (i := 1) hk dX6_readAll_84 rfl rfl ?_
          refine G_icmp_ne (tgt := 92) hk dX6_readAll_85 (by decide) (fun c_85 => ?_) (fun c_85 => ?_)
          · try simp only [gB_ne, gB_eq, Decidable.not_not] at c_85
            exact absurd (by rw [hpm]) c_85
          · try simp only [gB_ne, gB_eq, Decidable.not_not] at c_85
            skip
            refine G_iconst (v := 1) hk dX6_readAll_88 (by decide) ?_
            refine G_goto (tgt := 93) hk dX6_readAll_89 (by decide) ?_
            refine G_zret hk dX6_readAll_93 (by first | rfl | exact gB_nar _) ?_
            exact ⟨hfr, Or.inl ⟨rfl, r, rz1, by omega, by omega, by omega, fun q hq => hgo q (by omega), hpm ▸ hC, hz⟩⟩
        · try simp only [gB_ne, gB_eq, Decidable.not_not] at c_38
          have hin : r = 0 ∨ 6 * r + 1 < m := Or.inr (Nat.lt_of_not_le (fun q => c_38 ((nle (by omega) (by omega)).mpr (by omega))))
          refine G_aload_n (i := 0) hk dX6_readAll_41 rfl rfl ?_
          refine G_iload_n (i := 1) hk dX6_readAll_42 rfl rfl ?_
          refine G_bipush (v := 59) hk dX6_readAll_43 (by decide) ?_
          refine G_cVi hk (c_X6_isSign l V ad E1 fa tr (nI r) dn wo rd n so sl ce pa rz1 dl ke p2 w2 c s0 m hs hce (6 * r + 1) (by omega) hC 59) mX6_isSign vX6_isSign kX6_83 dX6_readAll_45 (by assumption) (by rfl) (by first | decide | omega) rfl (by decide) (by decide) rfl (Nat.le_of_ble_eq_true rfl) (fun r_45 E_45 h_45 => ?_)
          skip
          refine G_if_eq (tgt := 65) hk dX6_readAll_48 (by decide) (fun c_48 => ?_) (fun c_48 => ?_)
          · try simp only [gB_ne, gB_eq, Decidable.not_not] at c_48
            refine G_iconst (v := 0) hk dX6_readAll_65 (by decide) ?_
            refine G_zret hk dX6_readAll_66 (by first | rfl | exact gB_nar _) ?_
            obtain ⟨x1, ⟨z1, -⟩ | ⟨-, y1, hC1⟩⟩ := h_45
            · exact absurd (z1.symm.trans c_48) (by decide)
            refine ⟨hfr.tr x1, Or.inr ⟨rfl, (6 * r + 1), _, _, ⟨by omega, hgo, ?_⟩, hC1⟩⟩
            rcases Nat.lt_or_ge (6 * r + 1) m with z | z
            · exact Or.inl ⟨z, fun w => y1 ⟨z, (sGo_1 hr7).mp w⟩⟩
            · exact Or.inr ⟨by omega, by omega⟩
          · try simp only [gB_ne, gB_eq, Decidable.not_not] at c_48
            obtain ⟨x1, ⟨-, y1, hC1⟩ | ⟨z1, -⟩⟩ := h_45
            rotate_left
            · exact absurd z1 c_48
            have g1 := go_up hgo ((sGo_1 hr7).mpr y1.2)
            have f1 := hfr.tr x1
            obtain ⟨u1_0, u1_1, u1_2, u1_3, u1_4, u1_5, -⟩ := id hC1
            refine G_aload_n (i := 0) hk dX6_readAll_51 rfl rfl ?_
            refine G_iload_n (i := 1) hk dX6_readAll_52 rfl rfl ?_
            refine G_iconst (v := 5) hk dX6_readAll_53 (by decide) ?_
            refine G_aload_n (i := 0) hk dX6_readAll_54 rfl rfl ?_
            refine G_get hk fX6_77 dX6_readAll_55 (by assumption) (by rfl) (by first | decide | omega) ?_
            refine G_imul hk dX6_readAll_58 ?_
            rw [nI_5]
            refine G_cVi hk (c_X6_readRule l V ad E_45 fa tr (nI r) dn wo rd n so sl ce pa rz1 dl ke p2 w2 c s0 m hs hce r hr7 (by omega) hC1 g1) mX6_readRule vX6_readRule kX6_87 dX6_readAll_59 (by assumption) (by rfl) (by first | decide | omega) rfl (by decide) (by decide) rfl (Nat.le_of_ble_eq_true rfl) (fun r_59 E_59 h_59 => ?_)
            skip
            refine G_if_ne (tgt := 67) hk dX6_readAll_62 (by decide) (fun c_62 => ?_) (fun c_62 => ?_)
            · try simp only [gB_ne, gB_eq, Decidable.not_not] at c_62
              obtain ⟨x2, ⟨-, y2, g2, rz2, hC2, v1, v2⟩ | ⟨z2, -⟩⟩ := h_59
              rotate_left
              · exact absurd z2 c_62
              have u2 := hC2.1
              refine G_aload_n (i := 0) hk dX6_readAll_67 rfl rfl ?_
              refine G_dup hk dX6_readAll_68 rfl ?_
              refine G_get hk fX6_77 dX6_readAll_69 (by assumption) (by rfl) (by first | decide | omega) ?_
              refine G_iconst (v := 1) hk dX6_readAll_72 (by decide) ?_
              refine G_iadd hk dX6_readAll_73 ?_
              rw [nI_i1]
              refine G_put hk fX6_77 iX6_8 dX6_readAll_74 (by assumption) (Nat.le_of_ble_eq_true rfl) (by first | decide | omega) ?_
              refine G_E (E2 := va_up E_59 34 (mO ad fa tr (nI n) (nI (s0 + (6 * r + 7))) (nI (r + 1)) dn wo rd)) rfl ?_
              refine G_goto (tgt := 17) hk dX6_readAll_77 (by decide) ?_
              have e7 : 6 * (r + 1) + 1 = 6 * r + 7 := by omega
              refine G_lv (by exact And.intro rfl (And.intro rfl (trivial))) (ih (r + 1) _ rz2 (by omega) (by omega) (by omega) (by rw [e7]; exact g2) (by rw [e7]; exact hC2.o m3) ((f1.tr x2).tr (frM.up (by omega))) ?_)
              intro i hi j hj
              by_cases hir : i = r
              · rw [hir]; exact v2 j hj
              · rw [v1 (5 * i + j) (by omega)]; exact hz i (by omega) j hj
            · try simp only [gB_ne, gB_eq, Decidable.not_not] at c_62
              refine G_iconst (v := 0) hk dX6_readAll_65 (by decide) ?_
              refine G_zret hk dX6_readAll_66 (by first | rfl | exact gB_nar _) ?_
              obtain ⟨x2, ⟨z2, -⟩ | ⟨-, pf, rz2, tf, hC2⟩⟩ := h_59
              · exact absurd (z2.symm.trans c_62) (by decide)
              exact ⟨f1.tr x2, Or.inr ⟨rfl, pf, _, _, tf, hC2⟩⟩

set_option maxHeartbeats 4000000 in
set_option maxRecDepth 100000 in
theorem c_X6_readAll (l : Launch) (V : gV) (ad : Nat → Nat) (E : Nat → va_E) (fa tr rr dn wo rd : Int32) (n : Nat) (so sl ce pa rz dl ke p2 w2 : Nat → Int32) (c : Nat → Int32) (s0 m : Nat) (hs : s0 + m ≤ 240) (hce : ∀ q, q < m → ce (s0 + q) = c q) (hC : mC V ad E fa tr (nI (s0 + 0)) rr dn wo rd n so sl ce pa rz dl ke p2 w2) : Ct l V ad 44 44 yX6_readAll cX6_readAll 2 (some .boolean) { frames := 3, cells := 0, slots := 0, locals := 70 } [.ref (ad 34), .int (nI (s0 + m))] E (pI ad (fun v E2 => frM E E2 ∧ ((v = 1 ∧ ∃ r rz2, 1 ≤ r ∧ r ≤ 7 ∧ m = 6 * r + 1 ∧ (∀ q, q < m → sGo c q) ∧ mC V ad E2 fa tr (nI (s0 + m)) (nI r) dn wo rd n so sl ce pa rz2 dl ke p2 w2 ∧ ∀ i, i < r → ∀ j, j < 5 → rz2 (5 * i + j) = sTx c i j) ∨ (v = 0 ∧ ∃ pf rr2 rz2, tF c m pf ∧ mC V ad E2 fa tr (nI (s0 + pf)) rr2 dn wo rd n so sl ce pa rz2 dl ke p2 w2)))) := by
  refine gCt mX6_readAll (Nat.le_of_ble_eq_true rfl) ?_
  intro K hk
  obtain ⟨m0, g35, g36, g37, g38, g39, g40, g41, g42, g43, m3⟩ := id hC
  refine G_aload_n (i := 0) hk dX6_readAll_0 rfl rfl ?_
  refine G_iconst (v := 0) hk dX6_readAll_1 (by decide) ?_
  refine G_put hk fX6_77 iX6_8 dX6_readAll_2 (by assumption) (Nat.le_of_ble_eq_true rfl) (by first | decide | omega) ?_
  refine G_E (E2 := va_up E 34 (mO ad fa tr (nI n) (nI (s0 + (0))) 0 dn wo rd)) rfl ?_
  have hCa := hC.o (fa2 := fa) (tr2 := tr) (at2 := nI (s0 + 0)) (rr2 := 0) (dn2 := dn) (wo2 := wo) (rd2 := rd) (n2 := n) m3
  have fa1 : frM E (va_up E 34 (mO ad fa tr (nI n) (nI (s0 + 0)) 0 dn wo rd)) := frM.up (by omega)
  generalize va_up E 34 (mO ad fa tr (nI n) (nI (s0 + 0)) 0 dn wo rd) = Ea at hCa fa1 ⊢
  have q0 := hCa.1
  refine G_aload_n (i := 0) hk dX6_readAll_5 rfl rfl ?_
  refine G_iload_n (i := 1) hk dX6_readAll_6 rfl rfl ?_
  refine G_bipush (v := 113) hk dX6_readAll_7 (by decide) ?_
  refine G_cVi hk (c_X6_isSign l V ad Ea fa tr 0 dn wo rd n so sl ce pa rz dl ke p2 w2 c s0 m hs hce 0 (Nat.zero_le m) hCa 113) mX6_isSign vX6_isSign kX6_83 dX6_readAll_9 (by assumption) (by rfl) (by first | decide | omega) rfl (by decide) (by decide) rfl (Nat.le_of_ble_eq_true rfl) (fun r_9 E_9 h_9 => ?_)
  skip
  refine G_if_ne (tgt := 17) hk dX6_readAll_12 (by decide) (fun c_12 => ?_) (fun c_12 => ?_)
  · try simp only [gB_ne, gB_eq, Decidable.not_not] at c_12
    obtain ⟨x1, ⟨-, y1, hC1⟩ | ⟨z1, -⟩⟩ := h_9
    rotate_left
    · exact absurd z1 c_12
    have g1 := go_up (fun q hq => absurd hq (Nat.not_lt_zero q)) (sGo_0.mpr y1.2)
    have f1 := fa1.tr x1
    obtain ⟨u1_0, u1_1, u1_2, u1_3, u1_4, u1_5, -⟩ := id hC1
    exact G_lv (by exact And.intro rfl (And.intro rfl (trivial))) (lp_readAll hk E fa tr rr dn wo rd n so sl ce pa rz dl ke p2 w2 c s0 m hs hce 8 0 _ _ (by omega) (by omega) (by omega) g1 hC1 f1 (fun i hi => absurd hi (Nat.not_lt_zero i)))
  · try simp only [gB_ne, gB_eq, Decidable.not_not] at c_12
    refine G_iconst (v := 0) hk dX6_readAll_15 (by decide) ?_
    refine G_zret hk dX6_readAll_16 (by first | rfl | exact gB_nar _) ?_
    obtain ⟨x1, ⟨z1, -⟩ | ⟨-, y1, hC1⟩⟩ := h_9
    · exact absurd (z1.symm.trans c_12) (by decide)
    refine ⟨fa1.tr x1, Or.inr ⟨rfl, 0, _, _, ⟨Nat.zero_le m, fun q hq => absurd hq (Nat.not_lt_zero q), ?_⟩, hC1⟩⟩
    rcases Nat.lt_or_ge (0) m with z | z
    · exact Or.inl ⟨z, fun w => y1 ⟨z, sGo_0.mp w⟩⟩
    · exact Or.inr ⟨by omega, by omega⟩

theorem sAg_0 {x : Int32} {m : Nat} {a i n : Int32} (h : sAg x m a i n = 0) : sFas x a = 0 ∧ ¬ n < 0 ∧ sHc m i n := by
  unfold sAg at h
  by_cases h1 : sFas x a = 0
  · rw [if_pos h1] at h
    by_cases h2 : n < 0
    · rw [if_pos h2] at h; exact absurd h (by decide)
    · rw [if_neg h2] at h
      by_cases h3 : sHc m i n
      · exact ⟨h1, h2, h3⟩
      · rw [sHcD_f h3] at h; exact absurd h (by decide)
  · rw [if_neg h1] at h; exact absurd h h1
theorem sAg_n {x : Int32} {m : Nat} {a i n : Int32} (h : ¬ sAg x m a i n = 0) : ¬ (sFas x a = 0 ∧ ¬ n < 0 ∧ sHc m i n) := by
  rintro ⟨h1, h2, h3⟩
  apply h
  unfold sAg
  rw [if_pos h1, if_neg h2, sHcD_t h3]
  rfl
theorem sFas_0 {x a : Int32} (h : sFas x a = 0) : ¬ x = -1 ∧ x = a := by
  unfold sFas at h
  by_cases h1 : x = -1
  · rw [if_pos h1] at h; exact absurd h (by decide)
  · rw [if_neg h1] at h
    by_cases h2 : x = a
    · exact ⟨h1, h2⟩
    · rw [if_neg h2] at h; exact absurd h (by decide)

set_option maxHeartbeats 4000000 in
set_option maxRecDepth 100000 in
theorem lp_rules {l : Launch} {V : gV} {ad : Nat → Nat} {K : gX} (hk : gOk l { frames := 4, cells := 0, slots := 0, locals := 91 } K V cX6_rules 8 RX6 (some .int) yX6_rules.name) (E : Nat → va_E) (fa tr at1 rr dn wo rd : Int32) (n : Nat) (so sl ce pa rz dl ke p2 w2 : Nat → Int32) : ∀ (k t : Nat) (E1 : Nat → va_E), 35 < t + k → t ≤ 35 → mC V ad E1 fa tr at1 rr dn wo rd n so sl ce (fun x => if x < t then rz x else pa x) rz dl ke p2 w2 → frM E E1 → G K V 8 (gQ K V 44 0 0 (pI ad (fun v E2 => v = nI n ∧ mC V ad E2 fa tr at1 rr dn wo 0 n so sl ce (fun x => if x < 35 then rz x else pa x) rz dl ke p2 w2 ∧ frM E E2))) ad 44 0 0 95 [(0, .ref (ad 34)), (7, .int (nI t))] [] E1 := by
  intro k
  induction k with
  | zero => intro t E1 ht; omega
  | succ k ih =>
    intro t E1 ht ht35 hC1 hfr
    obtain ⟨m0, g35, g36, g37, g38, g39, g40, g41, g42, g43, m3⟩ := id hC1
    refine G_iload hk dX6_rules_95 rfl ?_
    refine G_bipush (v := 35) hk dX6_rules_97 (by decide) ?_
    refine G_icmp_ge (tgt := 122) hk dX6_rules_99 (by decide) (fun c_99 => ?_) (fun c_99 => ?_)
    · try simp only [gB_ne, gB_eq, Decidable.not_not] at c_99
      have hge : 35 ≤ t := (nle (a := 35) (by omega) (by omega)).mp c_99
      have hte : t = 35 := by omega
      subst hte
      refine G_aload_n (i := 0) hk dX6_rules_122 rfl rfl ?_
      refine G_iconst (v := 0) hk dX6_rules_123 (by decide) ?_
      refine G_put hk fX6_80 iX6_14 dX6_rules_124 (by assumption) (Nat.le_of_ble_eq_true rfl) (by first | decide | omega) ?_
      refine G_E (E2 := va_up E1 34 (mO ad fa tr (nI n) at1 rr dn wo 0)) rfl ?_
      have hC2 := hC1.o (fa2 := fa) (tr2 := tr) (at2 := at1) (rr2 := rr) (dn2 := dn) (wo2 := wo) (rd2 := 0) (n2 := n) m3
      have f2 := hfr.tr (frM.up (E := E1) (k := 34) (c := mO ad fa tr (nI n) at1 rr dn wo 0) (by omega))
      generalize va_up E1 34 (mO ad fa tr (nI n) at1 rr dn wo 0) = Ee at hC2 f2 ⊢
      have q0 := hC2.1
      refine G_aload_n (i := 0) hk dX6_rules_127 rfl rfl ?_
      refine G_get hk fX6_47 dX6_rules_128 (by assumption) (by rfl) (by first | decide | omega) ?_
      refine G_iret hk dX6_rules_131 ?_
      exact ⟨rfl, hC2, f2⟩
    · try simp only [gB_ne, gB_eq, Decidable.not_not] at c_99
      have hlt : t < 35 := Nat.lt_of_not_le (fun q => c_99 ((nle (a := 35) (by omega) (by omega)).mpr q))
      refine G_aload_n (i := 0) hk dX6_rules_102 rfl rfl ?_
      refine G_get hk fX6_19 dX6_rules_103 (by assumption) (by rfl) (by first | decide | omega) ?_
      refine G_iload hk dX6_rules_106 rfl ?_
      refine G_aload_n (i := 0) hk dX6_rules_108 rfl rfl ?_
      refine G_get hk fX6_22 dX6_rules_109 (by assumption) (by rfl) (by first | decide | omega) ?_
      refine G_iload hk dX6_rules_112 rfl ?_
      refine G_ialdX (j := t) hk dX6_rules_114 (by assumption) rfl (by omega) (by decide) (by first | decide | omega) ?_
      refine G_iastX (j := t) hk dX6_rules_115 (by assumption) rfl (by omega) (by decide) (by first | decide | omega) ?_
      refine G_iinc (v := nI (t + 1)) hk dX6_rules_116 rfl (nI_inc t) (by decide) rfl ?_
      refine G_goto (tgt := 95) hk dX6_rules_119 (by decide) ?_
      refine G_lv (by exact And.intro rfl (And.intro rfl (trivial))) (ih (t + 1) _ (by omega) (by omega) ?_ (hfr.tr (frM.up (by omega))))
      have hC2 := hC1.s_pa (upd (fun x => if x < t then rz x else pa x) t (rz t))
      have ef : upd (fun x => if x < t then rz x else pa x) t (rz t) = (fun x => if x < t + 1 then rz x else pa x) := by
        funext x
        unfold upd
        dsimp only
        by_cases hi : x = t
        · rw [if_pos hi, if_pos (by omega), hi]
        · rw [if_neg hi]
          by_cases h7 : x < t
          · rw [if_pos h7, if_pos (by omega)]
          · rw [if_neg h7, if_neg (by omega)]
      rw [← ef]
      exact hC2

set_option maxHeartbeats 4000000 in
set_option maxRecDepth 100000 in
theorem c_X6_rules (l : Launch) (V : gV) (ad : Nat → Nat) (E : Nat → va_E) (n rd : Nat) (R : Nat → Nat → Int32) (rp rw : Nat → Int32) (tr fa : Int32) (la : Nat → Int32) (sz : Nat → Nat) (cl : Nat → Nat → Int32) (hR : mR V ad E (n, R, rd, rp, rw, tr, fa, la, sz, cl)) (ho0 : sOk n R) (hlo : lOk la) (k a i m : Int32) : Ct l V ad 44 44 yX6_rules cX6_rules 8 (some .int) { frames := 4, cells := 0, slots := 0, locals := 91 } [.ref (ad 34), .int k, .int a, .int i, .int m] E (pI ad (fun v E2 => v = vRules la sz cl k a i m ∧ mR V ad E2 (nRules n la sz cl k a i m, rRules R la sz cl k a i m, dRules rd la sz cl k a i m, rp, rw, tr, fRules la sz k a i m, la, sz, cl) ∧ frM E E2)) := by
  refine gCt mX6_rules (Nat.le_of_ble_eq_true rfl) ?_
  intro K hk
  obtain ⟨at1, rr, dn, wo, so, sl, ce, pa, rz, dl, ke, p2, w2, hC, hrd8, hag, hrd, hso, hsl, hsz⟩ := id hR
  obtain ⟨m0, g35, g36, g37, g38, g39, g40, g41, g42, g43, m3⟩ := id hC
  have hM := hC.k
  have ho : ∀ i, i < n → rOk (pR pa i) := fun i hi => rOk_cw (hag i hi) (ho0 i hi)
  have hn0 : nI n = 0 ↔ n = 0 := neq (b := 0) (by omega) (by omega)
  refine G_aload_n (i := 0) hk dX6_rules_0 rfl rfl ?_
  refine G_iconst (v := 0) hk dX6_rules_1 (by decide) ?_
  refine G_put hk fX6_37 iX6_0 dX6_rules_2 (by assumption) (Nat.le_of_ble_eq_true rfl) (by first | decide | omega) ?_
  refine G_E (E2 := va_up E 34 (mO ad 0 tr (nI n) at1 rr dn wo (nI rd))) rfl ?_
  have hC1 := hC.o (fa2 := 0) (tr2 := tr) (at2 := at1) (rr2 := rr) (dn2 := dn) (wo2 := wo) (rd2 := nI rd) (n2 := n) m3
  have f1 : frM E (va_up E 34 (mO ad 0 tr (nI n) at1 rr dn wo (nI rd))) := frM.up (by omega)
  generalize va_up E 34 (mO ad 0 tr (nI n) at1 rr dn wo (nI rd)) = E1 at hC1 f1 ⊢
  clear m0 g35 g36 g37 g38 g39 g40 g41 g42 g43 hM hC hR
  obtain ⟨m0, g35, g36, g37, g38, g39, g40, g41, g42, g43, m3⟩ := id hC1
  have hM := hC1.k
  have hR1 : mR V ad E1 (n, R, rd, rp, rw, tr, 0, la, sz, cl) := ⟨_, _, _, _, _, _, _, _, _, _, _, _, _, hC1, hrd8, hag, hrd, hso, hsl, hsz⟩
  refine G_iload_n (i := 1) hk dX6_rules_5 rfl rfl ?_
  refine G_cSi hk (c_X6_isSheet l V ad E1 k) mX6_isSheet sX6_isSheet kX6_57 dX6_rules_6 rfl (by decide) (by decide) rfl (Nat.le_of_ble_eq_true rfl) (fun r_6 E_6 h_6 => ?_)
  obtain ⟨rfl, rfl⟩ := h_6
  refine G_if_ne (tgt := 14) hk dX6_rules_9 (by decide) (fun c_9 => ?_) (fun c_9 => ?_)
  · try simp only [gB_ne, gB_eq, Decidable.not_not] at c_9
    obtain ⟨j, hj, rfl⟩ := gIe (n := 3) c_9.1 c_9.2 (by omega)
    have hixj : ix (nI j) = j := ix_nI (by omega)
    have soj := so_iff hlo (show j < 4 by omega) (hso j (by omega))
    have szjj := hsz j (by omega)
    refine G_iload_n (i := 2) hk dX6_rules_14 rfl rfl ?_
    refine G_cSi hk (c_X6_isSort l V ad E1 a) mX6_isSort sX6_isSort kX6_61 dX6_rules_15 rfl (by decide) (by decide) rfl (Nat.le_of_ble_eq_true rfl) (fun r_15 E_15 h_15 => ?_)
    obtain ⟨rfl, rfl⟩ := h_15
    refine G_if_ne (tgt := 24) hk dX6_rules_18 (by decide) (fun c_18 => ?_) (fun c_18 => ?_)
    · try simp only [gB_ne, gB_eq, Decidable.not_not] at c_18
      refine G_aload_n (i := 0) hk dX6_rules_24 rfl rfl ?_
      refine G_iload_n (i := 1) hk dX6_rules_25 rfl rfl ?_
      refine G_iload_n (i := 2) hk dX6_rules_26 rfl rfl ?_
      refine G_iload_n (i := 3) hk dX6_rules_27 rfl rfl ?_
      refine G_iload hk dX6_rules_28 rfl ?_
      refine G_cVi hk (c_X6_against l V ad E1 n rd R rp rw tr 0 la sz cl hR1 ho0 hlo j (by omega) a i m) mX6_against vX6_against kX6_64 dX6_rules_30 (by assumption) (by rfl) (by first | decide | omega) rfl (by decide) (by decide) rfl (Nat.le_of_ble_eq_true rfl) (fun r_30 E_30 h_30 => ?_)
      obtain ⟨rfl, rfl⟩ := h_30
      refine G_istore hk dX6_rules_33 (by decide) rfl ?_
      refine G_iload hk dX6_rules_35 rfl ?_
      refine G_if_eq (tgt := 47) hk dX6_rules_37 (by decide) (fun c_37 => ?_) (fun c_37 => ?_)
      · try simp only [gB_ne, gB_eq, Decidable.not_not] at c_37
        obtain ⟨hfas, hm0, hhc⟩ := sAg_0 c_37
        have hla := (sFas_0 hfas).1
        obtain ⟨a0, b0, rfl, rfl, hab⟩ := sHc_nat szjj hhc
        have hixa : ix (nI a0) = a0 := ix_nI (by omega)
        have hixb : ix (nI b0) = b0 := ix_nI (by omega)
        have hce : ∀ q, q < b0 → ce (60 * j + a0 + q) = (fun p => cl j (a0 + p)) q := fun q hq => by
          rw [Nat.add_assoc]
          exact (hsl j (by omega) hla).2 (a0 + q) (by omega)
        have hff : fRules la sz (nI j) a (nI a0) (nI b0) = 0 := by
          unfold fRules
          rw [if_pos c_9, if_pos c_18, hixj, if_pos hfas, if_neg hm0, sHcD_t hhc]
          rfl
        refine G_bipush (v := 60) hk dX6_rules_47 (by decide) ?_
        refine G_iload_n (i := 1) hk dX6_rules_49 rfl rfl ?_
        refine G_imul hk dX6_rules_50 ?_
        rw [nI_60]
        refine G_iload_n (i := 3) hk dX6_rules_51 rfl rfl ?_
        refine G_iadd hk dX6_rules_52 ?_
        rw [nI_add]
        refine G_istore hk dX6_rules_53 (by decide) rfl ?_
        refine G_aload_n (i := 0) hk dX6_rules_55 rfl rfl ?_
        refine G_iload hk dX6_rules_56 rfl ?_
        refine G_put hk fX6_71 iX6_7 dX6_rules_58 (by assumption) (Nat.le_of_ble_eq_true rfl) (by first | decide | omega) ?_
        refine G_E (E2 := va_up E1 34 (mO ad 0 tr (nI n) (nI (60 * j + a0 + 0)) rr dn wo (nI rd))) rfl ?_
        have hCa := hC1.o (fa2 := 0) (tr2 := tr) (at2 := nI (60 * j + a0 + 0)) (rr2 := rr) (dn2 := dn) (wo2 := wo) (rd2 := nI rd) (n2 := n) m3
        have fa1 := f1.tr (frM.up (E := E1) (k := 34) (c := mO ad 0 tr (nI n) (nI (60 * j + a0 + 0)) rr dn wo (nI rd)) (by omega))
        generalize va_up E1 34 (mO ad 0 tr (nI n) (nI (60 * j + a0 + 0)) rr dn wo (nI rd)) = Ea at hCa fa1 ⊢
        have q0 := hCa.1
        refine G_aload_n (i := 0) hk dX6_rules_61 rfl rfl ?_
        refine G_iload hk dX6_rules_62 rfl ?_
        refine G_iload hk dX6_rules_64 rfl ?_
        refine G_iadd hk dX6_rules_66 ?_
        rw [nI_add]
        refine G_cVi hk (c_X6_readAll l V ad Ea 0 tr rr dn wo (nI rd) n so sl ce pa rz dl ke p2 w2 (fun p => cl j (a0 + p)) (60 * j + a0) b0 (by omega) hce hCa) mX6_readAll vX6_readAll kX6_74 dX6_rules_67 (by assumption) (by rfl) (by first | decide | omega) rfl (by decide) (by decide) rfl (Nat.le_of_ble_eq_true rfl) (fun r_67 E_67 h_67 => ?_)
        skip
        refine G_if_ne (tgt := 84) hk dX6_rules_70 (by decide) (fun c_70 => ?_) (fun c_70 => ?_)
        · try simp only [gB_ne, gB_eq, Decidable.not_not] at c_70
          obtain ⟨x1, ⟨-, r, rz2, hr1, hr7, hmr, hgo, hCb, hz⟩ | ⟨z1, -⟩⟩ := h_67
          rotate_left
          · exact absurd z1 c_70
          have u1 := hCb.1
          refine G_aload_n (i := 0) hk dX6_rules_84 rfl rfl ?_
          refine G_aload_n (i := 0) hk dX6_rules_85 rfl rfl ?_
          refine G_get hk fX6_77 dX6_rules_86 (by assumption) (by rfl) (by first | decide | omega) ?_
          refine G_put hk fX6_47 iX6_5 dX6_rules_89 (by assumption) (Nat.le_of_ble_eq_true rfl) (by first | decide | omega) ?_
          refine G_E (E2 := va_up E_67 34 (mO ad 0 tr (nI r) (nI (60 * j + a0 + b0)) (nI r) dn wo (nI rd))) rfl ?_
          have hCc := hCb.o (fa2 := 0) (tr2 := tr) (at2 := nI (60 * j + a0 + b0)) (rr2 := nI r) (dn2 := dn) (wo2 := wo) (rd2 := nI rd) (n2 := r) hr7
          have fc := (fa1.tr x1).tr (frM.up (E := E_67) (k := 34) (c := mO ad 0 tr (nI r) (nI (60 * j + a0 + b0)) (nI r) dn wo (nI rd)) (by omega))
          generalize va_up E_67 34 (mO ad 0 tr (nI r) (nI (60 * j + a0 + b0)) (nI r) dn wo (nI rd)) = Ec at hCc fc ⊢
          refine G_iconst (v := 0) hk dX6_rules_92 (by decide) ?_
          refine G_istore hk dX6_rules_93 (by decide) rfl ?_
          have hl := lp_rules hk Ec 0 tr (nI (60 * j + a0 + b0)) (nI r) dn wo (nI rd) r so sl ce pa rz2 dl ke p2 w2 36 0 Ec (by omega) (by omega) (by
            have e : (fun x => if x < 0 then rz2 x else pa x) = pa := by
              funext x
              exact if_neg (by omega)
            rw [e]
            exact hCc) frM.rf
          refine G_lv (by exact And.intro rfl (And.intro rfl (trivial))) (G_post hl ?_)
          rintro rr' aa E2 ⟨v, rfl, rfl, rfl, hC2, f4⟩
          have hft := sFault_t hgo (by omega)
          have hb : bRulesD la sz cl (nI j) a (nI a0) (nI b0) = true := bRulesD_t ⟨c_9, c_18, by rw [hixj]; exact hfas, hm0, by rw [hixj]; exact hhc, by rw [hixj, hixa, hixb]; exact hft⟩
          refine ⟨_, rfl, rfl, ?_, ?_, fc.tr f4⟩
          · unfold vRules
            rw [if_pos c_9, if_pos c_18, hixj, hixa, hixb, if_pos hfas, if_neg hm0, sHcD_t hhc, if_pos rfl, if_pos hft]
            congr 1
            omega
          · unfold nRules rRules dRules
            rw [hb, hff, if_pos rfl, if_pos rfl, if_pos rfl, hixj, hixa, hixb, show (b0 - 1) / 6 = r by omega]
            refine ⟨_, _, _, _, _, _, _, _, _, _, _, _, _, hC2, Nat.zero_le 8, fun i hi q hq => ?_, fun q hq => absurd hq (Nat.not_lt_zero q), hso, hsl, hsz⟩
            show (if 5 * i + q < 35 then rz2 (5 * i + q) else pa (5 * i + q)) = _
            rw [if_pos (by omega)]
            exact hz i hi q hq
        · try simp only [gB_ne, gB_eq, Decidable.not_not] at c_70
          obtain ⟨x1, ⟨z1, -⟩ | ⟨-, pf, rr2, rz2, tf, hCb⟩⟩ := h_67
          · exact absurd (z1.symm.trans c_70) (by decide)
          have u1 := hCb.1
          have hpf := tf.1
          refine G_bipush (v := (-100)) hk dX6_rules_73 (by decide) ?_
          refine G_aload_n (i := 0) hk dX6_rules_75 rfl rfl ?_
          refine G_get hk fX6_71 dX6_rules_76 (by assumption) (by rfl) (by first | decide | omega) ?_
          refine G_iload hk dX6_rules_79 rfl ?_
          refine G_isub hk dX6_rules_81 ?_
          rw [pk_sub (by omega), Nat.add_sub_cancel_left]
          refine G_isub hk dX6_rules_82 ?_
          refine G_iret hk dX6_rules_83 ?_
          have hne : ¬ sFault (fun p => cl j (a0 + p)) b0 = -1 := by rw [tf.ft]; exact nI_nm1 (by omega)
          have hb : bRulesD la sz cl (nI j) a (nI a0) (nI b0) = false := bRulesD_f (fun z => hne (by have z2 := z.2.2.2.2.2; rw [hixj, hixa, hixb] at z2; exact z2))
          refine ⟨?_, ?_, fa1.tr x1⟩
          · unfold vRules
            rw [if_pos c_9, if_pos c_18, hixj, hixa, hixb, if_pos hfas, if_neg hm0, sHcD_t hhc, if_pos rfl, if_neg hne, tf.ft]
          · unfold nRules rRules dRules
            rw [hb, hff]
            exact ⟨_, _, _, _, _, _, _, _, _, _, _, _, _, hCb, hrd8, hag, hrd, hso, hsl, hsz⟩
      · try simp only [gB_ne, gB_eq, Decidable.not_not] at c_37
        refine G_aload_n (i := 0) hk dX6_rules_40 rfl rfl ?_
        refine G_iload hk dX6_rules_41 rfl ?_
        refine G_cVi hk (c_X6_fails l V ad E1 n rd R rp rw tr 0 la sz cl hR1 ho0 (sAg (la j) (sz j) a i m)) mX6_fails vX6_fails kX6_68 dX6_rules_43 (by assumption) (by rfl) (by first | decide | omega) rfl (by decide) (by decide) rfl (Nat.le_of_ble_eq_true rfl) (fun r_43 E_43 h_43 => ?_)
        obtain ⟨rfl, hRf, xf⟩ := h_43
        refine G_iret hk dX6_rules_46 ?_
        have hn := sAg_n c_37
        have hb : bRulesD la sz cl (nI j) a i m = false := bRulesD_f (fun z => hn (by have z2 := z.2.2; rw [hixj] at z2; exact ⟨z2.1, z2.2.1, z2.2.2.1⟩))
        refine ⟨?_, ?_, f1.tr xf⟩
        · unfold vRules sAg
          rw [if_pos c_9, if_pos c_18, hixj]
          by_cases h1 : sFas (la j) a = 0
          · rw [if_pos h1, if_pos h1]
            by_cases h2 : m < 0
            · rw [if_pos h2, if_pos h2]; rfl
            · rw [if_neg h2, if_neg h2, sHcD_f (fun z => hn ⟨h1, h2, z⟩)]; rfl
          · rw [if_neg h1, if_neg h1]
        · have ef : fRules la sz (nI j) a i m = sAg (la j) (sz j) a i m := by
            unfold fRules sAg
            rw [if_pos c_9, if_pos c_18, hixj]
          unfold nRules rRules dRules
          rw [hb, ef]
          exact hRf
    · try simp only [gB_ne, gB_eq, Decidable.not_not] at c_18
      refine G_bipush (v := (-2)) hk dX6_rules_21 (by decide) ?_
      refine G_iret hk dX6_rules_23 ?_
      exact ⟨by unfold vRules; rw [if_pos c_9, if_neg c_18], by unfold nRules rRules dRules fRules; rw [bRulesD_f (fun z => c_18 z.2.1), if_pos c_9, if_neg c_18]; exact hR1, f1⟩
  · try simp only [gB_ne, gB_eq, Decidable.not_not] at c_9
    refine G_iconst (v := (-1)) hk dX6_rules_12 (by decide) ?_
    refine G_iret hk dX6_rules_13 ?_
    exact ⟨by unfold vRules; rw [if_neg c_9], by unfold nRules rRules dRules fRules; rw [bRulesD_f (fun z => c_9 z.1), if_neg c_9]; exact hR1, f1⟩
