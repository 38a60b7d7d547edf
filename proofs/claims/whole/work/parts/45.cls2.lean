set_option maxHeartbeats 4000000 in
set_option maxRecDepth 100000 in
theorem c_X5_ask (l : Launch) (V : gV) (ad : Nat → Nat) (E : Nat → va_E) (n rd : Nat) (R : Nat → Nat → Int32) (rp rw : Nat → Int32) (tr fa : Int32) (la : Nat → Int32) (sz : Nat → Nat) (cl : Nat → Nat → Int32) (hC : cR V ad E (n, R, rd, rp, rw, tr, fa, la, sz, cl)) (x w : Int32) : Ct l V ad 44 44 yX5_ask cX5_ask 4 (some .int) { frames := 2, cells := 0, slots := 0, locals := 48 } [.ref (ad 0), .int x, .int w] E (pI ad (fun v E2 => v = vAsk n R x w ∧ cR V ad E2 (n, R, rd, rp, rw, tr, fa, la, sz, cl) ∧ fr E E2)) := by
  refine gCt mX5_ask (Nat.le_of_ble_eq_true rfl) ?_
  intro K hk
  obtain ⟨h0, ⟨π, hB⟩, ⟨dn, wo, dl, hA⟩, ⟨n2, π2, R2, hB2⟩, ⟨dn2, wo2, dl2, hA2⟩, h3, h4, h5, h6, h7⟩ := id hC
  obtain ⟨b0, b1, b2, b3, b4, b5, -⟩ := id hB
  obtain ⟨a0, a1⟩ := id hA
  have hn0 : nI n = 0 ↔ n = 0 := neq (b := 0) (by omega) (by omega)
  refine G_iload_n (i := 1) hk dX5_ask_0 rfl rfl ?_
  refine G_cSi hk (c_X5_isPoint l V ad E x) mX5_isPoint sX5_isPoint kX5_122 dX5_ask_1 rfl (by decide) (by decide) rfl (Nat.le_of_ble_eq_true rfl) (fun r_1 E_1 h_1 => ?_)
  obtain ⟨rfl, rfl⟩ := h_1
  refine G_if_ne (tgt := 10) hk dX5_ask_4 (by decide) (fun c_4 => ?_) (fun c_4 => ?_)
  · try simp only [gB_ne, gB_eq, Decidable.not_not] at c_4
    refine G_iload_n (i := 2) hk dX5_ask_10 rfl rfl ?_
    refine G_iconst (v := 0) hk dX5_ask_11 (by decide) ?_
    refine G_iconst (v := 1) hk dX5_ask_12 (by decide) ?_
    refine G_cSi hk (c_X5_isIn l V ad E w 0 1) mX5_isIn sX5_isIn kX5_43 dX5_ask_13 rfl (by decide) (by decide) rfl (Nat.le_of_ble_eq_true rfl) (fun r_13 E_13 h_13 => ?_)
    obtain ⟨rfl, rfl⟩ := h_13
    refine G_if_ne (tgt := 33) hk dX5_ask_16 (by decide) (fun c_16 => ?_) (fun c_16 => ?_)
    · try simp only [gB_ne, gB_eq, Decidable.not_not] at c_16
      have hw : (0 ≤ w ∧ w ≤ 1) ∨ (10 ≤ w ∧ w ≤ 17) := Or.inl c_16
      refine G_aload_n (i := 0) hk dX5_ask_33 rfl rfl ?_
      refine G_get hk fX5_12 dX5_ask_34 (by assumption) (by rfl) (by first | decide | omega) ?_
      refine G_get hk fX5_71 dX5_ask_37 (by assumption) (by rfl) (by first | decide | omega) ?_
      refine G_if_ne (tgt := 46) hk dX5_ask_40 (by decide) (fun c_40 => ?_) (fun c_40 => ?_)
      · try simp only [gB_ne, gB_eq, Decidable.not_not] at c_40
        have hn : ¬ n = 0 := fun q => c_40 (hn0.mpr q)
        refine G_aload_n (i := 0) hk dX5_ask_46 rfl rfl ?_
        refine G_get hk fX5_12 dX5_ask_47 (by assumption) (by rfl) (by first | decide | omega) ?_
        refine G_get hk fX5_128 dX5_ask_50 (by assumption) (by rfl) (by first | decide | omega) ?_
        refine G_astore_n (i := 3) hk dX5_ask_53 rfl (by decide) rfl ?_
        refine G_aload_n (i := 3) hk dX5_ask_54 rfl rfl ?_
        refine G_aload_n (i := 0) hk dX5_ask_55 rfl rfl ?_
        refine G_get hk fX5_12 dX5_ask_56 (by assumption) (by rfl) (by first | decide | omega) ?_
        refine G_iload_n (i := 1) hk dX5_ask_59 rfl rfl ?_
        refine G_iconst (v := (-1)) hk dX5_ask_60 (by decide) ?_
        refine G_cVv hk (c_X0_walk l V ad E 1 n π R hB dn wo dl hA 99 (-1) hw99 x) mX0_walk vX0_walk kX5_132 dX5_ask_61 (by assumption) (by rfl) (by first | decide | omega) rfl (by decide) (by decide) rfl (Nat.le_of_ble_eq_true rfl) (fun E_61 h_61 => ?_)
        have hX := h_61.x
        obtain ⟨x1, dl3, hA3, hd3⟩ := h_61
        have hlen : (sAn R 99 n 0 x).2.length ≤ 8 := Nat.le_trans sAn_len (by omega)
        obtain ⟨a30, a31⟩ := id hA3
        refine G_iload_n (i := 2) hk dX5_ask_64 rfl rfl ?_
        refine G_if_ne (tgt := 73) hk dX5_ask_65 (by decide) (fun c_65 => ?_) (fun c_65 => ?_)
        · try simp only [gB_ne, gB_eq, Decidable.not_not] at c_65
          refine G_iload_n (i := 2) hk dX5_ask_73 rfl rfl ?_
          refine G_iconst (v := 1) hk dX5_ask_74 (by decide) ?_
          refine G_icmp_ne (tgt := 83) hk dX5_ask_75 (by decide) (fun c_75 => ?_) (fun c_75 => ?_)
          · try simp only [gB_ne, gB_eq, Decidable.not_not] at c_75
            have hw0 : ¬ w = 0 := c_65
            have hw1 : ¬ w = 1 := by first | exact c_75 | exact Decidable.not_not.mp c_75
            have hw2 : 10 ≤ w ∧ w ≤ 17 := hw.elim (fun q => by exfalso; have a := q.1; have b := q.2; (simp only [fa_lt, fa_le, fa_eq, iT_0, iT_1, iT_10, iT_17, iTm1, iTm2, iTm3, iTm4, iTm9] at *; omega)) id
            obtain ⟨t, ht, e⟩ : ∃ t : Nat, t ≤ 7 ∧ w - 10 = nI t := by
              have a : (w - 10).toInt = w.toInt - 10 := by
                have a1 := (fa_le _ _).mp hw2.1
                have a2 := (fa_le _ _).mp hw2.2
                rw [iT_10] at a1
                rw [show (17 : Int32).toInt = 17 by decide] at a2
                have := Int32.toInt_sub w 10
                rw [iT_10] at this
                rw [this]
                exact i32_bmod (by omega) (by omega)
              refine gIe (n := 7) ?_ ?_ (by omega)
              · rw [fa_le, a, iT_0]
                have a1 := (fa_le _ _).mp hw2.1
                rw [iT_10] at a1
                omega
              · rw [fa_le, a, show (nI 7).toInt = 7 by decide]
                have a2 := (fa_le _ _).mp hw2.2
                rw [show (17 : Int32).toInt = 17 by decide] at a2
                omega
            refine G_aload_n (i := 3) hk dX5_ask_83 rfl rfl ?_
            refine G_iload_n (i := 2) hk dX5_ask_84 rfl rfl ?_
            refine G_bipush (v := 10) hk dX5_ask_85 (by decide) ?_
            refine G_isub hk dX5_ask_87 ?_
            rw [e]
            refine G_cVi hk (c_X0_denier l V ad E_61 1 (by omega) _ hlen _ dl3 hA3 t (by omega)) mX0_denier vX0_denier kX5_144 dX5_ask_88 (by assumption) (by rfl) (by first | decide | omega) rfl (by decide) (by decide) rfl (Nat.le_of_ble_eq_true rfl) (fun r_88 E_88 h_88 => ?_)
            obtain ⟨rfl, rfl⟩ := h_88
            refine G_iret hk dX5_ask_91 ?_
            refine ⟨?_, hC.ask hX, fr.aX hX (by omega)⟩
            unfold vAsk
            rw [if_pos c_4, if_pos hw, if_neg hn, if_neg hw0, if_neg hw1, e, ix_nI (by omega)]
            by_cases hq : t < (sAn R 99 n 0 x).2.length
            · rw [if_pos hq, hd3 t hq, getD_lt hq]
            · rw [if_neg hq, getD_ge hq]
          · try simp only [gB_ne, gB_eq, Decidable.not_not] at c_75
            refine G_aload_n (i := 3) hk dX5_ask_78 rfl rfl ?_
            refine G_get hk fX5_141 dX5_ask_79 (by assumption) (by rfl) (by first | decide | omega) ?_
            refine G_iret hk dX5_ask_82 ?_
            exact ⟨by unfold vAsk; rw [if_pos c_4, if_pos hw, if_neg hn, if_neg c_65, if_pos (by first | exact c_75 | exact Decidable.not_not.mp c_75)], hC.ask hX, fr.aX hX (by omega)⟩
        · try simp only [gB_ne, gB_eq, Decidable.not_not] at c_65
          refine G_aload_n (i := 3) hk dX5_ask_68 rfl rfl ?_
          refine G_get hk fX5_138 dX5_ask_69 (by assumption) (by rfl) (by first | decide | omega) ?_
          refine G_iret hk dX5_ask_72 ?_
          exact ⟨by unfold vAsk; rw [if_pos c_4, if_pos hw, if_neg hn, if_pos (by first | exact c_65 | exact Decidable.not_not.mp c_65)], hC.ask hX, fr.aX hX (by omega)⟩
      · try simp only [gB_ne, gB_eq, Decidable.not_not] at c_40
        have hn : n = 0 := hn0.mp (by first | exact c_40 | exact Decidable.not_not.mp c_40)
        refine G_bipush (v := (-3)) hk dX5_ask_43 (by decide) ?_
        refine G_iret hk dX5_ask_45 ?_
        exact ⟨by unfold vAsk; (try first | rw [if_pos c_4] | rw [if_neg c_4]); (try first | rw [if_pos c_16] | rw [if_neg c_16]); (try first | rw [if_pos c_40] | rw [if_neg c_40]); (try first | rw [if_pos hw] | rw [if_neg hw]); (try first | rw [if_pos hn] | rw [if_neg hn]), hC, fr.rf⟩
    · try simp only [gB_ne, gB_eq, Decidable.not_not] at c_16
      refine G_iload_n (i := 2) hk dX5_ask_19 rfl rfl ?_
      refine G_bipush (v := 10) hk dX5_ask_20 (by decide) ?_
      refine G_bipush (v := 17) hk dX5_ask_22 (by decide) ?_
      refine G_cSi hk (c_X5_isIn l V ad E w 10 17) mX5_isIn sX5_isIn kX5_43 dX5_ask_24 rfl (by decide) (by decide) rfl (Nat.le_of_ble_eq_true rfl) (fun r_24 E_24 h_24 => ?_)
      obtain ⟨rfl, rfl⟩ := h_24
      refine G_if_ne (tgt := 33) hk dX5_ask_27 (by decide) (fun c_27 => ?_) (fun c_27 => ?_)
      · try simp only [gB_ne, gB_eq, Decidable.not_not] at c_27
        have hw : (0 ≤ w ∧ w ≤ 1) ∨ (10 ≤ w ∧ w ≤ 17) := Or.inr c_27
        refine G_aload_n (i := 0) hk dX5_ask_33 rfl rfl ?_
        refine G_get hk fX5_12 dX5_ask_34 (by assumption) (by rfl) (by first | decide | omega) ?_
        refine G_get hk fX5_71 dX5_ask_37 (by assumption) (by rfl) (by first | decide | omega) ?_
        refine G_if_ne (tgt := 46) hk dX5_ask_40 (by decide) (fun c_40 => ?_) (fun c_40 => ?_)
        · try simp only [gB_ne, gB_eq, Decidable.not_not] at c_40
          have hn : ¬ n = 0 := fun q => c_40 (hn0.mpr q)
          refine G_aload_n (i := 0) hk dX5_ask_46 rfl rfl ?_
          refine G_get hk fX5_12 dX5_ask_47 (by assumption) (by rfl) (by first | decide | omega) ?_
          refine G_get hk fX5_128 dX5_ask_50 (by assumption) (by rfl) (by first | decide | omega) ?_
          refine G_astore_n (i := 3) hk dX5_ask_53 rfl (by decide) rfl ?_
          refine G_aload_n (i := 3) hk dX5_ask_54 rfl rfl ?_
          refine G_aload_n (i := 0) hk dX5_ask_55 rfl rfl ?_
          refine G_get hk fX5_12 dX5_ask_56 (by assumption) (by rfl) (by first | decide | omega) ?_
          refine G_iload_n (i := 1) hk dX5_ask_59 rfl rfl ?_
          refine G_iconst (v := (-1)) hk dX5_ask_60 (by decide) ?_
          refine G_cVv hk (c_X0_walk l V ad E 1 n π R hB dn wo dl hA 99 (-1) hw99 x) mX0_walk vX0_walk kX5_132 dX5_ask_61 (by assumption) (by rfl) (by first | decide | omega) rfl (by decide) (by decide) rfl (Nat.le_of_ble_eq_true rfl) (fun E_61 h_61 => ?_)
          have hX := h_61.x
          obtain ⟨x1, dl3, hA3, hd3⟩ := h_61
          have hlen : (sAn R 99 n 0 x).2.length ≤ 8 := Nat.le_trans sAn_len (by omega)
          obtain ⟨a30, a31⟩ := id hA3
          refine G_iload_n (i := 2) hk dX5_ask_64 rfl rfl ?_
          refine G_if_ne (tgt := 73) hk dX5_ask_65 (by decide) (fun c_65 => ?_) (fun c_65 => ?_)
          · try simp only [gB_ne, gB_eq, Decidable.not_not] at c_65
            refine G_iload_n (i := 2) hk dX5_ask_73 rfl rfl ?_
            refine G_iconst (v := 1) hk dX5_ask_74 (by decide) ?_
            refine G_icmp_ne (tgt := 83) hk dX5_ask_75 (by decide) (fun c_75 => ?_) (fun c_75 => ?_)
            · try simp only [gB_ne, gB_eq, Decidable.not_not] at c_75
              have hw0 : ¬ w = 0 := c_65
              have hw1 : ¬ w = 1 := by first | exact c_75 | exact Decidable.not_not.mp c_75
              have hw2 : 10 ≤ w ∧ w ≤ 17 := hw.elim (fun q => by exfalso; have a := q.1; have b := q.2; (simp only [fa_lt, fa_le, fa_eq, iT_0, iT_1, iT_10, iT_17, iTm1, iTm2, iTm3, iTm4, iTm9] at *; omega)) id
              obtain ⟨t, ht, e⟩ : ∃ t : Nat, t ≤ 7 ∧ w - 10 = nI t := by
                have a : (w - 10).toInt = w.toInt - 10 := by
                  have a1 := (fa_le _ _).mp hw2.1
                  have a2 := (fa_le _ _).mp hw2.2
                  rw [iT_10] at a1
                  rw [show (17 : Int32).toInt = 17 by decide] at a2
                  have := Int32.toInt_sub w 10
                  rw [iT_10] at this
                  rw [this]
                  exact i32_bmod (by omega) (by omega)
                refine gIe (n := 7) ?_ ?_ (by omega)
                · rw [fa_le, a, iT_0]
                  have a1 := (fa_le _ _).mp hw2.1
                  rw [iT_10] at a1
                  omega
                · rw [fa_le, a, show (nI 7).toInt = 7 by decide]
                  have a2 := (fa_le _ _).mp hw2.2
                  rw [show (17 : Int32).toInt = 17 by decide] at a2
                  omega
              refine G_aload_n (i := 3) hk dX5_ask_83 rfl rfl ?_
              refine G_iload_n (i := 2) hk dX5_ask_84 rfl rfl ?_
              refine G_bipush (v := 10) hk dX5_ask_85 (by decide) ?_
              refine G_isub hk dX5_ask_87 ?_
              rw [e]
              refine G_cVi hk (c_X0_denier l V ad E_61 1 (by omega) _ hlen _ dl3 hA3 t (by omega)) mX0_denier vX0_denier kX5_144 dX5_ask_88 (by assumption) (by rfl) (by first | decide | omega) rfl (by decide) (by decide) rfl (Nat.le_of_ble_eq_true rfl) (fun r_88 E_88 h_88 => ?_)
              obtain ⟨rfl, rfl⟩ := h_88
              refine G_iret hk dX5_ask_91 ?_
              refine ⟨?_, hC.ask hX, fr.aX hX (by omega)⟩
              unfold vAsk
              rw [if_pos c_4, if_pos hw, if_neg hn, if_neg hw0, if_neg hw1, e, ix_nI (by omega)]
              by_cases hq : t < (sAn R 99 n 0 x).2.length
              · rw [if_pos hq, hd3 t hq, getD_lt hq]
              · rw [if_neg hq, getD_ge hq]
            · try simp only [gB_ne, gB_eq, Decidable.not_not] at c_75
              refine G_aload_n (i := 3) hk dX5_ask_78 rfl rfl ?_
              refine G_get hk fX5_141 dX5_ask_79 (by assumption) (by rfl) (by first | decide | omega) ?_
              refine G_iret hk dX5_ask_82 ?_
              exact ⟨by unfold vAsk; rw [if_pos c_4, if_pos hw, if_neg hn, if_neg c_65, if_pos (by first | exact c_75 | exact Decidable.not_not.mp c_75)], hC.ask hX, fr.aX hX (by omega)⟩
          · try simp only [gB_ne, gB_eq, Decidable.not_not] at c_65
            refine G_aload_n (i := 3) hk dX5_ask_68 rfl rfl ?_
            refine G_get hk fX5_138 dX5_ask_69 (by assumption) (by rfl) (by first | decide | omega) ?_
            refine G_iret hk dX5_ask_72 ?_
            exact ⟨by unfold vAsk; rw [if_pos c_4, if_pos hw, if_neg hn, if_pos (by first | exact c_65 | exact Decidable.not_not.mp c_65)], hC.ask hX, fr.aX hX (by omega)⟩
        · try simp only [gB_ne, gB_eq, Decidable.not_not] at c_40
          have hn : n = 0 := hn0.mp (by first | exact c_40 | exact Decidable.not_not.mp c_40)
          refine G_bipush (v := (-3)) hk dX5_ask_43 (by decide) ?_
          refine G_iret hk dX5_ask_45 ?_
          exact ⟨by unfold vAsk; (try first | rw [if_pos c_4] | rw [if_neg c_4]); (try first | rw [if_pos c_16] | rw [if_neg c_16]); (try first | rw [if_pos c_27] | rw [if_neg c_27]); (try first | rw [if_pos c_40] | rw [if_neg c_40]); (try first | rw [if_pos hw] | rw [if_neg hw]); (try first | rw [if_pos hn] | rw [if_neg hn]), hC, fr.rf⟩
      · try simp only [gB_ne, gB_eq, Decidable.not_not] at c_27
        have hw : ¬ ((0 ≤ w ∧ w ≤ 1) ∨ (10 ≤ w ∧ w ≤ 17)) := fun q => q.elim c_16 c_27
        refine G_bipush (v := (-2)) hk dX5_ask_30 (by decide) ?_
        refine G_iret hk dX5_ask_32 ?_
        exact ⟨by unfold vAsk; (try first | rw [if_pos c_4] | rw [if_neg c_4]); (try first | rw [if_pos c_16] | rw [if_neg c_16]); (try first | rw [if_pos c_27] | rw [if_neg c_27]); (try first | rw [if_pos hw] | rw [if_neg hw]); (try first | rw [if_pos hn] | rw [if_neg hn]), hC, fr.rf⟩
  · try simp only [gB_ne, gB_eq, Decidable.not_not] at c_4
    refine G_bipush (v := (-2)) hk dX5_ask_7 (by decide) ?_
    refine G_iret hk dX5_ask_9 ?_
    exact ⟨by unfold vAsk; (try first | rw [if_pos c_4] | rw [if_neg c_4]); (try first | rw [if_pos hw] | rw [if_neg hw]); (try first | rw [if_pos hn] | rw [if_neg hn]), hC, fr.rf⟩

set_option maxHeartbeats 4000000 in
set_option maxRecDepth 100000 in
theorem c_X5_whole (l : Launch) (V : gV) (ad : Nat → Nat) (E : Nat → va_E) (n rd : Nat) (R : Nat → Nat → Int32) (rp rw : Nat → Int32) (tr fa : Int32) (la : Nat → Int32) (sz : Nat → Nat) (cl : Nat → Nat → Int32) (hC : cR V ad E (n, R, rd, rp, rw, tr, fa, la, sz, cl)) (w : Int32) : Ct l V ad 44 44 yX5_whole cX5_whole 2 (some .int) { frames := 5, cells := 0, slots := 0, locals := 114 } [.ref (ad 0), .int w] E (pI ad (fun v E2 => v = vWhole n R w ∧ cR V ad E2 (n, R, rd, rp, rw, tr, fa, la, sz, cl) ∧ fr E E2)) := by
  refine gCt mX5_whole (Nat.le_of_ble_eq_true rfl) ?_
  intro K hk
  obtain ⟨h0, ⟨π, hB⟩, ⟨dn, wo, dl, hA⟩, ⟨n2, π2, R2, hB2⟩, ⟨dn2, wo2, dl2, hA2⟩, h3, h4, h5, h6, h7⟩ := id hC
  obtain ⟨b0, b1, b2, b3, b4, b5, -⟩ := id hB
  obtain ⟨a0, a1⟩ := id hA
  have hn0 : nI n = 0 ↔ n = 0 := neq (b := 0) (by omega) (by omega)
  refine G_iload_n (i := 1) hk dX5_whole_0 rfl rfl ?_
  refine G_iconst (v := 0) hk dX5_whole_1 (by decide) ?_
  refine G_iconst (v := 4) hk dX5_whole_2 (by decide) ?_
  refine G_cSi hk (c_X5_isIn l V ad E w 0 4) mX5_isIn sX5_isIn kX5_43 dX5_whole_3 rfl (by decide) (by decide) rfl (Nat.le_of_ble_eq_true rfl) (fun r_3 E_3 h_3 => ?_)
  obtain ⟨rfl, rfl⟩ := h_3
  refine G_if_ne (tgt := 12) hk dX5_whole_6 (by decide) (fun c_6 => ?_) (fun c_6 => ?_)
  · try simp only [gB_ne, gB_eq, Decidable.not_not] at c_6
    refine G_aload_n (i := 0) hk dX5_whole_12 rfl rfl ?_
    refine G_get hk fX5_12 dX5_whole_13 (by assumption) (by rfl) (by first | decide | omega) ?_
    refine G_get hk fX5_71 dX5_whole_16 (by assumption) (by rfl) (by first | decide | omega) ?_
    refine G_if_ne (tgt := 25) hk dX5_whole_19 (by decide) (fun c_19 => ?_) (fun c_19 => ?_)
    · try simp only [gB_ne, gB_eq, Decidable.not_not] at c_19
      have hn : ¬ n = 0 := fun q => c_19 (hn0.mpr q)
      refine G_iload_n (i := 1) hk dX5_whole_25 rfl rfl ?_
      by_cases q26_0 : w = 0
      · skip
        refine G_tbl (off := 30) (tgt := 56) 0 hk dX5_whole_26 (by rw [q26_0]; decide) (by decide) (by decide) (by rfl) (by decide) ?_
        refine G_aload_n (i := 0) hk dX5_whole_56 rfl rfl ?_
        refine G_get hk fX5_12 dX5_whole_57 (by assumption) (by rfl) (by first | decide | omega) ?_
        refine G_cVi hk (c_X1_countRuns l V ad E 1 n π R hB) mX1_countRuns vX1_countRuns kX5_167 dX5_whole_60 (by assumption) (by rfl) (by first | decide | omega) rfl (by decide) (by decide) rfl (Nat.le_of_ble_eq_true rfl) (fun r_60 E_60 h_60 => ?_)
        obtain ⟨rfl, rfl⟩ := h_60
        refine G_iret hk dX5_whole_63 ?_
        exact ⟨by unfold vWhole; (try first | rw [if_pos c_6] | rw [if_neg c_6]); (try first | rw [if_pos c_19] | rw [if_neg c_19]); (try first | rw [if_pos q26_0] | rw [if_neg q26_0]); (try first | rw [if_pos hn] | rw [if_neg hn]); (try first | rw [if_pos c_6] | rw [if_neg c_6]); (try first | rw [if_pos c_19] | rw [if_neg c_19]); (try first | rw [if_pos q26_0] | rw [if_neg q26_0]), hC, fr.rf⟩
      · skip
        by_cases q26_1 : w = 1
        · skip
          refine G_tbl (off := 38) (tgt := 64) 1 hk dX5_whole_26 (by rw [q26_1]; decide) (by decide) (by decide) (by rfl) (by decide) ?_
          refine G_aload_n (i := 0) hk dX5_whole_64 rfl rfl ?_
          refine G_get hk fX5_12 dX5_whole_65 (by assumption) (by rfl) (by first | decide | omega) ?_
          refine G_cVi hk (c_X1_shadowed l V ad E 1 n π R hB) mX1_shadowed vX1_shadowed kX5_170 dX5_whole_68 (by assumption) (by rfl) (by first | decide | omega) rfl (by decide) (by decide) rfl (Nat.le_of_ble_eq_true rfl) (fun r_68 E_68 h_68 => ?_)
          obtain ⟨rfl, rfl⟩ := h_68
          refine G_iret hk dX5_whole_71 ?_
          exact ⟨by unfold vWhole; (try first | rw [if_pos c_6] | rw [if_neg c_6]); (try first | rw [if_pos c_19] | rw [if_neg c_19]); (try first | rw [if_pos q26_0] | rw [if_neg q26_0]); (try first | rw [if_pos q26_1] | rw [if_neg q26_1]); (try first | rw [if_pos hn] | rw [if_neg hn]); (try first | rw [if_pos c_6] | rw [if_neg c_6]); (try first | rw [if_pos c_19] | rw [if_neg c_19]); (try first | rw [if_pos q26_0] | rw [if_neg q26_0]); (try first | rw [if_pos q26_1] | rw [if_neg q26_1]), hC, fr.rf⟩
        · skip
          by_cases q26_2 : w = 2
          · skip
            refine G_tbl (off := 46) (tgt := 72) 2 hk dX5_whole_26 (by rw [q26_2]; decide) (by decide) (by decide) (by rfl) (by decide) ?_
            refine G_aload_n (i := 0) hk dX5_whole_72 rfl rfl ?_
            refine G_get hk fX5_12 dX5_whole_73 (by assumption) (by rfl) (by first | decide | omega) ?_
            refine G_cVi hk (c_X1_needed l V ad E 1 n π R hB dn wo dl hA) mX1_needed vX1_needed kX5_173 dX5_whole_76 (by assumption) (by rfl) (by first | decide | omega) rfl (by decide) (by decide) rfl (Nat.le_of_ble_eq_true rfl) (fun r_76 E_76 h_76 => ?_)
            obtain ⟨rfl, hX⟩ := h_76
            refine G_iret hk dX5_whole_79 ?_
            exact ⟨by unfold vWhole; (try first | rw [if_pos c_6] | rw [if_neg c_6]); (try first | rw [if_pos c_19] | rw [if_neg c_19]); (try first | rw [if_pos q26_0] | rw [if_neg q26_0]); (try first | rw [if_pos q26_1] | rw [if_neg q26_1]); (try first | rw [if_pos q26_2] | rw [if_neg q26_2]); (try first | rw [if_pos hn] | rw [if_neg hn]); (try first | rw [if_pos c_6] | rw [if_neg c_6]); (try first | rw [if_pos c_19] | rw [if_neg c_19]); (try first | rw [if_pos q26_0] | rw [if_neg q26_0]); (try first | rw [if_pos q26_1] | rw [if_neg q26_1]); (try first | rw [if_pos q26_2] | rw [if_neg q26_2]), hC.ask hX, fr.aX hX (by omega)⟩
          · skip
            by_cases q26_3 : w = 3
            · skip
              refine G_tbl (off := 54) (tgt := 80) 3 hk dX5_whole_26 (by rw [q26_3]; decide) (by decide) (by decide) (by rfl) (by decide) ?_
              refine G_aload_n (i := 0) hk dX5_whole_80 rfl rfl ?_
              refine G_get hk fX5_12 dX5_whole_81 (by assumption) (by rfl) (by first | decide | omega) ?_
              refine G_cVi hk (c_X1_countDenied l V ad E 1 n π R hB dn wo dl hA) mX1_countDenied vX1_countDenied kX5_176 dX5_whole_84 (by assumption) (by rfl) (by first | decide | omega) rfl (by decide) (by decide) rfl (Nat.le_of_ble_eq_true rfl) (fun r_84 E_84 h_84 => ?_)
              obtain ⟨rfl, hX⟩ := h_84
              refine G_iret hk dX5_whole_87 ?_
              exact ⟨by unfold vWhole; (try first | rw [if_pos c_6] | rw [if_neg c_6]); (try first | rw [if_pos c_19] | rw [if_neg c_19]); (try first | rw [if_pos q26_0] | rw [if_neg q26_0]); (try first | rw [if_pos q26_1] | rw [if_neg q26_1]); (try first | rw [if_pos q26_2] | rw [if_neg q26_2]); (try first | rw [if_pos q26_3] | rw [if_neg q26_3]); (try first | rw [if_pos hn] | rw [if_neg hn]); (try first | rw [if_pos c_6] | rw [if_neg c_6]); (try first | rw [if_pos c_19] | rw [if_neg c_19]); (try first | rw [if_pos q26_0] | rw [if_neg q26_0]); (try first | rw [if_pos q26_1] | rw [if_neg q26_1]); (try first | rw [if_pos q26_2] | rw [if_neg q26_2]); (try first | rw [if_pos q26_3] | rw [if_neg q26_3]), hC.ask hX, fr.aX hX (by omega)⟩
            · skip
              refine G_tableOut (tgt := 88) hk dX5_whole_26 (by have a_0 := lv_neT (a := 0) q26_0 (by decide); have a_1 := lv_neT (a := 1) q26_1 (by decide); have a_2 := lv_neT (a := 2) q26_2 (by decide); have a_3 := lv_neT (a := 3) q26_3 (by decide); omega) (by decide) ?_
              refine G_aload_n (i := 0) hk dX5_whole_88 rfl rfl ?_
              refine G_get hk fX5_12 dX5_whole_89 (by assumption) (by rfl) (by first | decide | omega) ?_
              refine G_cVi hk (c_X1_worthTogether l V ad E 1 n π R hB dn wo dl hA) mX1_worthTogether vX1_worthTogether kX5_179 dX5_whole_92 (by assumption) (by rfl) (by first | decide | omega) rfl (by decide) (by decide) rfl (Nat.le_of_ble_eq_true rfl) (fun r_92 E_92 h_92 => ?_)
              obtain ⟨rfl, hX⟩ := h_92
              refine G_iret hk dX5_whole_95 ?_
              exact ⟨by unfold vWhole; (try first | rw [if_pos c_6] | rw [if_neg c_6]); (try first | rw [if_pos c_19] | rw [if_neg c_19]); (try first | rw [if_pos q26_0] | rw [if_neg q26_0]); (try first | rw [if_pos q26_1] | rw [if_neg q26_1]); (try first | rw [if_pos q26_2] | rw [if_neg q26_2]); (try first | rw [if_pos q26_3] | rw [if_neg q26_3]); (try first | rw [if_pos hn] | rw [if_neg hn]); (try first | rw [if_pos c_6] | rw [if_neg c_6]); (try first | rw [if_pos c_19] | rw [if_neg c_19]); (try first | rw [if_pos q26_0] | rw [if_neg q26_0]); (try first | rw [if_pos q26_1] | rw [if_neg q26_1]); (try first | rw [if_pos q26_2] | rw [if_neg q26_2]); (try first | rw [if_pos q26_3] | rw [if_neg q26_3]), hC.ask hX, fr.aX hX (by omega)⟩
    · try simp only [gB_ne, gB_eq, Decidable.not_not] at c_19
      have hn : n = 0 := hn0.mp (by first | exact c_19 | exact Decidable.not_not.mp c_19)
      refine G_bipush (v := (-3)) hk dX5_whole_22 (by decide) ?_
      refine G_iret hk dX5_whole_24 ?_
      exact ⟨by unfold vWhole; (try first | rw [if_pos c_6] | rw [if_neg c_6]); (try first | rw [if_pos c_19] | rw [if_neg c_19]); (try first | rw [if_pos hn] | rw [if_neg hn]); (try first | rw [if_pos c_6] | rw [if_neg c_6]); (try first | rw [if_pos c_19] | rw [if_neg c_19]), hC, fr.rf⟩
  · try simp only [gB_ne, gB_eq, Decidable.not_not] at c_6
    refine G_bipush (v := (-2)) hk dX5_whole_9 (by decide) ?_
    refine G_iret hk dX5_whole_11 ?_
    exact ⟨by unfold vWhole; (try first | rw [if_pos c_6] | rw [if_neg c_6]); (try first | rw [if_pos hn] | rw [if_neg hn]); (try first | rw [if_pos c_6] | rw [if_neg c_6]), hC, fr.rf⟩

set_option maxHeartbeats 4000000 in
set_option maxRecDepth 100000 in
theorem c_X5_ofRun (l : Launch) (V : gV) (ad : Nat → Nat) (E : Nat → va_E) (n rd : Nat) (R : Nat → Nat → Int32) (rp rw : Nat → Int32) (tr fa : Int32) (la : Nat → Int32) (sz : Nat → Nat) (cl : Nat → Nat → Int32) (hC : cR V ad E (n, R, rd, rp, rw, tr, fa, la, sz, cl)) (k w : Int32) : Ct l V ad 44 44 yX5_ofRun cX5_ofRun 4 (some .int) { frames := 5, cells := 0, slots := 0, locals := 106 } [.ref (ad 0), .int k, .int w] E (pI ad (fun v E2 => v = vOfRun n R k w ∧ cR V ad E2 (n, R, rd, rp, rw, tr, fa, la, sz, cl) ∧ fr E E2)) := by
  refine gCt mX5_ofRun (Nat.le_of_ble_eq_true rfl) ?_
  intro K hk
  obtain ⟨h0, ⟨π, hB⟩, ⟨dn, wo, dl, hA⟩, ⟨n2, π2, R2, hB2⟩, ⟨dn2, wo2, dl2, hA2⟩, h3, h4, h5, h6, h7⟩ := id hC
  obtain ⟨b0, b1, b2, b3, b4, b5, -⟩ := id hB
  obtain ⟨a0, a1⟩ := id hA
  have hn0 : nI n = 0 ↔ n = 0 := neq (b := 0) (by omega) (by omega)
  have hrl : sRunsN R n ≤ 26 := by
    unfold sRunsN
    by_cases hz : n = 0
    · rw [if_pos hz]; omega
    · rw [if_neg hz]; exact fa_cnt_le _ 26
  refine G_iload_n (i := 1) hk dX5_ofRun_0 rfl rfl ?_
  refine G_iconst (v := 0) hk dX5_ofRun_1 (by decide) ?_
  refine G_aload_n (i := 0) hk dX5_ofRun_2 rfl rfl ?_
  refine G_cVi hk (c_X5_runsNow l V ad E n rd R rp rw tr fa la sz cl hC) mX5_runsNow vX5_runsNow kX5_161 dX5_ofRun_3 (by assumption) (by rfl) (by first | decide | omega) rfl (by decide) (by decide) rfl (Nat.le_of_ble_eq_true rfl) (fun r_3 E_3 h_3 => ?_)
  obtain ⟨rfl, rfl⟩ := h_3
  refine G_iconst (v := 1) hk dX5_ofRun_6 (by decide) ?_
  refine G_isub hk dX5_ofRun_7 ?_
  refine G_cSi hk (c_X5_isIn l V ad E k 0 (nI (sRunsN R n) - 1)) mX5_isIn sX5_isIn kX5_43 dX5_ofRun_8 rfl (by decide) (by decide) rfl (Nat.le_of_ble_eq_true rfl) (fun r_8 E_8 h_8 => ?_)
  obtain ⟨rfl, rfl⟩ := h_8
  refine G_if_ne (tgt := 16) hk dX5_ofRun_11 (by decide) (fun c_11 => ?_) (fun c_11 => ?_)
  · try simp only [gB_ne, gB_eq, Decidable.not_not] at c_11
    have hpos : 0 < sRunsN R n := Nat.pos_of_ne_zero (fun q => by
      have a := c_11.1
      have b := c_11.2
      rw [q] at b
      exact absurd (Int32.le_trans a b) (by decide))
    have hm1 : nI (sRunsN R n) - 1 = nI (sRunsN R n - 1) := pk_sub (b := 1) hpos
    have hc2 := c_11.2
    rw [hm1] at hc2
    obtain ⟨j, hj, rfl⟩ := gIe c_11.1 hc2 (by omega)
    have hix : ix (nI j) = j := ix_nI (by omega)
    refine G_aload_n (i := 0) hk dX5_ofRun_16 rfl rfl ?_
    refine G_get hk fX5_12 dX5_ofRun_17 (by assumption) (by rfl) (by first | decide | omega) ?_
    refine G_iload_n (i := 1) hk dX5_ofRun_20 rfl rfl ?_
    refine G_cVi hk (c_X1_firstOfRun l V ad E 1 n π R hB j (by omega)) mX1_firstOfRun vX1_firstOfRun kX5_164 dX5_ofRun_21 (by assumption) (by rfl) (by first | decide | omega) rfl (by decide) (by decide) rfl (Nat.le_of_ble_eq_true rfl) (fun r_21 E_21 h_21 => ?_)
    obtain ⟨rfl, rfl⟩ := h_21
    refine G_istore_n (i := 3) hk dX5_ofRun_24 rfl (by decide) rfl ?_
    refine G_iload_n (i := 2) hk dX5_ofRun_25 rfl rfl ?_
    by_cases q26_0 : w = 0
    · skip
      refine G_tbl (off := 26) (tgt := 52) 0 hk dX5_ofRun_26 (by rw [q26_0]; decide) (by decide) (by decide) (by rfl) (by decide) ?_
      refine G_iload_n (i := 3) hk dX5_ofRun_52 rfl rfl ?_
      refine G_iret hk dX5_ofRun_53 ?_
      exact ⟨by unfold vOfRun; (try rw [hix]); (try first | rw [if_pos c_11] | rw [if_neg c_11]); (try first | rw [if_pos q26_0] | rw [if_neg q26_0]), hC, fr.rf⟩
    · skip
      by_cases q26_1 : w = 1
      · skip
        refine G_tbl (off := 28) (tgt := 54) 1 hk dX5_ofRun_26 (by rw [q26_1]; decide) (by decide) (by decide) (by rfl) (by decide) ?_
        refine G_aload_n (i := 0) hk dX5_ofRun_54 rfl rfl ?_
        refine G_get hk fX5_12 dX5_ofRun_55 (by assumption) (by rfl) (by first | decide | omega) ?_
        refine G_iload_n (i := 1) hk dX5_ofRun_58 rfl rfl ?_
        refine G_iconst (v := 1) hk dX5_ofRun_59 (by decide) ?_
        refine G_iadd hk dX5_ofRun_60 ?_
        rw [nI_i1]
        refine G_cVi hk (c_X1_firstOfRun l V ad E 1 n π R hB (j + 1) (by omega)) mX1_firstOfRun vX1_firstOfRun kX5_164 dX5_ofRun_61 (by assumption) (by rfl) (by first | decide | omega) rfl (by decide) (by decide) rfl (Nat.le_of_ble_eq_true rfl) (fun r_61 E_61 h_61 => ?_)
        obtain ⟨rfl, rfl⟩ := h_61
        refine G_iload_n (i := 3) hk dX5_ofRun_64 rfl rfl ?_
        refine G_isub hk dX5_ofRun_65 ?_
        refine G_iret hk dX5_ofRun_66 ?_
        exact ⟨by unfold vOfRun; (try rw [hix]); (try first | rw [if_pos c_11] | rw [if_neg c_11]); (try first | rw [if_pos q26_0] | rw [if_neg q26_0]); (try first | rw [if_pos q26_1] | rw [if_neg q26_1]), hC, fr.rf⟩
      · skip
        by_cases q26_2 : w = 2
        · skip
          refine G_tbl (off := 41) (tgt := 67) 2 hk dX5_ofRun_26 (by rw [q26_2]; decide) (by decide) (by decide) (by rfl) (by decide) ?_
          refine G_aload_n (i := 0) hk dX5_ofRun_67 rfl rfl ?_
          refine G_get hk fX5_12 dX5_ofRun_68 (by assumption) (by rfl) (by first | decide | omega) ?_
          refine G_iload_n (i := 3) hk dX5_ofRun_71 rfl rfl ?_
          refine G_cVi hk (c_X1_winnerOf l V ad E 1 n π R hB _) mX1_winnerOf vX1_winnerOf kX5_125 dX5_ofRun_72 (by assumption) (by rfl) (by first | decide | omega) rfl (by decide) (by decide) rfl (Nat.le_of_ble_eq_true rfl) (fun r_72 E_72 h_72 => ?_)
          obtain ⟨rfl, rfl⟩ := h_72
          refine G_iret hk dX5_ofRun_75 ?_
          exact ⟨by unfold vOfRun; (try rw [hix]); (try first | rw [if_pos c_11] | rw [if_neg c_11]); (try first | rw [if_pos q26_0] | rw [if_neg q26_0]); (try first | rw [if_pos q26_1] | rw [if_neg q26_1]); (try first | rw [if_pos q26_2] | rw [if_neg q26_2]), hC, fr.rf⟩
        · skip
          refine G_tableOut (tgt := 76) hk dX5_ofRun_26 (by have a_0 := lv_neT (a := 0) q26_0 (by decide); have a_1 := lv_neT (a := 1) q26_1 (by decide); have a_2 := lv_neT (a := 2) q26_2 (by decide); omega) (by decide) ?_
          refine G_bipush (v := (-2)) hk dX5_ofRun_76 (by decide) ?_
          refine G_iret hk dX5_ofRun_78 ?_
          exact ⟨by unfold vOfRun; (try rw [hix]); (try first | rw [if_pos c_11] | rw [if_neg c_11]); (try first | rw [if_pos q26_0] | rw [if_neg q26_0]); (try first | rw [if_pos q26_1] | rw [if_neg q26_1]); (try first | rw [if_pos q26_2] | rw [if_neg q26_2]), hC, fr.rf⟩
  · try simp only [gB_ne, gB_eq, Decidable.not_not] at c_11
    refine G_iconst (v := (-1)) hk dX5_ofRun_14 (by decide) ?_
    refine G_iret hk dX5_ofRun_15 ?_
    exact ⟨by unfold vOfRun; (try rw [hix]); (try first | rw [if_pos c_11] | rw [if_neg c_11]), hC, fr.rf⟩

set_option maxHeartbeats 4000000 in
set_option maxRecDepth 100000 in
theorem c_X5_reading (l : Launch) (V : gV) (ad : Nat → Nat) (E : Nat → va_E) (n rd : Nat) (R : Nat → Nat → Int32) (rp rw : Nat → Int32) (tr fa : Int32) (la : Nat → Int32) (sz : Nat → Nat) (cl : Nat → Nat → Int32) (hC : cR V ad E (n, R, rd, rp, rw, tr, fa, la, sz, cl)) (x v : Int32) : Ct l V ad 44 44 yX5_reading cX5_reading 4 (some .int) { frames := 2, cells := 0, slots := 0, locals := 42 } [.ref (ad 0), .int x, .int v] E (pI ad (fun z E2 => z = vReading n rd x v ∧ cR V ad E2 (n, R, dReading n rd x v, pReading n rd x v rp, wReading n rd x v rw, tr, fa, la, sz, cl) ∧ fr E E2)) := by
  refine gCt mX5_reading (Nat.le_of_ble_eq_true rfl) ?_
  intro K hk
  obtain ⟨h0, ⟨π, hB⟩, ⟨dn, wo, dl, hA⟩, ⟨n2, π2, R2, hB2⟩, ⟨dn2, wo2, dl2, hA2⟩, h3, h4, h5, h6, h7⟩ := id hC
  obtain ⟨b0, b1, b2, b3, b4, b5, -⟩ := id hB
  obtain ⟨a0, a1⟩ := id hA
  have hn0 : nI n = 0 ↔ n = 0 := neq (b := 0) (by omega) (by omega)
  have hr8 : nI rd < 8 ↔ rd < 8 := nlt (b := 8) (by omega) (by omega)
  refine G_aload_n (i := 0) hk dX5_reading_0 rfl rfl ?_
  refine G_get hk fX5_12 dX5_reading_1 (by assumption) (by rfl) (by first | decide | omega) ?_
  refine G_get hk fX5_71 dX5_reading_4 (by assumption) (by rfl) (by first | decide | omega) ?_
  refine G_if_ne (tgt := 13) hk dX5_reading_7 (by decide) (fun c_7 => ?_) (fun c_7 => ?_)
  · try simp only [gB_ne, gB_eq, Decidable.not_not] at c_7
    have hn : ¬ n = 0 := fun q => c_7 (hn0.mpr q)
    refine G_iload_n (i := 1) hk dX5_reading_13 rfl rfl ?_
    refine G_cSi hk (c_X5_isPoint l V ad E x) mX5_isPoint sX5_isPoint kX5_122 dX5_reading_14 rfl (by decide) (by decide) rfl (Nat.le_of_ble_eq_true rfl) (fun r_14 E_14 h_14 => ?_)
    obtain ⟨rfl, rfl⟩ := h_14
    refine G_if_ne (tgt := 23) hk dX5_reading_17 (by decide) (fun c_17 => ?_) (fun c_17 => ?_)
    · try simp only [gB_ne, gB_eq, Decidable.not_not] at c_17
      refine G_iload_n (i := 2) hk dX5_reading_23 rfl rfl ?_
      refine G_iconst (v := 0) hk dX5_reading_24 (by decide) ?_
      refine G_sipush (v := 200) hk dX5_reading_25 (by decide) ?_
      refine G_cSi hk (c_X5_isIn l V ad E v 0 200) mX5_isIn sX5_isIn kX5_43 dX5_reading_28 rfl (by decide) (by decide) rfl (Nat.le_of_ble_eq_true rfl) (fun r_28 E_28 h_28 => ?_)
      obtain ⟨rfl, rfl⟩ := h_28
      refine G_if_ne (tgt := 43) hk dX5_reading_31 (by decide) (fun c_31 => ?_) (fun c_31 => ?_)
      · try simp only [gB_ne, gB_eq, Decidable.not_not] at c_31
        have hv : (0 ≤ v ∧ v ≤ 200) ∨ v = -9 := Or.inl c_31
        refine G_aload_n (i := 0) hk dX5_reading_43 rfl rfl ?_
        refine G_get hk fX5_68 dX5_reading_44 (by assumption) (by rfl) (by first | decide | omega) ?_
        refine G_bipush (v := 8) hk dX5_reading_47 (by decide) ?_
        refine G_icmp_lt (tgt := 55) hk dX5_reading_49 (by decide) (fun c_49 => ?_) (fun c_49 => ?_)
        · try simp only [gB_ne, gB_eq, Decidable.not_not] at c_49
          have hlt := hr8.mp c_49
          refine G_aload_n (i := 0) hk dX5_reading_55 rfl rfl ?_
          refine G_get hk fX5_68 dX5_reading_56 (by assumption) (by rfl) (by first | decide | omega) ?_
          refine G_istore_n (i := 3) hk dX5_reading_59 rfl (by decide) rfl ?_
          refine G_aload_n (i := 0) hk dX5_reading_60 rfl rfl ?_
          refine G_get hk fX5_27 dX5_reading_61 (by assumption) (by rfl) (by first | decide | omega) ?_
          refine G_iload_n (i := 3) hk dX5_reading_64 rfl rfl ?_
          refine G_iload_n (i := 1) hk dX5_reading_65 rfl rfl ?_
          refine G_iastX (j := rd) hk dX5_reading_66 (by assumption) rfl (by omega) (by decide) (by first | decide | omega) ?_
          have z0 := (show (va_up E 24 (gI V 8 (upd rp rd x))) 0 = E 0 from va_up_ne _ _ (by omega)).trans h0
          have z5 := (show (va_up E 24 (gI V 8 (upd rp rd x))) 25 = E 25 from va_up_ne _ _ (by omega)).trans h5
          refine G_aload_n (i := 0) hk dX5_reading_67 rfl rfl ?_
          refine G_get hk fX5_31 dX5_reading_68 (by assumption) (by rfl) (by first | decide | omega) ?_
          refine G_iload_n (i := 3) hk dX5_reading_71 rfl rfl ?_
          refine G_iload_n (i := 2) hk dX5_reading_72 rfl rfl ?_
          refine G_iastX (j := rd) hk dX5_reading_73 (by assumption) rfl (by omega) (by decide) (by first | decide | omega) ?_
          have z0 := (show (va_up (va_up E 24 (gI V 8 (upd rp rd x))) 25 (gI V 8 (upd rw rd v))) 0 = _ from va_up_ne _ _ (by omega)).trans z0
          refine G_aload_n (i := 0) hk dX5_reading_74 rfl rfl ?_
          refine G_iload_n (i := 3) hk dX5_reading_75 rfl rfl ?_
          refine G_iconst (v := 1) hk dX5_reading_76 (by decide) ?_
          refine G_iadd hk dX5_reading_77 ?_
          refine G_put hk fX5_68 iX5_5 dX5_reading_78 (by assumption) (Nat.le_of_ble_eq_true rfl) (by first | decide | omega) ?_
          refine G_iload_n (i := 3) hk dX5_reading_81 rfl rfl ?_
          refine G_iret hk dX5_reading_82 ?_
          have hok : bReading n rd x v := ⟨hn, c_17, hv, by omega⟩
          have hC2 : cR V ad (va_up (va_up E 24 (gI V 8 (upd rp rd x))) 25 (gI V 8 (upd rw rd v))) (n, R, rd, upd rp rd x, upd rw rd v, tr, fa, la, sz, cl) := hC.out (fun k hk => by rw [va_up_ne _ _ (by omega), va_up_ne _ _ (by omega)]) (by rw [va_up_ne _ _ (by omega), va_up_self]) (va_up_self _ _ _) (fun s hs => by rw [va_up_ne _ _ (by omega), va_up_ne _ _ (by omega), va_up_ne _ _ (by omega), va_up_ne _ _ (by omega)]; exact h6 s hs)
          refine ⟨by unfold vReading; rw [if_neg hn, if_pos c_17, if_pos hv, if_neg (by omega)], ?_, ((fr.up (by omega)).tr (fr.up (by omega))).tr (fr.up (by omega))⟩
          unfold dReading pReading wReading
          rw [bReadingD_t hok, if_pos rfl, if_pos rfl, if_pos rfl, nI_i1]
          exact hC2.sc (by omega)
        · try simp only [gB_ne, gB_eq, Decidable.not_not] at c_49
          have h8 : rd = 8 := by have : ¬ rd < 8 := fun q => c_49 (hr8.mpr q); omega
          refine G_bipush (v := (-4)) hk dX5_reading_52 (by decide) ?_
          refine G_iret hk dX5_reading_54 ?_
          exact ⟨by unfold vReading; rw [if_neg hn, if_pos c_17, if_pos hv, if_pos h8], by unfold dReading pReading wReading; rw [bReadingD_f (fun q => q.2.2.2 h8)]; exact hC, fr.rf⟩
      · try simp only [gB_ne, gB_eq, Decidable.not_not] at c_31
        refine G_iload_n (i := 2) hk dX5_reading_34 rfl rfl ?_
        refine G_bipush (v := (-9)) hk dX5_reading_35 (by decide) ?_
        refine G_icmp_eq (tgt := 43) hk dX5_reading_37 (by decide) (fun c_37 => ?_) (fun c_37 => ?_)
        · try simp only [gB_ne, gB_eq, Decidable.not_not] at c_37
          have hv : (0 ≤ v ∧ v ≤ 200) ∨ v = -9 := Or.inr c_37
          refine G_aload_n (i := 0) hk dX5_reading_43 rfl rfl ?_
          refine G_get hk fX5_68 dX5_reading_44 (by assumption) (by rfl) (by first | decide | omega) ?_
          refine G_bipush (v := 8) hk dX5_reading_47 (by decide) ?_
          refine G_icmp_lt (tgt := 55) hk dX5_reading_49 (by decide) (fun c_49 => ?_) (fun c_49 => ?_)
          · try simp only [gB_ne, gB_eq, Decidable.not_not] at c_49
            have hlt := hr8.mp c_49
            refine G_aload_n (i := 0) hk dX5_reading_55 rfl rfl ?_
            refine G_get hk fX5_68 dX5_reading_56 (by assumption) (by rfl) (by first | decide | omega) ?_
            refine G_istore_n (i := 3) hk dX5_reading_59 rfl (by decide) rfl ?_
            refine G_aload_n (i := 0) hk dX5_reading_60 rfl rfl ?_
            refine G_get hk fX5_27 dX5_reading_61 (by assumption) (by rfl) (by first | decide | omega) ?_
            refine G_iload_n (i := 3) hk dX5_reading_64 rfl rfl ?_
            refine G_iload_n (i := 1) hk dX5_reading_65 rfl rfl ?_
            refine G_iastX (j := rd) hk dX5_reading_66 (by assumption) rfl (by omega) (by decide) (by first | decide | omega) ?_
            have z0 := (show (va_up E 24 (gI V 8 (upd rp rd x))) 0 = E 0 from va_up_ne _ _ (by omega)).trans h0
            have z5 := (show (va_up E 24 (gI V 8 (upd rp rd x))) 25 = E 25 from va_up_ne _ _ (by omega)).trans h5
            refine G_aload_n (i := 0) hk dX5_reading_67 rfl rfl ?_
            refine G_get hk fX5_31 dX5_reading_68 (by assumption) (by rfl) (by first | decide | omega) ?_
            refine G_iload_n (i := 3) hk dX5_reading_71 rfl rfl ?_
            refine G_iload_n (i := 2) hk dX5_reading_72 rfl rfl ?_
            refine G_iastX (j := rd) hk dX5_reading_73 (by assumption) rfl (by omega) (by decide) (by first | decide | omega) ?_
            have z0 := (show (va_up (va_up E 24 (gI V 8 (upd rp rd x))) 25 (gI V 8 (upd rw rd v))) 0 = _ from va_up_ne _ _ (by omega)).trans z0
            refine G_aload_n (i := 0) hk dX5_reading_74 rfl rfl ?_
            refine G_iload_n (i := 3) hk dX5_reading_75 rfl rfl ?_
            refine G_iconst (v := 1) hk dX5_reading_76 (by decide) ?_
            refine G_iadd hk dX5_reading_77 ?_
            refine G_put hk fX5_68 iX5_5 dX5_reading_78 (by assumption) (Nat.le_of_ble_eq_true rfl) (by first | decide | omega) ?_
            refine G_iload_n (i := 3) hk dX5_reading_81 rfl rfl ?_
            refine G_iret hk dX5_reading_82 ?_
            have hok : bReading n rd x v := ⟨hn, c_17, hv, by omega⟩
            have hC2 : cR V ad (va_up (va_up E 24 (gI V 8 (upd rp rd x))) 25 (gI V 8 (upd rw rd v))) (n, R, rd, upd rp rd x, upd rw rd v, tr, fa, la, sz, cl) := hC.out (fun k hk => by rw [va_up_ne _ _ (by omega), va_up_ne _ _ (by omega)]) (by rw [va_up_ne _ _ (by omega), va_up_self]) (va_up_self _ _ _) (fun s hs => by rw [va_up_ne _ _ (by omega), va_up_ne _ _ (by omega), va_up_ne _ _ (by omega), va_up_ne _ _ (by omega)]; exact h6 s hs)
            refine ⟨by unfold vReading; rw [if_neg hn, if_pos c_17, if_pos hv, if_neg (by omega)], ?_, ((fr.up (by omega)).tr (fr.up (by omega))).tr (fr.up (by omega))⟩
            unfold dReading pReading wReading
            rw [bReadingD_t hok, if_pos rfl, if_pos rfl, if_pos rfl, nI_i1]
            exact hC2.sc (by omega)
          · try simp only [gB_ne, gB_eq, Decidable.not_not] at c_49
            have h8 : rd = 8 := by have : ¬ rd < 8 := fun q => c_49 (hr8.mpr q); omega
            refine G_bipush (v := (-4)) hk dX5_reading_52 (by decide) ?_
            refine G_iret hk dX5_reading_54 ?_
            exact ⟨by unfold vReading; rw [if_neg hn, if_pos c_17, if_pos hv, if_pos h8], by unfold dReading pReading wReading; rw [bReadingD_f (fun q => q.2.2.2 h8)]; exact hC, fr.rf⟩
        · try simp only [gB_ne, gB_eq, Decidable.not_not] at c_37
          have hv : ¬ ((0 ≤ v ∧ v ≤ 200) ∨ v = -9) := fun q => q.elim c_31 c_37
          refine G_bipush (v := (-2)) hk dX5_reading_40 (by decide) ?_
          refine G_iret hk dX5_reading_42 ?_
          exact ⟨by unfold vReading; rw [if_neg hn, if_pos c_17, if_neg hv], by unfold dReading pReading wReading; rw [bReadingD_f (fun q => hv q.2.2.1)]; exact hC, fr.rf⟩
    · try simp only [gB_ne, gB_eq, Decidable.not_not] at c_17
      refine G_bipush (v := (-2)) hk dX5_reading_20 (by decide) ?_
      refine G_iret hk dX5_reading_22 ?_
      exact ⟨by unfold vReading; rw [if_neg hn, if_neg c_17], by unfold dReading pReading wReading; rw [bReadingD_f (fun q => c_17 q.2.1)]; exact hC, fr.rf⟩
  · try simp only [gB_ne, gB_eq, Decidable.not_not] at c_7
    have hn : n = 0 := hn0.mp (by first | exact c_7 | exact Decidable.not_not.mp c_7)
    refine G_bipush (v := (-3)) hk dX5_reading_10 (by decide) ?_
    refine G_iret hk dX5_reading_12 ?_
    exact ⟨by unfold vReading; rw [if_pos hn], by unfold dReading pReading wReading; rw [bReadingD_f (fun q => q.1 hn)]; exact hC, fr.rf⟩

set_option maxHeartbeats 4000000 in
set_option maxRecDepth 100000 in
theorem c_X5_back (l : Launch) (V : gV) (ad : Nat → Nat) (E : Nat → va_E) (n rd : Nat) (R : Nat → Nat → Int32) (rp rw : Nat → Int32) (tr fa : Int32) (la : Nat → Int32) (sz : Nat → Nat) (cl : Nat → Nat → Int32) (hC : cR V ad E (n, R, rd, rp, rw, tr, fa, la, sz, cl)) (k : Int32) : Ct l V ad 44 44 yX5_back cX5_back 2 (some .int) { frames := 1, cells := 0, slots := 0, locals := 22 } [.ref (ad 0), .int k] E (pI ad (fun z E2 => z = vBack rd k ∧ cR V ad E2 (n, R, dBack rd k, rp, rw, tr, fa, la, sz, cl) ∧ fr E E2)) := by
  refine gCt mX5_back (Nat.le_of_ble_eq_true rfl) ?_
  intro K hk
  obtain ⟨h0, ⟨π, hB⟩, ⟨dn, wo, dl, hA⟩, ⟨n2, π2, R2, hB2⟩, ⟨dn2, wo2, dl2, hA2⟩, h3, h4, h5, h6, h7⟩ := id hC
  obtain ⟨b0, b1, b2, b3, b4, b5, -⟩ := id hB
  obtain ⟨a0, a1⟩ := id hA
  have hn0 : nI n = 0 ↔ n = 0 := neq (b := 0) (by omega) (by omega)
  refine G_iload_n (i := 1) hk dX5_back_0 rfl rfl ?_
  refine G_iconst (v := 0) hk dX5_back_1 (by decide) ?_
  refine G_aload_n (i := 0) hk dX5_back_2 rfl rfl ?_
  refine G_get hk fX5_68 dX5_back_3 (by assumption) (by rfl) (by first | decide | omega) ?_
  refine G_cSi hk (c_X5_isIn l V ad E k 0 (nI rd)) mX5_isIn sX5_isIn kX5_43 dX5_back_6 rfl (by decide) (by decide) rfl (Nat.le_of_ble_eq_true rfl) (fun r_6 E_6 h_6 => ?_)
  obtain ⟨rfl, rfl⟩ := h_6
  refine G_if_ne (tgt := 15) hk dX5_back_9 (by decide) (fun c_9 => ?_) (fun c_9 => ?_)
  · try simp only [gB_ne, gB_eq, Decidable.not_not] at c_9
    obtain ⟨j, hj, rfl⟩ := gIe c_9.1 c_9.2 (by omega)
    have hix : ix (nI j) = j := ix_nI (by omega)
    refine G_aload_n (i := 0) hk dX5_back_15 rfl rfl ?_
    refine G_dup hk dX5_back_16 rfl ?_
    refine G_get hk fX5_68 dX5_back_17 (by assumption) (by rfl) (by first | decide | omega) ?_
    refine G_iload_n (i := 1) hk dX5_back_20 rfl rfl ?_
    refine G_isub hk dX5_back_21 ?_
    rw [pk_sub hj]
    refine G_put hk fX5_68 iX5_5 dX5_back_22 (by assumption) (Nat.le_of_ble_eq_true rfl) (by first | decide | omega) ?_
    refine G_E (E2 := va_up E 0 (oC ad (nI (rd - j)) tr fa)) rfl ?_
    have z0 := va_up_self E 0 (oC ad (nI (rd - j)) tr fa)
    refine G_aload_n (i := 0) hk dX5_back_25 rfl rfl ?_
    refine G_get hk fX5_68 dX5_back_26 (by assumption) (by rfl) (by first | decide | omega) ?_
    refine G_iret hk dX5_back_29 ?_
    exact ⟨by unfold vBack; rw [if_pos c_9, hix], by unfold dBack; rw [if_pos c_9, hix]; exact hC.sc (by omega), fr.up (by omega)⟩
  · try simp only [gB_ne, gB_eq, Decidable.not_not] at c_9
    refine G_bipush (v := (-2)) hk dX5_back_12 (by decide) ?_
    refine G_iret hk dX5_back_14 ?_
    exact ⟨by unfold vBack; (try first | rw [if_pos c_9] | rw [if_neg c_9]), by unfold dBack; rw [if_neg c_9]; exact hC, fr.rf⟩

set_option maxHeartbeats 4000000 in
set_option maxRecDepth 100000 in
theorem lp_X5_areReadingsSo {l : Launch} {V : gV} {ad : Nat → Nat} {K : gX} (hk : gOk l { frames := 3, cells := 0, slots := 0, locals := 70 } K V cX5_areReadingsSo 2 RX5 (some .boolean) yX5_areReadingsSo.name) (E0 : Nat → va_E) (n rd : Nat) (R : Nat → Nat → Int32) (rp rw : Nat → Int32) (tr fa : Int32) (la : Nat → Int32) (sz : Nat → Nat) (cl : Nat → Nat → Int32) (hC0 : cR V ad E0 (n, R, rd, rp, rw, tr, fa, la, sz, cl)) : ∀ (k q : Nat) (E : Nat → va_E), rd < q + k → q ≤ rd → aX V ad 1 E0 E → fa_cnt (sSp R n rp rw) q = 0 → G K V 2 (gQ K V 44 0 0 (pI ad (fun z E2 => z = gB (sSo R n rd rp rw = true) ∧ aX V ad 1 E0 E2))) ad 44 0 0 2 [(0, .ref (ad 0)), (1, .int (nI q))] [] E := by
  intro k
  induction k with
  | zero => intro q E hq; omega
  | succ k ih =>
    intro q E hq hqr hX hc
    have hC := hC0.ask hX
    obtain ⟨h0, ⟨π, hB⟩, ⟨dn, wo, dl, hA⟩, ⟨n2, π2, R2, hB2⟩, ⟨dn2, wo2, dl2, hA2⟩, h3, h4, h5, h6, h7⟩ := id hC
    obtain ⟨b0, b1, b2, b3, b4, b5, -⟩ := id hB
    obtain ⟨a0, a1⟩ := id hA
    have hn0 : nI n = 0 ↔ n = 0 := neq (b := 0) (by omega) (by omega)
    refine G_iload_n (i := 1) hk dX5_areReadingsSo_2 rfl rfl ?_
    refine G_aload_n (i := 0) hk dX5_areReadingsSo_3 rfl rfl ?_
    refine G_get hk fX5_68 dX5_areReadingsSo_4 (by assumption) (by rfl) (by first | decide | omega) ?_
    refine G_icmp_ge (tgt := 41) hk dX5_areReadingsSo_7 (by decide) (fun c_7 => ?_) (fun c_7 => ?_)
    · try simp only [gB_ne, gB_eq, Decidable.not_not] at c_7
      have hge : rd ≤ q := (nle (by omega) (by omega)).mp c_7
      have hqe : q = rd := by omega
      subst hqe
      refine G_iconst (v := 1) hk dX5_areReadingsSo_41 (by decide) ?_
      refine G_zret hk dX5_areReadingsSo_42 (by first | rfl | exact gB_nar _) ?_
      exact ⟨(gB_t (decide_eq_true hc)).symm, hX⟩
    · try simp only [gB_ne, gB_eq, Decidable.not_not] at c_7
      have hlt : q < rd := Nat.lt_of_not_le (fun z => c_7 ((nle (by omega) (by omega)).mpr z))
      refine G_aload_n (i := 0) hk dX5_areReadingsSo_10 rfl rfl ?_
      refine G_get hk fX5_12 dX5_areReadingsSo_11 (by assumption) (by rfl) (by first | decide | omega) ?_
      refine G_aload_n (i := 0) hk dX5_areReadingsSo_14 rfl rfl ?_
      refine G_get hk fX5_27 dX5_areReadingsSo_15 (by assumption) (by rfl) (by first | decide | omega) ?_
      refine G_iload_n (i := 1) hk dX5_areReadingsSo_18 rfl rfl ?_
      refine G_ialdX (j := q) hk dX5_areReadingsSo_19 (by assumption) rfl (by omega) (by decide) (by first | decide | omega) ?_
      refine G_iconst (v := (-1)) hk dX5_areReadingsSo_20 (by decide) ?_
      refine G_cVi hk (c_X1_worthOf l V ad E 1 n π R hB dn wo dl hA 99 (-1) hw99 _) mX1_worthOf vX1_worthOf kX5_242 dX5_areReadingsSo_21 (by assumption) (by rfl) (by first | decide | omega) rfl (by decide) (by decide) rfl (Nat.le_of_ble_eq_true rfl) (fun r_21 E_21 h_21 => ?_)
      obtain ⟨rfl, hp⟩ := h_21
      have hX2 := hX.tr hp.x
      have z0 := (hp.1 0 (by omega) (by omega)).trans h0
      have z5 := (hp.1 25 (by omega) (by omega)).trans h5
      refine G_aload_n (i := 0) hk dX5_areReadingsSo_24 rfl rfl ?_
      refine G_get hk fX5_31 dX5_areReadingsSo_25 (by assumption) (by rfl) (by first | decide | omega) ?_
      refine G_iload_n (i := 1) hk dX5_areReadingsSo_28 rfl rfl ?_
      refine G_ialdX (j := q) hk dX5_areReadingsSo_29 (by assumption) rfl (by omega) (by decide) (by first | decide | omega) ?_
      refine G_icmp_eq (tgt := 35) hk dX5_areReadingsSo_30 (by decide) (fun c_30 => ?_) (fun c_30 => ?_)
      · try simp only [gB_ne, gB_eq, Decidable.not_not] at c_30
        refine G_iinc (v := nI (q + 1)) hk dX5_areReadingsSo_35 rfl (nI_inc q) (by decide) rfl ?_
        refine G_goto (tgt := 2) hk dX5_areReadingsSo_38 (by decide) ?_
        exact G_lv (by exact And.intro rfl (And.intro rfl (trivial))) (ih (q + 1) _ (by omega) (by omega) hX2 (by rw [fa_cnt_no (sSp_f c_30)]; exact hc))
      · try simp only [gB_ne, gB_eq, Decidable.not_not] at c_30
        refine G_iconst (v := 0) hk dX5_areReadingsSo_33 (by decide) ?_
        refine G_zret hk dX5_areReadingsSo_34 (by first | rfl | exact gB_nar _) ?_
        refine ⟨(gB_f (fun z => ?_)).symm, hX2⟩
        have z1 := of_decide_eq_true z
        have hm := fa_cnt_mono (sSp R n rp rw) (a := q + 1) (b := rd) (by omega)
        rw [fa_cnt_yes (sSp_t c_30)] at hm
        omega

set_option maxHeartbeats 4000000 in
set_option maxRecDepth 100000 in
theorem c_X5_areReadingsSo (l : Launch) (V : gV) (ad : Nat → Nat) (E : Nat → va_E) (n rd : Nat) (R : Nat → Nat → Int32) (rp rw : Nat → Int32) (tr fa : Int32) (la : Nat → Int32) (sz : Nat → Nat) (cl : Nat → Nat → Int32) (hC : cR V ad E (n, R, rd, rp, rw, tr, fa, la, sz, cl)) : Ct l V ad 44 44 yX5_areReadingsSo cX5_areReadingsSo 2 (some .boolean) { frames := 3, cells := 0, slots := 0, locals := 70 } [.ref (ad 0)] E (pI ad (fun z E2 => z = gB (sSo R n rd rp rw = true) ∧ aX V ad 1 E E2)) := by
  refine gCt mX5_areReadingsSo (Nat.le_of_ble_eq_true rfl) ?_
  intro K hk
  obtain ⟨-, -, hA, -, -, -, -, -, -, h7⟩ := id hC
  refine G_iconst (v := 0) hk dX5_areReadingsSo_0 (by decide) ?_
  refine G_istore_n (i := 1) hk dX5_areReadingsSo_1 rfl (by decide) rfl ?_
  exact G_lv (by exact And.intro rfl (And.intro rfl (trivial))) (lp_X5_areReadingsSo hk E n rd R rp rw tr fa la sz cl hC (rd + 1) 0 E (by omega) (by omega) ⟨exA.rf, hA⟩ rfl)

set_option maxHeartbeats 4000000 in
set_option maxRecDepth 100000 in
theorem lp_X5_kinds {l : Launch} {V : gV} {ad : Nat → Nat} {K : gX} (hk : gOk l { frames := 4, cells := 0, slots := 0, locals := 91 } K V cX5_kinds 6 RX5 (some .int) yX5_kinds.name) (E0 : Nat → va_E) (n rd : Nat) (R : Nat → Nat → Int32) (rp rw : Nat → Int32) (tr fa : Int32) (la : Nat → Int32) (sz : Nat → Nat) (cl : Nat → Nat → Int32) (π : Nat → Nat) (j : Nat) (hj : j < n) : ∀ (k t : Nat) (c x : Int32) (E : Nat → va_E), 3 < t + k → 0 ≤ t → t ≤ 3 → cR V ad E (n, rK R j x, rd, rp, rw, tr, fa, la, sz, cl) → bkB V ad E 1 n π (rK R j x) → fr E0 E → c = sBits (sKs R n rd rp rw j) t → G K V 6 (gQ K V 44 0 0 (pI ad (fun z E2 => z = sBits (sKs R n rd rp rw j) 3 ∧ cR V ad E2 (n, R, rd, rp, rw, tr, fa, la, sz, cl) ∧ fr E0 E2))) ad 44 0 0 34 [(0, .ref (ad 0)), (2, .ref (ad (1 + 4 + π j))), (3, .int (R j 0)), (4, .int c), (5, .int (nI t))] [] E := by
  intro k
  induction k with
  | zero => intro t c x E ht; omega
  | succ k ih =>
    intro t c x E ht ht0 htn hC hB hfr hc
    obtain ⟨b0, b1, b2, b3, b4, b5, -⟩ := id hB
    have pj := b4 j (by omega)
    have bj := b2 j (by omega)
    rw [rK_at] at bj
    refine G_iload hk dX5_kinds_34 rfl ?_
    refine G_iconst (v := 2) hk dX5_kinds_36 (by decide) ?_
    refine G_icmp_gt (tgt := 68) hk dX5_kinds_37 (by decide) (fun c_37 => ?_) (fun c_37 => ?_)
    · try simp only [gB_ne, gB_eq, Decidable.not_not] at c_37
      have hgt : 2 < t := (nlt (a := 2) (by omega) (by omega)).mp c_37
      have hte : t = 3 := by omega
      subst hte
      refine G_aload_n (i := 2) hk dX5_kinds_68 rfl rfl ?_
      refine G_iload_n (i := 3) hk dX5_kinds_69 rfl rfl ?_
      refine G_put hk fX5_81 iX3_0 dX5_kinds_70 bj (Nat.le_of_ble_eq_true rfl) (by first | decide | omega) ?_
      refine G_E (E2 := va_up E (1 + 4 + π j) (rC (sKin (R j) (R j 0)))) rfl ?_
      refine G_iload hk dX5_kinds_73 rfl ?_
      refine G_iret hk dX5_kinds_75 ?_
      have hC1 := hC.rule hB (show j < 7 by omega) (sKin (R j) (R j 0))
      rw [rK_up, rK_self] at hC1
      exact ⟨hc, hC1, hfr.tr (fr.up (by omega))⟩
    · try simp only [gB_ne, gB_eq, Decidable.not_not] at c_37
      have hle : t ≤ 2 := Nat.le_of_not_lt (fun z => c_37 ((nlt (a := 2) (by omega) (by omega)).mpr z))
      refine G_aload_n (i := 2) hk dX5_kinds_40 rfl rfl ?_
      refine G_iload hk dX5_kinds_41 rfl ?_
      refine G_put hk fX5_81 iX3_0 dX5_kinds_43 bj (Nat.le_of_ble_eq_true rfl) (by first | decide | omega) ?_
      refine G_E (E2 := va_up E (1 + 4 + π j) (rC (sKin (R j) (nI t)))) rfl ?_
      have hC1 := hC.rule hB (show j < 7 by omega) (sKin (R j) (nI t))
      have hB1 := hB.rule (show j < 7 by omega) (sKin (R j) (nI t))
      have hf1 : fr E (va_up E (1 + 4 + π j) (rC (sKin (R j) (nI t)))) := fr.up (by omega)
      rw [rK_up] at hC1 hB1
      generalize va_up E (1 + 4 + π j) (rC (sKin (R j) (nI t))) = E1 at hC1 hB1 hf1 ⊢
      have z0 := hC1.1
      refine G_aload_n (i := 0) hk dX5_kinds_46 rfl rfl ?_
      refine G_cVi hk (c_X5_areReadingsSo l V ad E1 n rd (rK R j (nI t)) rp rw tr fa la sz cl hC1) mX5_areReadingsSo vX5_areReadingsSo kX5_182 dX5_kinds_47 (by assumption) (by rfl) (by first | decide | omega) rfl (by decide) (by decide) rfl (Nat.le_of_ble_eq_true rfl) (fun r_47 E_47 h_47 => ?_)
      obtain ⟨rfl, hX⟩ := h_47
      have hC2 := hC1.ask hX
      have hB2 := hB1.ex hX.1
      have hf2 := hfr.tr (hf1.tr (fr.aX hX (by omega)))
      refine G_if_eq (tgt := 62) hk dX5_kinds_50 (by decide) (fun c_50 => ?_) (fun c_50 => ?_)
      · try simp only [gB_ne, gB_eq, Decidable.not_not] at c_50
        refine G_iinc (v := nI (t + 1)) hk dX5_kinds_62 rfl (nI_inc t) (by decide) rfl ?_
        refine G_goto (tgt := 34) hk dX5_kinds_65 (by decide) ?_
        refine G_lv (by exact And.intro rfl (And.intro rfl (And.intro rfl (And.intro rfl (And.intro rfl (trivial)))))) (ih (t + 1) _ (nI t) _ (by omega) (by omega) (by omega) hC2 hB2 hf2 ?_)
        first | (rw [hc, sBits, if_pos (show sKs R n rd rp rw j t = true from c_50)]; done) | (rw [hc, sBits, if_neg (show ¬ sKs R n rd rp rw j t = true from c_50)]; done)
      · try simp only [gB_ne, gB_eq, Decidable.not_not] at c_50
        refine G_iload hk dX5_kinds_53 rfl ?_
        refine G_iconst (v := 1) hk dX5_kinds_55 (by decide) ?_
        refine G_iload hk dX5_kinds_56 rfl ?_
        refine G_ishl hk dX5_kinds_58 ?_
        refine G_ior hk dX5_kinds_59 ?_
        refine G_istore hk dX5_kinds_60 (by decide) rfl ?_
        refine G_iinc (v := nI (t + 1)) hk dX5_kinds_62 rfl (nI_inc t) (by decide) rfl ?_
        refine G_goto (tgt := 34) hk dX5_kinds_65 (by decide) ?_
        refine G_lv (by exact And.intro rfl (And.intro rfl (And.intro rfl (And.intro rfl (And.intro rfl (trivial)))))) (ih (t + 1) _ (nI t) _ (by omega) (by omega) (by omega) hC2 hB2 hf2 ?_)
        first | (rw [hc, sBits, if_pos (show sKs R n rd rp rw j t = true from c_50)]; done) | (rw [hc, sBits, if_neg (show ¬ sKs R n rd rp rw j t = true from c_50)]; done)

set_option maxHeartbeats 4000000 in
set_option maxRecDepth 100000 in
theorem c_X5_kinds (l : Launch) (V : gV) (ad : Nat → Nat) (E : Nat → va_E) (n rd : Nat) (R : Nat → Nat → Int32) (rp rw : Nat → Int32) (tr fa : Int32) (la : Nat → Int32) (sz : Nat → Nat) (cl : Nat → Nat → Int32) (hC : cR V ad E (n, R, rd, rp, rw, tr, fa, la, sz, cl)) (r : Int32) : Ct l V ad 44 44 yX5_kinds cX5_kinds 6 (some .int) { frames := 4, cells := 0, slots := 0, locals := 91 } [.ref (ad 0), .int r] E (pI ad (fun v E2 => v = vKinds n R rd rp rw r ∧ cR V ad E2 (n, R, rd, rp, rw, tr, fa, la, sz, cl) ∧ fr E E2)) := by
  refine gCt mX5_kinds (Nat.le_of_ble_eq_true rfl) ?_
  intro K hk
  obtain ⟨h0, ⟨π, hB⟩, ⟨dn, wo, dl, hA⟩, ⟨n2, π2, R2, hB2⟩, ⟨dn2, wo2, dl2, hA2⟩, h3, h4, h5, h6, h7⟩ := id hC
  obtain ⟨b0, b1, b2, b3, b4, b5, -⟩ := id hB
  obtain ⟨a0, a1⟩ := id hA
  have hn0 : nI n = 0 ↔ n = 0 := neq (b := 0) (by omega) (by omega)
  refine G_aload_n (i := 0) hk dX5_kinds_0 rfl rfl ?_
  refine G_get hk fX5_12 dX5_kinds_1 (by assumption) (by rfl) (by first | decide | omega) ?_
  refine G_iload_n (i := 1) hk dX5_kinds_4 rfl rfl ?_
  refine G_cVi hk (c_X1_isRule l V ad E 1 n π R hB r) mX1_isRule vX1_isRule kX5_74 dX5_kinds_5 (by assumption) (by rfl) (by first | decide | omega) rfl (by decide) (by decide) rfl (Nat.le_of_ble_eq_true rfl) (fun r_5 E_5 h_5 => ?_)
  obtain ⟨rfl, rfl⟩ := h_5
  refine G_if_ne (tgt := 13) hk dX5_kinds_8 (by decide) (fun c_8 => ?_) (fun c_8 => ?_)
  · try simp only [gB_ne, gB_eq, Decidable.not_not] at c_8
    obtain ⟨j, hj, rfl⟩ := gIx (Int32.not_lt.mpr c_8.1) c_8.2 (by omega)
    have hix : ix (nI j) = j := ix_nI (by omega)
    have pj := b4 j (by omega)
    have bj := b2 j (by omega)
    refine G_aload_n (i := 0) hk dX5_kinds_13 rfl rfl ?_
    refine G_get hk fX5_12 dX5_kinds_14 (by assumption) (by rfl) (by first | decide | omega) ?_
    refine G_get hk fX5_77 dX5_kinds_17 (by assumption) (by rfl) (by first | decide | omega) ?_
    refine G_iload_n (i := 1) hk dX5_kinds_20 rfl rfl ?_
    refine G_aaldRlX (j := j) hk dX5_kinds_21 (by assumption) rfl (by omega) (by decide) (by rfl) (by first | decide | omega) ?_
    refine G_astore_n (i := 2) hk dX5_kinds_22 rfl (by decide) rfl ?_
    refine G_aload_n (i := 2) hk dX5_kinds_23 rfl rfl ?_
    refine G_get hk fX5_81 dX5_kinds_24 (by assumption) (by rfl) (by first | decide | omega) ?_
    refine G_istore_n (i := 3) hk dX5_kinds_27 rfl (by decide) rfl ?_
    refine G_iconst (v := 0) hk dX5_kinds_28 (by decide) ?_
    refine G_istore hk dX5_kinds_29 (by decide) rfl ?_
    refine G_iconst (v := 0) hk dX5_kinds_31 (by decide) ?_
    refine G_istore hk dX5_kinds_32 (by decide) rfl ?_
    unfold vKinds
    rw [if_pos c_8, hix]
    exact G_lv (by exact And.intro rfl (And.intro rfl (And.intro rfl (And.intro rfl (And.intro rfl (trivial)))))) (lp_X5_kinds hk E n rd R rp rw tr fa la sz cl π j hj 4 0 0 (R j 0) E (by omega) (by omega) (by omega) (by rw [rK_self]; exact hC) (by rw [rK_self]; exact hB) fr.rf (by rfl))
  · try simp only [gB_ne, gB_eq, Decidable.not_not] at c_8
    refine G_iconst (v := (-1)) hk dX5_kinds_11 (by decide) ?_
    refine G_iret hk dX5_kinds_12 ?_
    exact ⟨by unfold vKinds; (try first | rw [if_pos c_8] | rw [if_neg c_8]), hC, fr.rf⟩

set_option maxHeartbeats 4000000 in
set_option maxRecDepth 100000 in
theorem lp_X5_numbers {l : Launch} {V : gV} {ad : Nat → Nat} {K : gX} (hk : gOk l { frames := 4, cells := 0, slots := 0, locals := 91 } K V cX5_numbers 6 RX5 (some .int) yX5_numbers.name) (E0 : Nat → va_E) (n rd : Nat) (R : Nat → Nat → Int32) (rp rw : Nat → Int32) (tr fa : Int32) (la : Nat → Int32) (sz : Nat → Nat) (cl : Nat → Nat → Int32) (π : Nat → Nat) (j : Nat) (hj : j < n) : ∀ (k t : Nat) (c x : Int32) (E : Nat → va_E), 10 < t + k → 1 ≤ t → t ≤ 10 → cR V ad E (n, rN R j x, rd, rp, rw, tr, fa, la, sz, cl) → bkB V ad E 1 n π (rN R j x) → fr E0 E → c = sBits (sNs R n rd rp rw j) t → G K V 6 (gQ K V 44 0 0 (pI ad (fun z E2 => z = sBits (sNs R n rd rp rw j) 10 ∧ cR V ad E2 (n, R, rd, rp, rw, tr, fa, la, sz, cl) ∧ fr E0 E2))) ad 44 0 0 34 [(0, .ref (ad 0)), (2, .ref (ad (1 + 4 + π j))), (3, .int (R j 2)), (4, .int c), (5, .int (nI t))] [] E := by
  intro k
  induction k with
  | zero => intro t c x E ht; omega
  | succ k ih =>
    intro t c x E ht ht0 htn hC hB hfr hc
    obtain ⟨b0, b1, b2, b3, b4, b5, -⟩ := id hB
    have pj := b4 j (by omega)
    have bj := b2 j (by omega)
    rw [rN_at] at bj
    refine G_iload hk dX5_numbers_34 rfl ?_
    refine G_bipush (v := 9) hk dX5_numbers_36 (by decide) ?_
    refine G_icmp_gt (tgt := 69) hk dX5_numbers_38 (by decide) (fun c_38 => ?_) (fun c_38 => ?_)
    · try simp only [gB_ne, gB_eq, Decidable.not_not] at c_38
      have hgt : 9 < t := (nlt (a := 9) (by omega) (by omega)).mp c_38
      have hte : t = 10 := by omega
      subst hte
      refine G_aload_n (i := 2) hk dX5_numbers_69 rfl rfl ?_
      refine G_iload_n (i := 3) hk dX5_numbers_70 rfl rfl ?_
      refine G_put hk fX5_89 iX3_2 dX5_numbers_71 bj (Nat.le_of_ble_eq_true rfl) (by first | decide | omega) ?_
      refine G_E (E2 := va_up E (1 + 4 + π j) (rC (sNum (R j) (R j 2)))) rfl ?_
      refine G_iload hk dX5_numbers_74 rfl ?_
      refine G_iret hk dX5_numbers_76 ?_
      have hC1 := hC.rule hB (show j < 7 by omega) (sNum (R j) (R j 2))
      rw [rN_up, rN_self] at hC1
      exact ⟨hc, hC1, hfr.tr (fr.up (by omega))⟩
    · try simp only [gB_ne, gB_eq, Decidable.not_not] at c_38
      have hle : t ≤ 9 := Nat.le_of_not_lt (fun z => c_38 ((nlt (a := 9) (by omega) (by omega)).mpr z))
      refine G_aload_n (i := 2) hk dX5_numbers_41 rfl rfl ?_
      refine G_iload hk dX5_numbers_42 rfl ?_
      refine G_put hk fX5_89 iX3_2 dX5_numbers_44 bj (Nat.le_of_ble_eq_true rfl) (by first | decide | omega) ?_
      refine G_E (E2 := va_up E (1 + 4 + π j) (rC (sNum (R j) (nI t)))) rfl ?_
      have hC1 := hC.rule hB (show j < 7 by omega) (sNum (R j) (nI t))
      have hB1 := hB.rule (show j < 7 by omega) (sNum (R j) (nI t))
      have hf1 : fr E (va_up E (1 + 4 + π j) (rC (sNum (R j) (nI t)))) := fr.up (by omega)
      rw [rN_up] at hC1 hB1
      generalize va_up E (1 + 4 + π j) (rC (sNum (R j) (nI t))) = E1 at hC1 hB1 hf1 ⊢
      have z0 := hC1.1
      refine G_aload_n (i := 0) hk dX5_numbers_47 rfl rfl ?_
      refine G_cVi hk (c_X5_areReadingsSo l V ad E1 n rd (rN R j (nI t)) rp rw tr fa la sz cl hC1) mX5_areReadingsSo vX5_areReadingsSo kX5_182 dX5_numbers_48 (by assumption) (by rfl) (by first | decide | omega) rfl (by decide) (by decide) rfl (Nat.le_of_ble_eq_true rfl) (fun r_48 E_48 h_48 => ?_)
      obtain ⟨rfl, hX⟩ := h_48
      have hC2 := hC1.ask hX
      have hB2 := hB1.ex hX.1
      have hf2 := hfr.tr (hf1.tr (fr.aX hX (by omega)))
      refine G_if_eq (tgt := 63) hk dX5_numbers_51 (by decide) (fun c_51 => ?_) (fun c_51 => ?_)
      · try simp only [gB_ne, gB_eq, Decidable.not_not] at c_51
        refine G_iinc (v := nI (t + 1)) hk dX5_numbers_63 rfl (nI_inc t) (by decide) rfl ?_
        refine G_goto (tgt := 34) hk dX5_numbers_66 (by decide) ?_
        refine G_lv (by exact And.intro rfl (And.intro rfl (And.intro rfl (And.intro rfl (And.intro rfl (trivial)))))) (ih (t + 1) _ (nI t) _ (by omega) (by omega) (by omega) hC2 hB2 hf2 ?_)
        have hs : sNs R n rd rp rw j t = sSo (rN R j (nI t)) n rd rp rw := if_neg (by omega)
        first | (rw [hc, sBits, hs, if_pos c_51]; done) | (rw [hc, sBits, hs, if_neg c_51]; done)
      · try simp only [gB_ne, gB_eq, Decidable.not_not] at c_51
        refine G_iload hk dX5_numbers_54 rfl ?_
        refine G_iconst (v := 1) hk dX5_numbers_56 (by decide) ?_
        refine G_iload hk dX5_numbers_57 rfl ?_
        refine G_ishl hk dX5_numbers_59 ?_
        refine G_ior hk dX5_numbers_60 ?_
        refine G_istore hk dX5_numbers_61 (by decide) rfl ?_
        refine G_iinc (v := nI (t + 1)) hk dX5_numbers_63 rfl (nI_inc t) (by decide) rfl ?_
        refine G_goto (tgt := 34) hk dX5_numbers_66 (by decide) ?_
        refine G_lv (by exact And.intro rfl (And.intro rfl (And.intro rfl (And.intro rfl (And.intro rfl (trivial)))))) (ih (t + 1) _ (nI t) _ (by omega) (by omega) (by omega) hC2 hB2 hf2 ?_)
        have hs : sNs R n rd rp rw j t = sSo (rN R j (nI t)) n rd rp rw := if_neg (by omega)
        first | (rw [hc, sBits, hs, if_pos c_51]; done) | (rw [hc, sBits, hs, if_neg c_51]; done)

set_option maxHeartbeats 4000000 in
set_option maxRecDepth 100000 in
theorem c_X5_numbers (l : Launch) (V : gV) (ad : Nat → Nat) (E : Nat → va_E) (n rd : Nat) (R : Nat → Nat → Int32) (rp rw : Nat → Int32) (tr fa : Int32) (la : Nat → Int32) (sz : Nat → Nat) (cl : Nat → Nat → Int32) (hC : cR V ad E (n, R, rd, rp, rw, tr, fa, la, sz, cl)) (r : Int32) : Ct l V ad 44 44 yX5_numbers cX5_numbers 6 (some .int) { frames := 4, cells := 0, slots := 0, locals := 91 } [.ref (ad 0), .int r] E (pI ad (fun v E2 => v = vNumbers n R rd rp rw r ∧ cR V ad E2 (n, R, rd, rp, rw, tr, fa, la, sz, cl) ∧ fr E E2)) := by
  refine gCt mX5_numbers (Nat.le_of_ble_eq_true rfl) ?_
  intro K hk
  obtain ⟨h0, ⟨π, hB⟩, ⟨dn, wo, dl, hA⟩, ⟨n2, π2, R2, hB2⟩, ⟨dn2, wo2, dl2, hA2⟩, h3, h4, h5, h6, h7⟩ := id hC
  obtain ⟨b0, b1, b2, b3, b4, b5, -⟩ := id hB
  obtain ⟨a0, a1⟩ := id hA
  have hn0 : nI n = 0 ↔ n = 0 := neq (b := 0) (by omega) (by omega)
  refine G_aload_n (i := 0) hk dX5_numbers_0 rfl rfl ?_
  refine G_get hk fX5_12 dX5_numbers_1 (by assumption) (by rfl) (by first | decide | omega) ?_
  refine G_iload_n (i := 1) hk dX5_numbers_4 rfl rfl ?_
  refine G_cVi hk (c_X1_isRule l V ad E 1 n π R hB r) mX1_isRule vX1_isRule kX5_74 dX5_numbers_5 (by assumption) (by rfl) (by first | decide | omega) rfl (by decide) (by decide) rfl (Nat.le_of_ble_eq_true rfl) (fun r_5 E_5 h_5 => ?_)
  obtain ⟨rfl, rfl⟩ := h_5
  refine G_if_ne (tgt := 13) hk dX5_numbers_8 (by decide) (fun c_8 => ?_) (fun c_8 => ?_)
  · try simp only [gB_ne, gB_eq, Decidable.not_not] at c_8
    obtain ⟨j, hj, rfl⟩ := gIx (Int32.not_lt.mpr c_8.1) c_8.2 (by omega)
    have hix : ix (nI j) = j := ix_nI (by omega)
    have pj := b4 j (by omega)
    have bj := b2 j (by omega)
    refine G_aload_n (i := 0) hk dX5_numbers_13 rfl rfl ?_
    refine G_get hk fX5_12 dX5_numbers_14 (by assumption) (by rfl) (by first | decide | omega) ?_
    refine G_get hk fX5_77 dX5_numbers_17 (by assumption) (by rfl) (by first | decide | omega) ?_
    refine G_iload_n (i := 1) hk dX5_numbers_20 rfl rfl ?_
    refine G_aaldRlX (j := j) hk dX5_numbers_21 (by assumption) rfl (by omega) (by decide) (by rfl) (by first | decide | omega) ?_
    refine G_astore_n (i := 2) hk dX5_numbers_22 rfl (by decide) rfl ?_
    refine G_aload_n (i := 2) hk dX5_numbers_23 rfl rfl ?_
    refine G_get hk fX5_89 dX5_numbers_24 (by assumption) (by rfl) (by first | decide | omega) ?_
    refine G_istore_n (i := 3) hk dX5_numbers_27 rfl (by decide) rfl ?_
    refine G_iconst (v := 0) hk dX5_numbers_28 (by decide) ?_
    refine G_istore hk dX5_numbers_29 (by decide) rfl ?_
    refine G_iconst (v := 1) hk dX5_numbers_31 (by decide) ?_
    refine G_istore hk dX5_numbers_32 (by decide) rfl ?_
    unfold vNumbers
    rw [if_pos c_8, hix]
    exact G_lv (by exact And.intro rfl (And.intro rfl (And.intro rfl (And.intro rfl (And.intro rfl (trivial)))))) (lp_X5_numbers hk E n rd R rp rw tr fa la sz cl π j hj 11 1 0 (R j 2) E (by omega) (by omega) (by omega) (by rw [rN_self]; exact hC) (by rw [rN_self]; exact hB) fr.rf (by rfl))
  · try simp only [gB_ne, gB_eq, Decidable.not_not] at c_8
    refine G_iconst (v := (-1)) hk dX5_numbers_11 (by decide) ?_
    refine G_iret hk dX5_numbers_12 ?_
    exact ⟨by unfold vNumbers; (try first | rw [if_pos c_8] | rw [if_neg c_8]), hC, fr.rf⟩
