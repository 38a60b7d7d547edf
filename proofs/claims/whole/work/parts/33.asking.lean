set_option maxHeartbeats 4000000 in
set_option maxRecDepth 100000 in
theorem lp_X0_walk {l : Launch} {V : gV} {ad : Nat → Nat} {K : gX} (hk : gOk l { frames := 1, cells := 0, slots := 0, locals := 21 } K V cX0_walk 8 RX0 none yX0_walk.name) (E0 : Nat → va_E) (bb n : Nat) (π : Nat → Nat) (R : Nat → Nat → Int32) (hB0 : bkB V ad E0 bb n π R) (w : Nat) (wi : Int32) (hw : ∀ r, r < 7 → (nI r = wi ↔ r = w)) (F : Int32 × List Int32) : ∀ (k r : Nat) (a s : Int32) (pre : List Int32) (E : Nat → va_E) (dl : Nat → Int32) (wo : Int32), n < r + k → r ≤ n → pre.length ≤ r → exA bb E0 E → bkA V ad E bb (nI pre.length) wo dl → (∀ i, i < pre.length → dl i = pre.getD i 0) → F = sC s pre (sAn R w n r a) → G K V 8 (gQ K V 44 0 0 (pV ad (aPost V ad bb E0 F))) ad 44 0 0 14 [(0, .ref (ad (bb + 2))), (1, .ref (ad bb)), (3, .int wi), (4, .int a), (5, .int s), (6, .int (nI r))] [] E := by
  intro k
  induction k with
  | zero => intro r a s pre E dl wo hr; omega
  | succ k ih =>
    intro r a s pre E dl wo hr hrn hpl hex hA hdl hF
    obtain ⟨h0, h1, h2, h3, h4, h5, h6⟩ := hB0.ex hex
    obtain ⟨a0, a1⟩ := id hA
    refine G_iload hk dX0_walk_14 rfl ?_
    refine G_aload_n (i := 1) hk dX0_walk_16 rfl rfl ?_
    refine G_get hk fX0_19 dX0_walk_17 (by assumption) (by rfl) (by first | decide | omega) ?_
    refine G_icmp_ge (tgt := 114) hk dX0_walk_20 (by decide) (fun c_20 => ?_) (fun c_20 => ?_)
    · try simp only [gB_ne, gB_eq, Decidable.not_not] at c_20
      have hge : n ≤ r := (nle (by omega) (by omega)).mp c_20
      refine G_aload_n (i := 0) hk dX0_walk_114 rfl rfl ?_
      refine G_bipush (v := 7) hk dX0_walk_115 (by decide) ?_
      refine G_cVv hk (c_X0_addDenier l V ad E bb (by omega) pre.length (by omega) wo dl hA 7) mX0_addDenier vX0_addDenier kX0_45 dX0_walk_117 (by assumption) (by rfl) (by first | decide | omega) rfl (by decide) (by decide) rfl (Nat.le_of_ble_eq_true rfl) (fun E_117 h_117 => ?_)
      obtain ⟨x1, x2⟩ := h_117
      obtain ⟨b0, b1⟩ := id x2
      refine G_aload_n (i := 0) hk dX0_walk_120 rfl rfl ?_
      refine G_bipush (v := (-9)) hk dX0_walk_121 (by decide) ?_
      refine G_put hk fX0_48 iX0_2 dX0_walk_123 (by assumption) (Nat.le_of_ble_eq_true rfl) (by first | decide | omega) ?_
      refine G_vret hk dX0_walk_126 ?_
      rw [sAn_end hge] at hF
      subst hF
      refine ⟨fun q p1 p2 => by rw [va_up_ne _ _ p1]; exact (x1 q p1 p2).trans (hex q p1 p2), upd dl pre.length 7, ⟨?_, ?_⟩, ?_⟩
      · rw [va_up_self]; simp [sC]
      · rw [va_up_ne _ _ (by omega)]; exact b1
      · have hq := getD_app (m := 7) hdl
        simpa [sC] using hq
    · try simp only [gB_ne, gB_eq, Decidable.not_not] at c_20
      have hlt : r < n := Nat.lt_of_not_le (fun q => c_20 ((nle (by omega) (by omega)).mpr q))
      have hr0 := h2 r (by omega)
      have hp0 := h4 r (by omega)
      have hwr := hw r (by omega)
      refine G_aload_n (i := 1) hk dX0_walk_23 rfl rfl ?_
      refine G_get hk fX0_24 dX0_walk_24 (by assumption) (by rfl) (by first | decide | omega) ?_
      refine G_iload hk dX0_walk_27 rfl ?_
      refine G_aaldRlX (j := r) hk dX0_walk_29 (by assumption) rfl (by omega) (by decide) (by rfl) (by first | decide | omega) ?_
      refine G_astore hk dX0_walk_30 (by decide) rfl ?_
      refine G_iload hk dX0_walk_32 rfl ?_
      refine G_iload_n (i := 3) hk dX0_walk_34 rfl rfl ?_
      refine G_icmp_eq (tgt := 108) hk dX0_walk_35 (by decide) (fun c_35 => ?_) (fun c_35 => ?_)
      · try simp only [gB_ne, gB_eq, Decidable.not_not] at c_35
        refine G_iinc (v := nI (r + 1)) hk dX0_walk_108 rfl (nI_inc r) (by decide) rfl ?_
        refine G_goto (tgt := 14) hk dX0_walk_111 (by decide) ?_
        exact G_lv (by exact And.intro rfl (And.intro rfl (And.intro rfl (And.intro rfl (And.intro rfl (And.intro rfl (trivial))))))) (ih (r + 1) a s pre E dl wo (by omega) (by omega) (by omega) hex hA hdl (by rw [hF, sAn_miss hlt (fun q => q.1 (hwr.mp c_35))]))
      · try simp only [gB_ne, gB_eq, Decidable.not_not] at c_35
        have hnw : r ≠ w := fun q => c_35 (hwr.mpr q)
        refine G_aload hk dX0_walk_38 rfl ?_
        refine G_iload hk dX0_walk_40 rfl ?_
        refine G_cVi hk (c_X3_hasPoint l V ad E (bb + 4 + π r) (by omega) (R r) a hr0) mX3_hasPoint vX3_hasPoint kX0_28 dX0_walk_42 (by assumption) (by rfl) (by first | decide | omega) rfl (by decide) (by decide) rfl (Nat.le_of_ble_eq_true rfl) (fun r_42 E_42 h_42 => ?_)
        obtain ⟨rfl, rfl⟩ := h_42
        refine G_if_ne (tgt := 51) hk dX0_walk_45 (by decide) (fun c_45 => ?_) (fun c_45 => ?_)
        · try simp only [gB_ne, gB_eq, Decidable.not_not] at c_45
          have hF2 := hF
          rw [sAn_hit hlt ⟨hnw, c_45⟩] at hF2
          refine G_iload hk dX0_walk_51 rfl ?_
          refine G_aload hk dX0_walk_53 rfl ?_
          refine G_cVi hk (c_X3_ownWorth l V ad E (bb + 4 + π r) (by omega) (R r) hr0) mX3_ownWorth vX3_ownWorth kX0_34 dX0_walk_55 (by assumption) (by rfl) (by first | decide | omega) rfl (by decide) (by decide) rfl (Nat.le_of_ble_eq_true rfl) (fun r_55 E_55 h_55 => ?_)
          obtain ⟨rfl, rfl⟩ := h_55
          refine G_iadd hk dX0_walk_58 ?_
          refine G_istore hk dX0_walk_59 (by decide) rfl ?_
          refine G_aload hk dX0_walk_61 rfl ?_
          refine G_get hk fX0_38 dX0_walk_63 (by assumption) (by rfl) (by first | decide | omega) ?_
          refine G_if_ne (tgt := 76) hk dX0_walk_66 (by decide) (fun c_66 => ?_) (fun c_66 => ?_)
          · try simp only [gB_ne, gB_eq, Decidable.not_not] at c_66
            rw [if_neg c_66] at hF2
            refine G_aload_n (i := 0) hk dX0_walk_76 rfl rfl ?_
            refine G_iload hk dX0_walk_77 rfl ?_
            refine G_cVv hk (c_X0_addDenier l V ad E bb (by omega) pre.length (by omega) wo dl hA (nI r)) mX0_addDenier vX0_addDenier kX0_45 dX0_walk_79 (by assumption) (by rfl) (by first | decide | omega) rfl (by decide) (by decide) rfl (Nat.le_of_ble_eq_true rfl) (fun E_79 h_79 => ?_)
            obtain ⟨x1, x2⟩ := h_79
            have hr1 : E_79 (bb + 4 + π r) = rC (R r) := (x1 _ (by omega) (by omega)).trans hr0
            obtain ⟨b0, b1⟩ := id x2
            refine G_aload hk dX0_walk_82 rfl ?_
            refine G_get hk fX0_38 dX0_walk_84 (by assumption) (by rfl) (by first | decide | omega) ?_
            refine G_iconst (v := 1) hk dX0_walk_87 (by decide) ?_
            refine G_icmp_ne (tgt := 98) hk dX0_walk_88 (by decide) (fun c_88 => ?_) (fun c_88 => ?_)
            · try simp only [gB_ne, gB_eq, Decidable.not_not] at c_88
              rw [if_neg c_88] at hF2
              refine G_iload hk dX0_walk_98 rfl ?_
              refine G_aload hk dX0_walk_100 rfl ?_
              refine G_get hk fX0_51 dX0_walk_102 (by assumption) (by rfl) (by first | decide | omega) ?_
              refine G_iadd hk dX0_walk_105 ?_
              refine G_istore hk dX0_walk_106 (by decide) rfl ?_
              refine G_iinc (v := nI (r + 1)) hk dX0_walk_108 rfl (nI_inc r) (by decide) rfl ?_
              refine G_goto (tgt := 14) hk dX0_walk_111 (by decide) ?_
              exact G_lv (by exact And.intro rfl (And.intro rfl (And.intro rfl (And.intro rfl (And.intro rfl (And.intro rfl (trivial))))))) (ih (r + 1) (a + R r 2) (s + sWr (R r)) (pre ++ [nI r]) E_79 (upd dl pre.length (nI r)) wo (by omega) (by omega) (by simp; omega) (hex.tr x1) (by rw [List.length_append]; exact x2) (getD_app hdl) (by rw [hF2, sC_hit]))
            · try simp only [gB_ne, gB_eq, Decidable.not_not] at c_88
              rw [if_pos c_88] at hF2
              refine G_aload_n (i := 0) hk dX0_walk_91 rfl rfl ?_
              refine G_bipush (v := (-9)) hk dX0_walk_92 (by decide) ?_
              refine G_put hk fX0_48 iX0_2 dX0_walk_94 (by assumption) (Nat.le_of_ble_eq_true rfl) (by first | decide | omega) ?_
              refine G_vret hk dX0_walk_97 ?_
              subst hF2
              refine ⟨fun q p1 p2 => by rw [va_up_ne _ _ p1]; exact (x1 q p1 p2).trans (hex q p1 p2), upd dl pre.length (nI r), ⟨?_, ?_⟩, ?_⟩
              · rw [va_up_self]; simp [sC]
              · rw [va_up_ne _ _ (by omega)]; exact b1
              · have hq := getD_app (m := nI r) hdl
                simpa [sC] using hq
          · try simp only [gB_ne, gB_eq, Decidable.not_not] at c_66
            have c_66 := c_66
            rw [if_pos c_66] at hF2
            refine G_aload_n (i := 0) hk dX0_walk_69 rfl rfl ?_
            refine G_iload hk dX0_walk_70 rfl ?_
            refine G_cVv hk (c_X0_give l V ad E bb (by omega) _ wo dl hA _) mX0_give vX0_give kX0_41 dX0_walk_72 (by assumption) (by rfl) (by first | decide | omega) rfl (by decide) (by decide) rfl (Nat.le_of_ble_eq_true rfl) (fun E_72 h_72 => ?_)
            subst h_72
            refine G_vret hk dX0_walk_75 ?_
            subst hF2
            refine ⟨fun q p1 p2 => by rw [va_up_ne _ _ p1]; exact hex q p1 p2, dl, ⟨?_, ?_⟩, fun i hi => absurd hi (by simp [sC])⟩
            · rw [va_up_self]; simp [sC]; rfl
            · rw [va_up_ne _ _ (by omega)]; exact a1
        · try simp only [gB_ne, gB_eq, Decidable.not_not] at c_45
          refine G_goto (tgt := 108) hk dX0_walk_48 (by decide) ?_
          refine G_iinc (v := nI (r + 1)) hk dX0_walk_108 rfl (nI_inc r) (by decide) rfl ?_
          refine G_goto (tgt := 14) hk dX0_walk_111 (by decide) ?_
          exact G_lv (by exact And.intro rfl (And.intro rfl (And.intro rfl (And.intro rfl (And.intro rfl (And.intro rfl (trivial))))))) (ih (r + 1) a s pre E dl wo (by omega) (by omega) (by omega) hex hA hdl (by rw [hF, sAn_miss hlt (fun q => c_45 q.2)]))
