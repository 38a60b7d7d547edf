set_option maxHeartbeats 4000000 in
set_option maxRecDepth 100000 in
theorem lp_X4_firstFault {l : Launch} {V : gV} {ad : Nat → Nat} {K : gX} (hk : gOk l { frames := 2, cells := 0, slots := 0, locals := 45 } K V cX4_firstFault 4 RX4 (some .int) yX4_firstFault.name) (E : Nat → va_E) (p : Nat) (hp : p + 1 < 44) (la : Int32) (sz : Nat) (hsz : sz ≤ 60) (cl : Nat → Int32) (hE : E p = wC ad p la (nI sz)) (hE1 : E (p + 1) = gI V 60 cl) (i m : Nat) (him : i + m ≤ sz) : ∀ (k q : Nat) (val : Int32), m < q + k → q ≤ m → val = (if sFfn (fun a => cl (i + a)) m q < m then nI (sFfn (fun a => cl (i + a)) m q) else if 1 < m ∧ (m - 1) % 6 = 0 then -1 else nI m) → G K V 4 (gQ K V 44 0 0 (pI ad (pS E val))) ad 44 0 0 2 [(0, .ref (ad p)), (1, .int (nI i)), (2, .int (nI m)), (3, .int (nI q))] [] E := by
  intro k
  induction k with
  | zero => intro q val hq; omega
  | succ k ih =>
    intro q val hq hqm hv
    have h1m : nI m ≤ 1 ↔ m ≤ 1 := nle (b := 1) (by omega) (by omega)
    refine G_iload_n (i := 3) hk dX4_firstFault_2 rfl rfl ?_
    refine G_iload_n (i := 2) hk dX4_firstFault_3 rfl rfl ?_
    refine G_icmp_ge (tgt := 24) hk dX4_firstFault_4 (by decide) (fun c_4 => ?_) (fun c_4 => ?_)
    · try simp only [gB_ne, gB_eq, Decidable.not_not] at c_4
      have hge : m ≤ q := (nle (by omega) (by omega)).mp c_4
      have hqe : q = m := by omega
      subst hqe
      rw [sFfn_end (Nat.le_refl q), if_neg (Nat.lt_irrefl q)] at hv
      refine G_iload_n (i := 2) hk dX4_firstFault_24 rfl rfl ?_
      refine G_iconst (v := 1) hk dX4_firstFault_25 (by decide) ?_
      refine G_icmp_le (tgt := 42) hk dX4_firstFault_26 (by decide) (fun c_26 => ?_) (fun c_26 => ?_)
      · try simp only [gB_ne, gB_eq, Decidable.not_not] at c_26
        have hm1 := h1m.mp c_26
        refine G_iload_n (i := 2) hk dX4_firstFault_42 rfl rfl ?_
        refine G_iret hk dX4_firstFault_43 ?_
        first | exact ⟨rfl, by rw [hv, if_neg (by omega)]⟩ | exact ⟨rfl, by rw [hv, if_neg (fun z => c_35 (hz.mpr z.2))]⟩ | exact ⟨rfl, by rw [hv, if_pos ⟨by omega, hz.mp c_35⟩]⟩ | exact ⟨rfl, by rw [hv, if_pos ⟨by omega, hz.mp (Decidable.not_not.mp c_35)⟩]⟩
      · try simp only [gB_ne, gB_eq, Decidable.not_not] at c_26
        have hm1 : ¬ q ≤ 1 := fun z => c_26 (h1m.mpr z)
        have hrem : (nI q - 1) - (nI q - 1) / 6 * 6 = nI ((q - 1) % 6) := by rw [show nI q - 1 = nI (q - 1) from pk_sub (b := 1) (by omega)]; exact pk_rem6 (by omega)
        have hz : nI ((q - 1) % 6) = 0 ↔ (q - 1) % 6 = 0 := neq (b := 0) (by have := Nat.mod_lt (q - 1) (show 0 < 6 by omega); omega) (by omega)
        refine G_iload_n (i := 2) hk dX4_firstFault_29 rfl rfl ?_
        refine G_iconst (v := 1) hk dX4_firstFault_30 (by decide) ?_
        refine G_isub hk dX4_firstFault_31 ?_
        refine G_bipush (v := 6) hk dX4_firstFault_32 (by decide) ?_
        refine G_irem hk dX4_firstFault_34 (by decide) ?_
        rw [hrem]
        refine G_if_ne (tgt := 42) hk dX4_firstFault_35 (by decide) (fun c_35 => ?_) (fun c_35 => ?_)
        · try simp only [gB_ne, gB_eq, Decidable.not_not] at c_35
          refine G_iload_n (i := 2) hk dX4_firstFault_42 rfl rfl ?_
          refine G_iret hk dX4_firstFault_43 ?_
          first | exact ⟨rfl, by rw [hv, if_neg (by omega)]⟩ | exact ⟨rfl, by rw [hv, if_neg (fun z => c_35 (hz.mpr z.2))]⟩ | exact ⟨rfl, by rw [hv, if_pos ⟨by omega, hz.mp c_35⟩]⟩ | exact ⟨rfl, by rw [hv, if_pos ⟨by omega, hz.mp (Decidable.not_not.mp c_35)⟩]⟩
        · try simp only [gB_ne, gB_eq, Decidable.not_not] at c_35
          refine G_iconst (v := (-1)) hk dX4_firstFault_38 (by decide) ?_
          refine G_goto (tgt := 43) hk dX4_firstFault_39 (by decide) ?_
          refine G_iret hk dX4_firstFault_43 ?_
          first | exact ⟨rfl, by rw [hv, if_neg (by omega)]⟩ | exact ⟨rfl, by rw [hv, if_neg (fun z => c_35 (hz.mpr z.2))]⟩ | exact ⟨rfl, by rw [hv, if_pos ⟨by omega, hz.mp c_35⟩]⟩ | exact ⟨rfl, by rw [hv, if_pos ⟨by omega, hz.mp (Decidable.not_not.mp c_35)⟩]⟩
    · try simp only [gB_ne, gB_eq, Decidable.not_not] at c_4
      have hlt : q < m := Nat.lt_of_not_le (fun z => c_4 ((nle (by omega) (by omega)).mpr z))
      refine G_aload_n (i := 0) hk dX4_firstFault_7 rfl rfl ?_
      refine G_iload_n (i := 1) hk dX4_firstFault_8 rfl rfl ?_
      refine G_iload_n (i := 3) hk dX4_firstFault_9 rfl rfl ?_
      refine G_cSi hk (c_X4_goesOn l V ad E p hp la sz hsz cl hE hE1 i m him q hlt) mX4_goesOn sX4_goesOn kX4_9 dX4_firstFault_10 rfl (by decide) (by decide) rfl (Nat.le_of_ble_eq_true rfl) (fun r_10 E_10 h_10 => ?_)
      obtain ⟨rfl, rfl⟩ := h_10
      refine G_if_ne (tgt := 18) hk dX4_firstFault_13 (by decide) (fun c_13 => ?_) (fun c_13 => ?_)
      · try simp only [gB_ne, gB_eq, Decidable.not_not] at c_13
        refine G_iinc (v := nI (q + 1)) hk dX4_firstFault_18 rfl (nI_inc q) (by decide) rfl ?_
        refine G_goto (tgt := 2) hk dX4_firstFault_21 (by decide) ?_
        exact G_lv (by exact And.intro rfl (And.intro rfl (And.intro rfl (And.intro rfl (trivial))))) (ih (q + 1) val (by omega) (by omega) (by rw [hv, sFfn_go hlt (sGoD_iff.mp c_13)]))
      · try simp only [gB_ne, gB_eq, Decidable.not_not] at c_13
        refine G_iload_n (i := 3) hk dX4_firstFault_16 rfl rfl ?_
        refine G_iret hk dX4_firstFault_17 ?_
        refine ⟨rfl, ?_⟩
        have hn : ¬ sGo (fun a => cl (i + a)) q := fun z => c_13 (sGoD_iff.mpr z)
        rw [hv, sFfn_no hlt hn, if_pos hlt]

set_option maxHeartbeats 4000000 in
set_option maxRecDepth 100000 in
theorem c_X4_firstFault (l : Launch) (V : gV) (ad : Nat → Nat) (E : Nat → va_E) (p : Nat) (hp : p + 1 < 44) (la : Int32) (sz : Nat) (hsz : sz ≤ 60) (cl : Nat → Int32) (hE : E p = wC ad p la (nI sz)) (hE1 : E (p + 1) = gI V 60 cl) (i m : Nat) (him : i + m ≤ sz) : Ct l V ad 44 44 yX4_firstFault cX4_firstFault 4 (some .int) { frames := 2, cells := 0, slots := 0, locals := 45 } [.ref (ad p), .int (nI i), .int (nI m)] E (pI ad (pS E (sFault (fun a => cl (i + a)) m))) := by
  refine gCt mX4_firstFault (Nat.le_of_ble_eq_true rfl) ?_
  intro K hk
  refine G_iconst (v := 0) hk dX4_firstFault_0 (by decide) ?_
  refine G_istore_n (i := 3) hk dX4_firstFault_1 rfl (by decide) rfl ?_
  exact G_lv (by exact And.intro rfl (And.intro rfl (And.intro rfl (And.intro rfl (trivial))))) (lp_X4_firstFault hk E p hp la sz hsz cl hE hE1 i m him (m + 1) 0 _ (by omega) (by omega) rfl)

set_option maxHeartbeats 4000000 in
set_option maxRecDepth 100000 in
theorem lp_X4_take {l : Launch} {V : gV} {ad : Nat → Nat} {K : gX} (hk : gOk l { frames := 1, cells := 0, slots := 0, locals := 60 } K V cX4_take 6 RX4 none yX4_take.name) (E0 : Nat → va_E) (p : Nat) (hp : p + 1 < 44) (hp11 : 11 < p) (la : Int32) (sz : Nat) (hsz : sz ≤ 60) (cl : Nat → Int32) (hE : E0 p = wC ad p la (nI sz)) (hE1 : E0 (p + 1) = gI V 60 cl) (i q : Nat) (him : i + (6 * q + 1) ≤ sz) (hq7 : q ≤ 7) (π : Nat → Nat) : ∀ (k r : Nat) (E1 : Nat → va_E) (R1 : Nat → Nat → Int32), q < r + k → r ≤ q → bkB V ad E1 1 q π R1 → (∀ i0, i0 < r → R1 i0 = sTx (fun a => cl (i + a)) i0) → E1 3 = E0 3 → E1 4 = E0 4 → exB 1 E0 E1 → G K V 6 (gQ K V 44 0 0 (pV ad (fun E2 => bkM V ad 1 E0 E2 q (sTx (fun a => cl (i + a)))))) ad 44 0 0 18 [(0, .ref (ad p)), (1, .int (nI i)), (3, .ref (ad 1)), (4, .int (nI r))] [] E1 := by
  intro k
  induction k with
  | zero => intro r E1 R1 hr; omega
  | succ k ih =>
    intro r E1 R1 hr hrn hB hR x2 x3 xB
    obtain ⟨h0, h1, h2, h3, h4, h5, h6⟩ := id hB
    have e0 := (xB p (by omega)).trans hE
    have e1 := (xB (p + 1) (by omega)).trans hE1
    refine G_iload hk dX4_take_18 rfl ?_
    refine G_aload_n (i := 3) hk dX4_take_20 rfl rfl ?_
    refine G_get hk fX4_37 dX4_take_21 (by assumption) (by rfl) (by first | decide | omega) ?_
    refine G_icmp_ge (tgt := 109) hk dX4_take_24 (by decide) (fun c_24 => ?_) (fun c_24 => ?_)
    · try simp only [gB_ne, gB_eq, Decidable.not_not] at c_24
      have hge : q ≤ r := (nle (by omega) (by omega)).mp c_24
      refine G_vret hk dX4_take_109 ?_
      exact ⟨⟨π, R1, hB, fun i0 hi => hR i0 (by omega)⟩, x2, x3, xB⟩
    · try simp only [gB_ne, gB_eq, Decidable.not_not] at c_24
      have hlt : r < q := Nat.lt_of_not_le (fun z => c_24 ((nle (by omega) (by omega)).mpr z))
      have p0 := h4 r (by omega)
      have br := h2 r (by omega)
      have hat : nI i + 1 + nI r * 6 = nI (i + (6 * r + 1)) := by rw [nI_i1, show (6 : Int32) = nI 6 from rfl, pk_mul, nI_add]; congr 1; omega
      refine G_iload_n (i := 1) hk dX4_take_27 rfl rfl ?_
      refine G_iconst (v := 1) hk dX4_take_28 (by decide) ?_
      refine G_iadd hk dX4_take_29 ?_
      refine G_iload hk dX4_take_30 rfl ?_
      refine G_bipush (v := 6) hk dX4_take_32 (by decide) ?_
      refine G_imul hk dX4_take_34 ?_
      refine G_iadd hk dX4_take_35 ?_
      rw [hat]
      refine G_istore hk dX4_take_36 (by decide) rfl ?_
      refine G_aload_n (i := 3) hk dX4_take_38 rfl rfl ?_
      refine G_get hk fX4_43 dX4_take_39 (by assumption) (by rfl) (by first | decide | omega) ?_
      refine G_iload hk dX4_take_42 rfl ?_
      refine G_aaldRlX (j := r) hk dX4_take_44 (by assumption) rfl (by omega) (by decide) (by rfl) (by first | decide | omega) ?_
      refine G_aload_n (i := 0) hk dX4_take_45 rfl rfl ?_
      refine G_iload hk dX4_take_46 rfl ?_
      refine G_iconst (v := 1) hk dX4_take_48 (by decide) ?_
      refine G_iadd hk dX4_take_49 ?_
      rw [show nI (i + (6 * r + 1)) + 1 = nI (i + (6 * r + 2)) from nI_add _ 1]
      refine G_cVi hk (c_X2_read l V ad E1 p hp la sz hsz cl e0 e1 (i + (6 * r + 2)) (by omega)) mX2_read vX2_read kX4_15 dX4_take_50 (by assumption) (by rfl) (by first | decide | omega) rfl (by decide) (by decide) rfl (Nat.le_of_ble_eq_true rfl) (fun r_50 E_50 h_50 => ?_)
      obtain ⟨rfl, rfl⟩ := h_50
      refine G_cSi hk (c_X4_kindOf l V ad E1 _) mX4_kindOf sX4_kindOf kX4_21 dX4_take_53 rfl (by decide) (by decide) rfl (Nat.le_of_ble_eq_true rfl) (fun r_53 E_53 h_53 => ?_)
      obtain ⟨rfl, rfl⟩ := h_53
      refine G_aload_n (i := 0) hk dX4_take_56 rfl rfl ?_
      refine G_iload hk dX4_take_57 rfl ?_
      refine G_iconst (v := 2) hk dX4_take_59 (by decide) ?_
      refine G_iadd hk dX4_take_60 ?_
      rw [show nI (i + (6 * r + 1)) + 2 = nI (i + (6 * r + 3)) from nI_add _ 2]
      refine G_cVi hk (c_X2_read l V ad E1 p hp la sz hsz cl e0 e1 (i + (6 * r + 3)) (by omega)) mX2_read vX2_read kX4_15 dX4_take_61 (by assumption) (by rfl) (by first | decide | omega) rfl (by decide) (by decide) rfl (Nat.le_of_ble_eq_true rfl) (fun r_61 E_61 h_61 => ?_)
      obtain ⟨rfl, rfl⟩ := h_61
      refine G_cSi hk (c_X4_deedOf l V ad E1 _) mX4_deedOf sX4_deedOf kX4_24 dX4_take_64 rfl (by decide) (by decide) rfl (Nat.le_of_ble_eq_true rfl) (fun r_64 E_64 h_64 => ?_)
      obtain ⟨rfl, rfl⟩ := h_64
      refine G_aload_n (i := 0) hk dX4_take_67 rfl rfl ?_
      refine G_iload hk dX4_take_68 rfl ?_
      refine G_iconst (v := 3) hk dX4_take_70 (by decide) ?_
      refine G_iadd hk dX4_take_71 ?_
      rw [show nI (i + (6 * r + 1)) + 3 = nI (i + (6 * r + 4)) from nI_add _ 3]
      refine G_cVi hk (c_X2_read l V ad E1 p hp la sz hsz cl e0 e1 (i + (6 * r + 4)) (by omega)) mX2_read vX2_read kX4_15 dX4_take_72 (by assumption) (by rfl) (by first | decide | omega) rfl (by decide) (by decide) rfl (Nat.le_of_ble_eq_true rfl) (fun r_72 E_72 h_72 => ?_)
      obtain ⟨rfl, rfl⟩ := h_72
      refine G_bipush (v := 48) hk dX4_take_75 (by decide) ?_
      refine G_isub hk dX4_take_77 ?_
      refine G_aload_n (i := 0) hk dX4_take_78 rfl rfl ?_
      refine G_iload hk dX4_take_79 rfl ?_
      refine G_iconst (v := 4) hk dX4_take_81 (by decide) ?_
      refine G_iadd hk dX4_take_82 ?_
      rw [show nI (i + (6 * r + 1)) + 4 = nI (i + (6 * r + 5)) from nI_add _ 4]
      refine G_cVi hk (c_X2_read l V ad E1 p hp la sz hsz cl e0 e1 (i + (6 * r + 5)) (by omega)) mX2_read vX2_read kX4_15 dX4_take_83 (by assumption) (by rfl) (by first | decide | omega) rfl (by decide) (by decide) rfl (Nat.le_of_ble_eq_true rfl) (fun r_83 E_83 h_83 => ?_)
      obtain ⟨rfl, rfl⟩ := h_83
      refine G_bipush (v := 97) hk dX4_take_86 (by decide) ?_
      refine G_isub hk dX4_take_88 ?_
      refine G_aload_n (i := 0) hk dX4_take_89 rfl rfl ?_
      refine G_iload hk dX4_take_90 rfl ?_
      refine G_iconst (v := 5) hk dX4_take_92 (by decide) ?_
      refine G_iadd hk dX4_take_93 ?_
      rw [show nI (i + (6 * r + 1)) + 5 = nI (i + (6 * r + 6)) from nI_add _ 5]
      refine G_cVi hk (c_X2_read l V ad E1 p hp la sz hsz cl e0 e1 (i + (6 * r + 6)) (by omega)) mX2_read vX2_read kX4_15 dX4_take_94 (by assumption) (by rfl) (by first | decide | omega) rfl (by decide) (by decide) rfl (Nat.le_of_ble_eq_true rfl) (fun r_94 E_94 h_94 => ?_)
      obtain ⟨rfl, rfl⟩ := h_94
      refine G_bipush (v := 97) hk dX4_take_97 (by decide) ?_
      refine G_isub hk dX4_take_99 ?_
      refine G_cVv hk (c_X3_become l V ad E1 (1 + 4 + π r) (by omega) (R1 r) _ _ _ _ _ br) mX3_become vX3_become kX4_47 dX4_take_100 (by assumption) (by rfl) (by first | decide | omega) rfl (by decide) (by decide) rfl (Nat.le_of_ble_eq_true rfl) (fun E_100 h_100 => ?_)
      subst h_100
      refine G_iinc (v := nI (r + 1)) hk dX4_take_103 rfl (nI_inc r) (by decide) rfl ?_
      refine G_goto (tgt := 18) hk dX4_take_106 (by decide) ?_
      refine G_lv (by exact And.intro rfl (And.intro rfl (And.intro rfl (And.intro rfl (trivial))))) (ih (r + 1) _ (fun i0 => if i0 = r then sTx (fun a => cl (i + a)) r else R1 i0) (by omega) (by omega) (hB.rule (by omega) (sTx (fun a => cl (i + a)) r)) (fun i0 hi => ?_) ?_ ?_ (fun z hz => ?_))
      · by_cases hir : i0 = r
        · rw [if_pos hir, hir]
        · rw [if_neg hir, hR i0 (by omega)]
      · rw [va_up_ne _ _ (by omega)]; exact x2
      · rw [va_up_ne _ _ (by omega)]; exact x3
      · rw [va_up_ne _ _ (by omega)]; exact xB z hz

set_option maxHeartbeats 4000000 in
set_option maxRecDepth 100000 in
theorem c_X4_take (l : Launch) (V : gV) (ad : Nat → Nat) (E : Nat → va_E) (p : Nat) (hp : p + 1 < 44) (hp11 : 11 < p) (la : Int32) (sz : Nat) (hsz : sz ≤ 60) (cl : Nat → Int32) (hE : E p = wC ad p la (nI sz)) (hE1 : E (p + 1) = gI V 60 cl) (i q : Nat) (him : i + (6 * q + 1) ≤ sz) (hq7 : q ≤ 7) (n0 : Nat) (π : Nat → Nat) (R0 : Nat → Nat → Int32) (hB : bkB V ad E 1 n0 π R0) : Ct l V ad 44 44 yX4_take cX4_take 6 none { frames := 1, cells := 0, slots := 0, locals := 60 } [.ref (ad p), .int (nI i), .int (nI (6 * q + 1)), .ref (ad 1)] E (pV ad (fun E2 => bkM V ad 1 E E2 q (sTx (fun a => cl (i + a))))) := by
  refine gCt mX4_take (Nat.le_of_ble_eq_true rfl) ?_
  intro K hk
  obtain ⟨h0, h1, h2, h3, h4, h5, h6⟩ := id hB
  refine G_aload_n (i := 3) hk dX4_take_0 rfl rfl ?_
  refine G_iload_n (i := 2) hk dX4_take_1 rfl rfl ?_
  refine G_iconst (v := 1) hk dX4_take_2 (by decide) ?_
  refine G_isub hk dX4_take_3 ?_
  rw [show nI (6 * q + 1) - 1 = nI (6 * q) from nI_pred _]
  refine G_bipush (v := 6) hk dX4_take_4 (by decide) ?_
  refine G_idiv hk dX4_take_6 (by decide) ?_
  rw [pk_div6 (show 6 * q < 100000 by omega), show 6 * q / 6 = q by omega]
  refine G_bipush (v := 7) hk dX4_take_7 (by decide) ?_
  refine G_mmin hk jkX4_31 dX4_take_9 (Nat.le_of_ble_eq_true rfl) (by decide) (by decide) ?_
  rw [show (if (7 : Int32) < nI q then (7 : Int32) else nI q) = nI q from if_neg (fun z => absurd ((nlt (a := 7) (by omega) (by omega)).mp z) (by omega))]
  refine G_put hk fX4_37 iX1_2 dX4_take_12 (by assumption) (Nat.le_of_ble_eq_true rfl) (by first | decide | omega) ?_
  refine G_iconst (v := 0) hk dX4_take_15 (by decide) ?_
  refine G_istore hk dX4_take_16 (by decide) rfl ?_
  refine G_lv (by exact And.intro rfl (And.intro rfl (And.intro rfl (And.intro rfl (trivial))))) (lp_X4_take hk E p hp hp11 la sz hsz cl hE hE1 i q him hq7 π (q + 1) 0 _ R0 (by omega) (by omega) ⟨?_, ?_, fun i0 hi => ?_, hq7, h4, h5, h6⟩ (fun i0 hi => absurd hi (Nat.not_lt_zero i0)) ?_ ?_ (fun z hz => ?_))
  · rw [va_up_self]; rfl
  · rw [va_up_ne _ _ (by omega)]; exact h1
  · rw [va_up_ne _ _ (by omega)]; exact h2 i0 hi
  · rw [va_up_ne _ _ (by omega)]
  · rw [va_up_ne _ _ (by omega)]
  · rw [va_up_ne _ _ (by omega)]
