set_option maxHeartbeats 4000000 in
set_option maxRecDepth 100000 in
theorem c_X5_init (l : Launch) (V : gV) (ad : Nat → Nat) (E : Nat → va_E) (hE0 : E 0 = .inr (4, [.null, .null, .null, .null, .null, .int 0, .int 0, .int 0])) : Ct l V ad 1 34 yX5_init cX5_init 2 none { frames := 3, cells := 33, slots := 384, locals := 65 } [.ref (ad 0)] E (pN (fun ad2 E2 => ad2 0 = ad 0 ∧ W5 V ad2 E2)) := by
  refine gCt mX5_init (Nat.le_of_ble_eq_true rfl) ?_
  intro K hk
  refine G_aload_n (i := 0) hk dX5_init_0 rfl rfl ?_
  refine G_objI hk kX5_3 dX5_init_1 (Nat.le_of_ble_eq_true rfl) (Nat.le_of_ble_eq_true rfl) ?_
  refine G_aload_n (i := 0) hk dX5_init_4 rfl rfl ?_
  refine G_new (ci := 1) (fs := [.null, .null, .int 0]) hk uX1 tyX1 tyX1_ok jlX5_9 jiX1 jnX1 rfl (by decide) dX5_init_5 (Nat.le_of_ble_eq_true rfl) (Nat.le_of_ble_eq_true rfl) (fun q1 => ?_)
  refine G_dup hk dX5_init_8 rfl ?_
  refine G_cI (k := 1) hk (c_X1_init_1 l V _ _ rfl) mX1_init vX1_init rfl kX5_11 dX5_init_9 rfl ⟨(Nat.le_of_ble_eq_true rfl), (Nat.le_of_ble_eq_true rfl)⟩ ⟨(Nat.le_of_ble_eq_true rfl), (Nat.le_of_ble_eq_true rfl)⟩ rfl (Nat.le_of_ble_eq_true rfl) (fun ad2 Ec2 h2 => ?_)
  obtain ⟨a1, x1, b1⟩ := h2
  have e0 : ad2 0 = ad 0 := a1 0 (by decide)
  have e1 : ad2 1 = q1 := a1 1 (by decide)
  subst e1
  rw [← e0]
  have g0 : Ec2 0 = .inr (4, [.null, .null, .null, .null, .null, .int 0, .int 0, .int 0]) := (x1 0 (by decide)).trans hE0
  refine G_putF (k := 0) hk rfl fX5_12 nX5_0 dX5_init_12 g0 rfl rfl rfl (Nat.le_of_ble_eq_true rfl) (by decide) ?_
  refine G_aload_n (i := 0) hk dX5_init_15 rfl rfl ?_
  refine G_new (ci := 1) (fs := [.null, .null, .int 0]) hk uX1 tyX1 tyX1_ok jlX5_9 jiX1 jnX1 rfl (by decide) dX5_init_16 (Nat.le_of_ble_eq_true rfl) (Nat.le_of_ble_eq_true rfl) (fun q3 => ?_)
  refine G_dup hk dX5_init_19 rfl ?_
  refine G_cI (k := 12) hk (c_X1_init_12 l V _ _ rfl) mX1_init vX1_init rfl kX5_11 dX5_init_20 rfl ⟨(Nat.le_of_ble_eq_true rfl), (Nat.le_of_ble_eq_true rfl)⟩ ⟨(Nat.le_of_ble_eq_true rfl), (Nat.le_of_ble_eq_true rfl)⟩ rfl (Nat.le_of_ble_eq_true rfl) (fun ad4 Ec4 h4 => ?_)
  obtain ⟨a2, x2, b2⟩ := h4
  have e2 : ad4 0 = ad2 0 := a2 0 (by decide)
  have e3 : ad4 1 = ad2 1 := a2 1 (by decide)
  have e4 : ad4 12 = q3 := a2 12 (by decide)
  subst e4
  rw [← e2]
  have g1 : Ec4 0 = .inr (4, [.ref (ad4 1), .null, .null, .null, .null, .int 0, .int 0, .int 0]) := by rw [e3]; exact x2 0 (by decide)
  have b3 : bk0 V ad4 Ec4 1 := b1.mv (fun k a b => (a2 k (by omega)).trans (va_up_ne _ _ (by omega))) (fun k a b => (x2 k (by omega)).trans ((va_up_ne _ _ (by omega)).trans (va_up_ne _ _ (by omega))))
  clear a1 x1 b1 a2 x2 g0 e3
  refine G_putF (k := 0) hk rfl fX5_18 nX5_1 dX5_init_23 g1 rfl rfl rfl (Nat.le_of_ble_eq_true rfl) (by decide) ?_
  refine G_aload_n (i := 0) hk dX5_init_26 rfl rfl ?_
  refine G_iconst (v := 4) hk dX5_init_27 (by decide) ?_
  refine G_newRw (M := 4) hk jlX5_21 dX5_init_28 (by decide) (by decide) (by decide) (Nat.le_of_ble_eq_true rfl) (Nat.le_of_ble_eq_true rfl) (fun q5 => ?_)
  refine G_putF (k := 0) hk rfl fX5_23 nX5_2 dX5_init_31 (by first | rfl | exact hE0) rfl rfl rfl (Nat.le_of_ble_eq_true rfl) (by decide) ?_
  refine G_aload_n (i := 0) hk dX5_init_34 rfl rfl ?_
  refine G_bipush (v := 8) hk dX5_init_35 (by decide) ?_
  refine G_newI (M := 8) hk dX5_init_37 (by decide) (by decide) (by decide) (Nat.le_of_ble_eq_true rfl) (Nat.le_of_ble_eq_true rfl) (fun q6 => ?_)
  refine G_putF (k := 0) hk rfl fX5_27 nX5_3 dX5_init_39 (by first | rfl | exact hE0) rfl rfl rfl (Nat.le_of_ble_eq_true rfl) (by decide) ?_
  refine G_aload_n (i := 0) hk dX5_init_42 rfl rfl ?_
  refine G_bipush (v := 8) hk dX5_init_43 (by decide) ?_
  refine G_newI (M := 8) hk dX5_init_45 (by decide) (by decide) (by decide) (Nat.le_of_ble_eq_true rfl) (Nat.le_of_ble_eq_true rfl) (fun q7 => ?_)
  refine G_putF (k := 0) hk rfl fX5_31 nX5_4 dX5_init_47 (by first | rfl | exact hE0) rfl rfl rfl (Nat.le_of_ble_eq_true rfl) (by decide) ?_
  refine G_iconst (v := 0) hk dX5_init_50 (by decide) ?_
  refine G_istore_n (i := 1) hk dX5_init_51 rfl (by decide) rfl ?_
  refine G_iload_n (i := 1) hk dX5_init_52 rfl rfl ?_
  refine G_iconst (v := 4) hk dX5_init_53 (by decide) ?_
  refine G_icmp_ge (tgt := 76) hk dX5_init_54 (by decide) (fun c_54 => ?_) (fun c_54 => ?_)
  · exact absurd c_54 (by decide)
  refine G_aload_n (i := 0) hk dX5_init_57 rfl rfl ?_
  refine G_get (k := 0) hk fX5_23 dX5_init_58 (by first | rfl | exact hE0) (by rfl) (by decide) ?_
  refine G_iload_n (i := 1) hk dX5_init_61 rfl rfl ?_
  refine G_new (ci := 2) (fs := [.null, .int 0, .int 0]) hk uX2 tyX2 tyX2_ok jlX5_21 jiX2 jnX2 rfl (by decide) dX5_init_62 (Nat.le_of_ble_eq_true rfl) (Nat.le_of_ble_eq_true rfl) (fun q8 => ?_)
  refine G_dup hk dX5_init_65 rfl ?_
  refine G_cIN (k := 26) hk (c_X2_init l V _ _ 26 (by rfl)) mX2_init vX2_init rfl (fun q => q.2.2.1) dX5_init_66 rfl ⟨(Nat.le_of_ble_eq_true rfl), (Nat.le_of_ble_eq_true rfl)⟩ ⟨(Nat.le_of_ble_eq_true rfl), (Nat.le_of_ble_eq_true rfl)⟩ rfl (Nat.le_of_ble_eq_true rfl) (fun ad9 Ec9 h9 => ?_)
  obtain ⟨p9, rfl, rfl⟩ := h9
  refine G_aastRwX (k := 23) (k2 := 26) (j := 0) hk dX5_init_69 (by first | rfl | exact hE0) (by decide) (by decide) (by decide) (by decide) (by first | rfl | exact hE0) (by decide) ?_
  refine G_iinc (v := 1) hk dX5_init_70 rfl (by decide) (by decide) rfl ?_
  refine G_goto (tgt := 52) hk dX5_init_73 (by decide) ?_
  refine G_iload_n (i := 1) hk dX5_init_52 rfl rfl ?_
  refine G_iconst (v := 4) hk dX5_init_53 (by decide) ?_
  refine G_icmp_ge (tgt := 76) hk dX5_init_54 (by decide) (fun c_54 => ?_) (fun c_54 => ?_)
  · exact absurd c_54 (by decide)
  refine G_aload_n (i := 0) hk dX5_init_57 rfl rfl ?_
  refine G_get (k := 0) hk fX5_23 dX5_init_58 (by first | rfl | exact hE0) (by rfl) (by decide) ?_
  refine G_iload_n (i := 1) hk dX5_init_61 rfl rfl ?_
  refine G_new (ci := 2) (fs := [.null, .int 0, .int 0]) hk uX2 tyX2 tyX2_ok jlX5_21 jiX2 jnX2 rfl (by decide) dX5_init_62 (Nat.le_of_ble_eq_true rfl) (Nat.le_of_ble_eq_true rfl) (fun q10 => ?_)
  refine G_dup hk dX5_init_65 rfl ?_
  refine G_cIN (k := 28) hk (c_X2_init l V _ _ 28 (by rfl)) mX2_init vX2_init rfl (fun q => q.2.2.1) dX5_init_66 rfl ⟨(Nat.le_of_ble_eq_true rfl), (Nat.le_of_ble_eq_true rfl)⟩ ⟨(Nat.le_of_ble_eq_true rfl), (Nat.le_of_ble_eq_true rfl)⟩ rfl (Nat.le_of_ble_eq_true rfl) (fun ad11 Ec11 h11 => ?_)
  obtain ⟨p11, rfl, rfl⟩ := h11
  refine G_aastRwX (k := 23) (k2 := 28) (j := 1) hk dX5_init_69 (by first | rfl | exact hE0) (by decide) (by decide) (by decide) (by decide) (by first | rfl | exact hE0) (by decide) ?_
  refine G_iinc (v := 2) hk dX5_init_70 rfl (by decide) (by decide) rfl ?_
  refine G_goto (tgt := 52) hk dX5_init_73 (by decide) ?_
  refine G_iload_n (i := 1) hk dX5_init_52 rfl rfl ?_
  refine G_iconst (v := 4) hk dX5_init_53 (by decide) ?_
  refine G_icmp_ge (tgt := 76) hk dX5_init_54 (by decide) (fun c_54 => ?_) (fun c_54 => ?_)
  · exact absurd c_54 (by decide)
  refine G_aload_n (i := 0) hk dX5_init_57 rfl rfl ?_
  refine G_get (k := 0) hk fX5_23 dX5_init_58 (by first | rfl | exact hE0) (by rfl) (by decide) ?_
  refine G_iload_n (i := 1) hk dX5_init_61 rfl rfl ?_
  refine G_new (ci := 2) (fs := [.null, .int 0, .int 0]) hk uX2 tyX2 tyX2_ok jlX5_21 jiX2 jnX2 rfl (by decide) dX5_init_62 (Nat.le_of_ble_eq_true rfl) (Nat.le_of_ble_eq_true rfl) (fun q12 => ?_)
  refine G_dup hk dX5_init_65 rfl ?_
  refine G_cIN (k := 30) hk (c_X2_init l V _ _ 30 (by rfl)) mX2_init vX2_init rfl (fun q => q.2.2.1) dX5_init_66 rfl ⟨(Nat.le_of_ble_eq_true rfl), (Nat.le_of_ble_eq_true rfl)⟩ ⟨(Nat.le_of_ble_eq_true rfl), (Nat.le_of_ble_eq_true rfl)⟩ rfl (Nat.le_of_ble_eq_true rfl) (fun ad13 Ec13 h13 => ?_)
  obtain ⟨p13, rfl, rfl⟩ := h13
  refine G_aastRwX (k := 23) (k2 := 30) (j := 2) hk dX5_init_69 (by first | rfl | exact hE0) (by decide) (by decide) (by decide) (by decide) (by first | rfl | exact hE0) (by decide) ?_
  refine G_iinc (v := 3) hk dX5_init_70 rfl (by decide) (by decide) rfl ?_
  refine G_goto (tgt := 52) hk dX5_init_73 (by decide) ?_
  refine G_iload_n (i := 1) hk dX5_init_52 rfl rfl ?_
  refine G_iconst (v := 4) hk dX5_init_53 (by decide) ?_
  refine G_icmp_ge (tgt := 76) hk dX5_init_54 (by decide) (fun c_54 => ?_) (fun c_54 => ?_)
  · exact absurd c_54 (by decide)
  refine G_aload_n (i := 0) hk dX5_init_57 rfl rfl ?_
  refine G_get (k := 0) hk fX5_23 dX5_init_58 (by first | rfl | exact hE0) (by rfl) (by decide) ?_
  refine G_iload_n (i := 1) hk dX5_init_61 rfl rfl ?_
  refine G_new (ci := 2) (fs := [.null, .int 0, .int 0]) hk uX2 tyX2 tyX2_ok jlX5_21 jiX2 jnX2 rfl (by decide) dX5_init_62 (Nat.le_of_ble_eq_true rfl) (Nat.le_of_ble_eq_true rfl) (fun q14 => ?_)
  refine G_dup hk dX5_init_65 rfl ?_
  refine G_cIN (k := 32) hk (c_X2_init l V _ _ 32 (by rfl)) mX2_init vX2_init rfl (fun q => q.2.2.1) dX5_init_66 rfl ⟨(Nat.le_of_ble_eq_true rfl), (Nat.le_of_ble_eq_true rfl)⟩ ⟨(Nat.le_of_ble_eq_true rfl), (Nat.le_of_ble_eq_true rfl)⟩ rfl (Nat.le_of_ble_eq_true rfl) (fun ad15 Ec15 h15 => ?_)
  obtain ⟨p15, rfl, rfl⟩ := h15
  refine G_aastRwX (k := 23) (k2 := 32) (j := 3) hk dX5_init_69 (by first | rfl | exact hE0) (by decide) (by decide) (by decide) (by decide) (by first | rfl | exact hE0) (by decide) ?_
  refine G_iinc (v := 4) hk dX5_init_70 rfl (by decide) (by decide) rfl ?_
  refine G_goto (tgt := 52) hk dX5_init_73 (by decide) ?_
  refine G_iload_n (i := 1) hk dX5_init_52 rfl rfl ?_
  refine G_iconst (v := 4) hk dX5_init_53 (by decide) ?_
  refine G_icmp_ge (tgt := 76) hk dX5_init_54 (by decide) (fun c_54 => ?_) (fun c_54 => ?_)
  rotate_left
  · exact absurd (by decide) c_54
  refine G_nret hk dX5_init_76 ⟨rfl, rfl, b3.mv (fun k a b => ?_) (fun k a b => ?_), b2.mv (fun k a b => ?_) (fun k a b => ?_), ⟨_, rfl, fun i hi => ?_⟩, rfl, rfl, fun i hi => ?_⟩
  · simp only [va_up]
    repeat rw [if_neg (by omega)]
  · simp only [va_up]
    repeat rw [if_neg (by omega)]
  · simp only [va_up]
    repeat rw [if_neg (by omega)]
  · simp only [va_up]
    repeat rw [if_neg (by omega)]
  · rcases (show i = 0 ∨ i = 1 ∨ i = 2 ∨ i = 3 by omega) with rfl | rfl | rfl | rfl <;> rfl
  · rcases (show i = 0 ∨ i = 1 ∨ i = 2 ∨ i = 3 by omega) with rfl | rfl | rfl | rfl <;> exact ⟨rfl, rfl⟩

set_option maxHeartbeats 4000000 in
set_option maxRecDepth 100000 in
theorem c_X6_init (l : Launch) (V : gV) (ad : Nat → Nat) (E : Nat → va_E) (hE0 : E 34 = .inr (5, [.int 0, .int 0, .null, .null, .null, .int 0, .null, .int 0, .int 0, .null, .null, .int 0, .int 0, .null, .int 0, .null, .null])) : Ct l V ad 35 44 yX6_init cX6_init 1 none { frames := 1, cells := 9, slots := 377, locals := 24 } [.ref (ad 34)] E (pN (fun ad2 E2 => (∀ k, k < 35 → ad2 k = ad k) ∧ (∀ k, k < 34 → E2 k = E k) ∧ ∃ so : Nat → Int32, (∀ s, s < 4 → so s = -9) ∧ mC V ad2 E2 0 0 0 0 0 0 0 0 so (fun _ => 0) (fun _ => 0) (fun _ => 0) (fun _ => 0) (fun _ => 0) (fun _ => 0) (fun _ => 0) (fun _ => 0))) := by
  refine gCt mX6_init (Nat.le_of_ble_eq_true rfl) ?_
  intro K hk
  refine G_aload_n (i := 0) hk dX6_init_0 rfl rfl ?_
  refine G_objI hk kX6_1 dX6_init_1 (Nat.le_of_ble_eq_true rfl) (Nat.le_of_ble_eq_true rfl) ?_
  refine G_aload_n (i := 0) hk dX6_init_4 rfl rfl ?_
  refine G_iconst (v := 4) hk dX6_init_5 (by decide) ?_
  refine G_newI (M := 4) hk dX6_init_6 (by decide) (by decide) (by decide) (Nat.le_of_ble_eq_true rfl) (Nat.le_of_ble_eq_true rfl) (fun q1 => ?_)
  refine G_dup hk dX6_init_8 rfl ?_
  refine G_iconst (v := 0) hk dX6_init_9 (by decide) ?_
  refine G_bipush (v := (-9)) hk dX6_init_10 (by decide) ?_
  refine G_iastX (k := 35) (j := 0) hk dX6_init_12 (by first | rfl | exact hE0) (by decide) (by decide) (by decide) (by decide) ?_
  refine G_dup hk dX6_init_13 rfl ?_
  refine G_iconst (v := 1) hk dX6_init_14 (by decide) ?_
  refine G_bipush (v := (-9)) hk dX6_init_15 (by decide) ?_
  refine G_iastX (k := 35) (j := 1) hk dX6_init_17 (by first | rfl | exact hE0) (by decide) (by decide) (by decide) (by decide) ?_
  refine G_dup hk dX6_init_18 rfl ?_
  refine G_iconst (v := 2) hk dX6_init_19 (by decide) ?_
  refine G_bipush (v := (-9)) hk dX6_init_20 (by decide) ?_
  refine G_iastX (k := 35) (j := 2) hk dX6_init_22 (by first | rfl | exact hE0) (by decide) (by decide) (by decide) (by decide) ?_
  refine G_dup hk dX6_init_23 rfl ?_
  refine G_iconst (v := 3) hk dX6_init_24 (by decide) ?_
  refine G_bipush (v := (-9)) hk dX6_init_25 (by decide) ?_
  refine G_iastX (k := 35) (j := 3) hk dX6_init_27 (by first | rfl | exact hE0) (by decide) (by decide) (by decide) (by decide) ?_
  refine G_putF (k := 34) hk rfl fX6_9 nX6_2 dX6_init_28 (by first | rfl | exact hE0) rfl rfl rfl (Nat.le_of_ble_eq_true rfl) (by decide) ?_
  refine G_aload_n (i := 0) hk dX6_init_31 rfl rfl ?_
  refine G_iconst (v := 4) hk dX6_init_32 (by decide) ?_
  refine G_newI (M := 4) hk dX6_init_33 (by decide) (by decide) (by decide) (Nat.le_of_ble_eq_true rfl) (Nat.le_of_ble_eq_true rfl) (fun q2 => ?_)
  refine G_putF (k := 34) hk rfl fX6_13 nX6_3 dX6_init_35 (by first | rfl | exact hE0) rfl rfl rfl (Nat.le_of_ble_eq_true rfl) (by decide) ?_
  refine G_aload_n (i := 0) hk dX6_init_38 rfl rfl ?_
  refine G_sipush (v := 240) hk dX6_init_39 (by decide) ?_
  refine G_newI (M := 240) hk dX6_init_42 (by decide) (by decide) (by decide) (Nat.le_of_ble_eq_true rfl) (Nat.le_of_ble_eq_true rfl) (fun q3 => ?_)
  refine G_putF (k := 34) hk rfl fX6_16 nX6_4 dX6_init_44 (by first | rfl | exact hE0) rfl rfl rfl (Nat.le_of_ble_eq_true rfl) (by decide) ?_
  refine G_aload_n (i := 0) hk dX6_init_47 rfl rfl ?_
  refine G_bipush (v := 35) hk dX6_init_48 (by decide) ?_
  refine G_newI (M := 35) hk dX6_init_50 (by decide) (by decide) (by decide) (Nat.le_of_ble_eq_true rfl) (Nat.le_of_ble_eq_true rfl) (fun q4 => ?_)
  refine G_putF (k := 34) hk rfl fX6_19 nX6_6 dX6_init_52 (by first | rfl | exact hE0) rfl rfl rfl (Nat.le_of_ble_eq_true rfl) (by decide) ?_
  refine G_aload_n (i := 0) hk dX6_init_55 rfl rfl ?_
  refine G_bipush (v := 35) hk dX6_init_56 (by decide) ?_
  refine G_newI (M := 35) hk dX6_init_58 (by decide) (by decide) (by decide) (Nat.le_of_ble_eq_true rfl) (Nat.le_of_ble_eq_true rfl) (fun q5 => ?_)
  refine G_putF (k := 34) hk rfl fX6_22 nX6_9 dX6_init_60 (by first | rfl | exact hE0) rfl rfl rfl (Nat.le_of_ble_eq_true rfl) (by decide) ?_
  refine G_aload_n (i := 0) hk dX6_init_63 rfl rfl ?_
  refine G_bipush (v := 8) hk dX6_init_64 (by decide) ?_
  refine G_newI (M := 8) hk dX6_init_66 (by decide) (by decide) (by decide) (Nat.le_of_ble_eq_true rfl) (Nat.le_of_ble_eq_true rfl) (fun q6 => ?_)
  refine G_putF (k := 34) hk rfl fX6_25 nX6_10 dX6_init_68 (by first | rfl | exact hE0) rfl rfl rfl (Nat.le_of_ble_eq_true rfl) (by decide) ?_
  refine G_aload_n (i := 0) hk dX6_init_71 rfl rfl ?_
  refine G_bipush (v := 35) hk dX6_init_72 (by decide) ?_
  refine G_newI (M := 35) hk dX6_init_74 (by decide) (by decide) (by decide) (Nat.le_of_ble_eq_true rfl) (Nat.le_of_ble_eq_true rfl) (fun q7 => ?_)
  refine G_putF (k := 34) hk rfl fX6_28 nX6_13 dX6_init_76 (by first | rfl | exact hE0) rfl rfl rfl (Nat.le_of_ble_eq_true rfl) (by decide) ?_
  refine G_aload_n (i := 0) hk dX6_init_79 rfl rfl ?_
  refine G_bipush (v := 8) hk dX6_init_80 (by decide) ?_
  refine G_newI (M := 8) hk dX6_init_82 (by decide) (by decide) (by decide) (Nat.le_of_ble_eq_true rfl) (Nat.le_of_ble_eq_true rfl) (fun q8 => ?_)
  refine G_putF (k := 34) hk rfl fX6_31 nX6_15 dX6_init_84 (by first | rfl | exact hE0) rfl rfl rfl (Nat.le_of_ble_eq_true rfl) (by decide) ?_
  refine G_aload_n (i := 0) hk dX6_init_87 rfl rfl ?_
  refine G_bipush (v := 8) hk dX6_init_88 (by decide) ?_
  refine G_newI (M := 8) hk dX6_init_90 (by decide) (by decide) (by decide) (Nat.le_of_ble_eq_true rfl) (Nat.le_of_ble_eq_true rfl) (fun q9 => ?_)
  refine G_putF (k := 34) hk rfl fX6_34 nX6_16 dX6_init_92 (by first | rfl | exact hE0) rfl rfl rfl (Nat.le_of_ble_eq_true rfl) (by decide) ?_
  refine G_nret hk dX6_init_95 ⟨fun k hk => ?_, fun k hk => ?_, _, ?_, rfl, rfl, rfl, rfl, rfl, rfl, rfl, rfl, rfl, rfl, by decide⟩
  · simp only [va_up]
    repeat rw [if_neg (by omega)]
  · simp only [va_up]
    repeat rw [if_neg (by omega)]
  · intro i hi
    rcases (show i = 0 ∨ i = 1 ∨ i = 2 ∨ i = 3 by omega) with rfl | rfl | rfl | rfl <;> rfl
