set_option maxHeartbeats 4000000 in
set_option maxRecDepth 100000 in
theorem c_X3_init (l : Launch) (V : gV) (ad : Nat → Nat) (E : Nat → va_E) (N k : Nat) (hN : k < N) (hE0 : E k = .inr (3, [.int 0, .int 0, .int 0, .int 0, .int 0])) : Ct l V ad N N yX3_init cX3_init 1 none { frames := 1, cells := 0, slots := 0, locals := 24 } [.ref (ad k)] E (pN (fun ad2 E2 => ad2 = ad ∧ E2 = va_up E k (rC r0))) := by
  refine gCt mX3_init (Nat.le_of_ble_eq_true rfl) ?_
  intro K hk
  refine G_aload_n (i := 0) hk dX3_init_0 rfl rfl ?_
  refine G_objI hk kX3_3 dX3_init_1 (Nat.le_of_ble_eq_true rfl) (Nat.le_of_ble_eq_true rfl) ?_
  refine G_aload_n (i := 0) hk dX3_init_4 rfl rfl ?_
  refine G_iconst (v := 1) hk dX3_init_5 (by decide) ?_
  refine G_put (k := k) hk fX3_9 iX3_2 dX3_init_6 hE0 (Nat.le_of_ble_eq_true rfl) hN ?_
  exact G_nret hk dX3_init_9 ⟨rfl, rfl⟩

set_option maxHeartbeats 4000000 in
set_option maxRecDepth 100000 in
theorem c_X0_init (l : Launch) (V : gV) (ad : Nat → Nat) (E : Nat → va_E) (k : Nat) (hE0 : E k = .inr (0, [.null, .int 0, .int 0])) : Ct l V ad (k + 1) (k + 2) yX0_init cX0_init 1 none { frames := 1, cells := 1, slots := 8, locals := 24 } [.ref (ad k)] E (pN (fun ad2 E2 => ∃ q, ad2 = va_up ad (k + 1) q ∧ E2 = va_up (va_up E (k + 1) (gI V 8 (fun _ => 0))) k (.inr (0, [.ref q, .int 0, .int 0])))) := by
  refine gCt mX0_init (Nat.le_of_ble_eq_true rfl) ?_
  intro K hk
  refine G_aload_n (i := 0) hk dX0_init_0 rfl rfl ?_
  refine G_objI hk kX0_3 dX0_init_1 (Nat.le_of_ble_eq_true rfl) (Nat.le_of_ble_eq_true rfl) ?_
  refine G_aload_n (i := 0) hk dX0_init_4 rfl rfl ?_
  refine G_bipush (v := 8) hk dX0_init_5 (by decide) ?_
  refine G_newI (M := 8) hk dX0_init_7 (by decide) (by decide) (by decide) (Nat.le_of_ble_eq_true rfl) (Nat.le_of_ble_eq_true rfl) (fun q => ?_)
  have ek : ad k = va_up ad (k + 1) q k := (va_up_ne _ _ (by omega)).symm
  rw [ek]
  refine G_putF (k := k) hk rfl fX0_9 nX0_0 dX0_init_9 ((va_up_ne _ _ (by omega)).trans hE0) rfl rfl rfl (Nat.le_of_ble_eq_true rfl) (by omega) ?_
  exact G_nret hk dX0_init_12 ⟨q, rfl, rfl⟩

set_option maxHeartbeats 4000000 in
set_option maxRecDepth 100000 in
theorem c_X2_init (l : Launch) (V : gV) (ad : Nat → Nat) (E : Nat → va_E) (k : Nat) (hE0 : E k = .inr (2, [.null, .int 0, .int 0])) : Ct l V ad (k + 1) (k + 2) yX2_init cX2_init 1 none { frames := 1, cells := 1, slots := 60, locals := 24 } [.ref (ad k)] E (pN (fun ad2 E2 => ∃ q, ad2 = va_up ad (k + 1) q ∧ E2 = va_up (va_up E (k + 1) (gI V 60 (fun _ => 0))) k (.inr (2, [.ref q, .int (-1), .int 0])))) := by
  refine gCt mX2_init (Nat.le_of_ble_eq_true rfl) ?_
  intro K hk
  refine G_aload_n (i := 0) hk dX2_init_0 rfl rfl ?_
  refine G_objI hk kX2_3 dX2_init_1 (Nat.le_of_ble_eq_true rfl) (Nat.le_of_ble_eq_true rfl) ?_
  refine G_aload_n (i := 0) hk dX2_init_4 rfl rfl ?_
  refine G_bipush (v := 60) hk dX2_init_5 (by decide) ?_
  refine G_newI (M := 60) hk dX2_init_7 (by decide) (by decide) (by decide) (Nat.le_of_ble_eq_true rfl) (Nat.le_of_ble_eq_true rfl) (fun q => ?_)
  have ek : ad k = va_up ad (k + 1) q k := (va_up_ne _ _ (by omega)).symm
  rw [ek]
  refine G_putF (k := k) hk rfl fX2_9 nX2_0 dX2_init_9 ((va_up_ne _ _ (by omega)).trans hE0) rfl rfl rfl (Nat.le_of_ble_eq_true rfl) (by omega) ?_
  refine G_aload_n (i := 0) hk dX2_init_12 rfl rfl ?_
  refine G_iconst (v := (-1)) hk dX2_init_13 (by decide) ?_
  refine G_put (k := k) hk fX2_15 iX2_1 dX2_init_14 (va_up_self _ _ _) (Nat.le_of_ble_eq_true rfl) (by omega) ?_
  exact G_nret hk dX2_init_17 ⟨q, rfl, by rw [va_up_up]; rfl⟩

set_option maxHeartbeats 4000000 in
set_option maxRecDepth 100000 in
theorem c_X1_init_1 (l : Launch) (V : gV) (ad : Nat → Nat) (E : Nat → va_E) (hE0 : E 1 = .inr (1, [.null, .null, .int 0])) : Ct l V ad 2 12 yX1_init cX1_init 2 none { frames := 2, cells := 10, slots := 53, locals := 44 } [.ref (ad 1)] E (pN (fun ad2 E2 => (∀ k, k < 2 → ad2 k = ad k) ∧ (∀ k, k < 1 → E2 k = E k) ∧ bk0 V ad2 E2 1)) := by
  refine gCt mX1_init (Nat.le_of_ble_eq_true rfl) ?_
  intro K hk
  refine G_aload_n (i := 0) hk dX1_init_0 rfl rfl ?_
  refine G_objI hk kX1_3 dX1_init_1 (Nat.le_of_ble_eq_true rfl) (Nat.le_of_ble_eq_true rfl) ?_
  refine G_aload_n (i := 0) hk dX1_init_4 rfl rfl ?_
  refine G_bipush (v := 7) hk dX1_init_5 (by decide) ?_
  refine G_newRl (M := 7) hk jlX1_9 dX1_init_7 (by decide) (by decide) (by decide) (Nat.le_of_ble_eq_true rfl) (Nat.le_of_ble_eq_true rfl) (fun q1 => ?_)
  refine G_putF (k := 1) hk rfl fX1_11 nX1_0 dX1_init_10 (by first | rfl | exact hE0) rfl rfl rfl (Nat.le_of_ble_eq_true rfl) (by decide) ?_
  refine G_aload_n (i := 0) hk dX1_init_13 rfl rfl ?_
  refine G_new (ci := 0) (fs := [.null, .int 0, .int 0]) hk uX0 tyX0 tyX0_ok jlX1_17 jiX0 jnX0 rfl (by decide) dX1_init_14 (Nat.le_of_ble_eq_true rfl) (Nat.le_of_ble_eq_true rfl) (fun q2 => ?_)
  refine G_dup hk dX1_init_17 rfl ?_
  refine G_cIN (k := 3) hk (c_X0_init l V _ _ 3 (by first | rfl | exact hE0)) mX0_init vX0_init rfl (fun q => q.1) dX1_init_18 rfl ⟨(Nat.le_of_ble_eq_true rfl), (Nat.le_of_ble_eq_true rfl)⟩ ⟨(Nat.le_of_ble_eq_true rfl), (Nat.le_of_ble_eq_true rfl)⟩ rfl (Nat.le_of_ble_eq_true rfl) (fun ad3 Ec3 h3 => ?_)
  obtain ⟨p3, rfl, rfl⟩ := h3
  refine G_putF (k := 1) hk rfl fX1_20 nX1_1 dX1_init_21 (by first | rfl | exact hE0) rfl rfl rfl (Nat.le_of_ble_eq_true rfl) (by decide) ?_
  refine G_iconst (v := 0) hk dX1_init_24 (by decide) ?_
  refine G_istore_n (i := 1) hk dX1_init_25 rfl (by decide) rfl ?_
  refine G_iload_n (i := 1) hk dX1_init_26 rfl rfl ?_
  refine G_bipush (v := 7) hk dX1_init_27 (by decide) ?_
  refine G_icmp_ge (tgt := 51) hk dX1_init_29 (by decide) (fun c_29 => ?_) (fun c_29 => ?_)
  · exact absurd c_29 (by decide)
  refine G_aload_n (i := 0) hk dX1_init_32 rfl rfl ?_
  refine G_get (k := 1) hk fX1_11 dX1_init_33 (by first | rfl | exact hE0) (by rfl) (by decide) ?_
  refine G_iload_n (i := 1) hk dX1_init_36 rfl rfl ?_
  refine G_new (ci := 3) (fs := [.int 0, .int 0, .int 0, .int 0, .int 0]) hk uX3 tyX3 tyX3_ok jlX1_9 jiX3 jnX3 rfl (by decide) dX1_init_37 (Nat.le_of_ble_eq_true rfl) (Nat.le_of_ble_eq_true rfl) (fun q4 => ?_)
  refine G_dup hk dX1_init_40 rfl ?_
  refine G_cIN (k := 5) hk (c_X3_init l V _ _ 6 5 (by decide) rfl) mX3_init vX3_init rfl (fun q => q.2.1) dX1_init_41 rfl ⟨(Nat.le_of_ble_eq_true rfl), (Nat.le_of_ble_eq_true rfl)⟩ ⟨(Nat.le_of_ble_eq_true rfl), (Nat.le_of_ble_eq_true rfl)⟩ rfl (Nat.le_of_ble_eq_true rfl) (fun ad5 Ec5 h5 => ?_)
  obtain ⟨rfl, rfl⟩ := h5
  refine G_aastRlX (k := 2) (k2 := 5) (j := 0) hk dX1_init_44 (by first | rfl | exact hE0) (by decide) (by decide) (by decide) (by decide) (by first | rfl | exact hE0) (by decide) ?_
  refine G_iinc (v := 1) hk dX1_init_45 rfl (by decide) (by decide) rfl ?_
  refine G_goto (tgt := 26) hk dX1_init_48 (by decide) ?_
  refine G_iload_n (i := 1) hk dX1_init_26 rfl rfl ?_
  refine G_bipush (v := 7) hk dX1_init_27 (by decide) ?_
  refine G_icmp_ge (tgt := 51) hk dX1_init_29 (by decide) (fun c_29 => ?_) (fun c_29 => ?_)
  · exact absurd c_29 (by decide)
  refine G_aload_n (i := 0) hk dX1_init_32 rfl rfl ?_
  refine G_get (k := 1) hk fX1_11 dX1_init_33 (by first | rfl | exact hE0) (by rfl) (by decide) ?_
  refine G_iload_n (i := 1) hk dX1_init_36 rfl rfl ?_
  refine G_new (ci := 3) (fs := [.int 0, .int 0, .int 0, .int 0, .int 0]) hk uX3 tyX3 tyX3_ok jlX1_9 jiX3 jnX3 rfl (by decide) dX1_init_37 (Nat.le_of_ble_eq_true rfl) (Nat.le_of_ble_eq_true rfl) (fun q6 => ?_)
  refine G_dup hk dX1_init_40 rfl ?_
  refine G_cIN (k := 6) hk (c_X3_init l V _ _ 7 6 (by decide) rfl) mX3_init vX3_init rfl (fun q => q.2.1) dX1_init_41 rfl ⟨(Nat.le_of_ble_eq_true rfl), (Nat.le_of_ble_eq_true rfl)⟩ ⟨(Nat.le_of_ble_eq_true rfl), (Nat.le_of_ble_eq_true rfl)⟩ rfl (Nat.le_of_ble_eq_true rfl) (fun ad7 Ec7 h7 => ?_)
  obtain ⟨rfl, rfl⟩ := h7
  refine G_aastRlX (k := 2) (k2 := 6) (j := 1) hk dX1_init_44 (by first | rfl | exact hE0) (by decide) (by decide) (by decide) (by decide) (by first | rfl | exact hE0) (by decide) ?_
  refine G_iinc (v := 2) hk dX1_init_45 rfl (by decide) (by decide) rfl ?_
  refine G_goto (tgt := 26) hk dX1_init_48 (by decide) ?_
  refine G_iload_n (i := 1) hk dX1_init_26 rfl rfl ?_
  refine G_bipush (v := 7) hk dX1_init_27 (by decide) ?_
  refine G_icmp_ge (tgt := 51) hk dX1_init_29 (by decide) (fun c_29 => ?_) (fun c_29 => ?_)
  · exact absurd c_29 (by decide)
  refine G_aload_n (i := 0) hk dX1_init_32 rfl rfl ?_
  refine G_get (k := 1) hk fX1_11 dX1_init_33 (by first | rfl | exact hE0) (by rfl) (by decide) ?_
  refine G_iload_n (i := 1) hk dX1_init_36 rfl rfl ?_
  refine G_new (ci := 3) (fs := [.int 0, .int 0, .int 0, .int 0, .int 0]) hk uX3 tyX3 tyX3_ok jlX1_9 jiX3 jnX3 rfl (by decide) dX1_init_37 (Nat.le_of_ble_eq_true rfl) (Nat.le_of_ble_eq_true rfl) (fun q8 => ?_)
  refine G_dup hk dX1_init_40 rfl ?_
  refine G_cIN (k := 7) hk (c_X3_init l V _ _ 8 7 (by decide) rfl) mX3_init vX3_init rfl (fun q => q.2.1) dX1_init_41 rfl ⟨(Nat.le_of_ble_eq_true rfl), (Nat.le_of_ble_eq_true rfl)⟩ ⟨(Nat.le_of_ble_eq_true rfl), (Nat.le_of_ble_eq_true rfl)⟩ rfl (Nat.le_of_ble_eq_true rfl) (fun ad9 Ec9 h9 => ?_)
  obtain ⟨rfl, rfl⟩ := h9
  refine G_aastRlX (k := 2) (k2 := 7) (j := 2) hk dX1_init_44 (by first | rfl | exact hE0) (by decide) (by decide) (by decide) (by decide) (by first | rfl | exact hE0) (by decide) ?_
  refine G_iinc (v := 3) hk dX1_init_45 rfl (by decide) (by decide) rfl ?_
  refine G_goto (tgt := 26) hk dX1_init_48 (by decide) ?_
  refine G_iload_n (i := 1) hk dX1_init_26 rfl rfl ?_
  refine G_bipush (v := 7) hk dX1_init_27 (by decide) ?_
  refine G_icmp_ge (tgt := 51) hk dX1_init_29 (by decide) (fun c_29 => ?_) (fun c_29 => ?_)
  · exact absurd c_29 (by decide)
  refine G_aload_n (i := 0) hk dX1_init_32 rfl rfl ?_
  refine G_get (k := 1) hk fX1_11 dX1_init_33 (by first | rfl | exact hE0) (by rfl) (by decide) ?_
  refine G_iload_n (i := 1) hk dX1_init_36 rfl rfl ?_
  refine G_new (ci := 3) (fs := [.int 0, .int 0, .int 0, .int 0, .int 0]) hk uX3 tyX3 tyX3_ok jlX1_9 jiX3 jnX3 rfl (by decide) dX1_init_37 (Nat.le_of_ble_eq_true rfl) (Nat.le_of_ble_eq_true rfl) (fun q10 => ?_)
  refine G_dup hk dX1_init_40 rfl ?_
  refine G_cIN (k := 8) hk (c_X3_init l V _ _ 9 8 (by decide) rfl) mX3_init vX3_init rfl (fun q => q.2.1) dX1_init_41 rfl ⟨(Nat.le_of_ble_eq_true rfl), (Nat.le_of_ble_eq_true rfl)⟩ ⟨(Nat.le_of_ble_eq_true rfl), (Nat.le_of_ble_eq_true rfl)⟩ rfl (Nat.le_of_ble_eq_true rfl) (fun ad11 Ec11 h11 => ?_)
  obtain ⟨rfl, rfl⟩ := h11
  refine G_aastRlX (k := 2) (k2 := 8) (j := 3) hk dX1_init_44 (by first | rfl | exact hE0) (by decide) (by decide) (by decide) (by decide) (by first | rfl | exact hE0) (by decide) ?_
  refine G_iinc (v := 4) hk dX1_init_45 rfl (by decide) (by decide) rfl ?_
  refine G_goto (tgt := 26) hk dX1_init_48 (by decide) ?_
  refine G_iload_n (i := 1) hk dX1_init_26 rfl rfl ?_
  refine G_bipush (v := 7) hk dX1_init_27 (by decide) ?_
  refine G_icmp_ge (tgt := 51) hk dX1_init_29 (by decide) (fun c_29 => ?_) (fun c_29 => ?_)
  · exact absurd c_29 (by decide)
  refine G_aload_n (i := 0) hk dX1_init_32 rfl rfl ?_
  refine G_get (k := 1) hk fX1_11 dX1_init_33 (by first | rfl | exact hE0) (by rfl) (by decide) ?_
  refine G_iload_n (i := 1) hk dX1_init_36 rfl rfl ?_
  refine G_new (ci := 3) (fs := [.int 0, .int 0, .int 0, .int 0, .int 0]) hk uX3 tyX3 tyX3_ok jlX1_9 jiX3 jnX3 rfl (by decide) dX1_init_37 (Nat.le_of_ble_eq_true rfl) (Nat.le_of_ble_eq_true rfl) (fun q12 => ?_)
  refine G_dup hk dX1_init_40 rfl ?_
  refine G_cIN (k := 9) hk (c_X3_init l V _ _ 10 9 (by decide) rfl) mX3_init vX3_init rfl (fun q => q.2.1) dX1_init_41 rfl ⟨(Nat.le_of_ble_eq_true rfl), (Nat.le_of_ble_eq_true rfl)⟩ ⟨(Nat.le_of_ble_eq_true rfl), (Nat.le_of_ble_eq_true rfl)⟩ rfl (Nat.le_of_ble_eq_true rfl) (fun ad13 Ec13 h13 => ?_)
  obtain ⟨rfl, rfl⟩ := h13
  refine G_aastRlX (k := 2) (k2 := 9) (j := 4) hk dX1_init_44 (by first | rfl | exact hE0) (by decide) (by decide) (by decide) (by decide) (by first | rfl | exact hE0) (by decide) ?_
  refine G_iinc (v := 5) hk dX1_init_45 rfl (by decide) (by decide) rfl ?_
  refine G_goto (tgt := 26) hk dX1_init_48 (by decide) ?_
  refine G_iload_n (i := 1) hk dX1_init_26 rfl rfl ?_
  refine G_bipush (v := 7) hk dX1_init_27 (by decide) ?_
  refine G_icmp_ge (tgt := 51) hk dX1_init_29 (by decide) (fun c_29 => ?_) (fun c_29 => ?_)
  · exact absurd c_29 (by decide)
  refine G_aload_n (i := 0) hk dX1_init_32 rfl rfl ?_
  refine G_get (k := 1) hk fX1_11 dX1_init_33 (by first | rfl | exact hE0) (by rfl) (by decide) ?_
  refine G_iload_n (i := 1) hk dX1_init_36 rfl rfl ?_
  refine G_new (ci := 3) (fs := [.int 0, .int 0, .int 0, .int 0, .int 0]) hk uX3 tyX3 tyX3_ok jlX1_9 jiX3 jnX3 rfl (by decide) dX1_init_37 (Nat.le_of_ble_eq_true rfl) (Nat.le_of_ble_eq_true rfl) (fun q14 => ?_)
  refine G_dup hk dX1_init_40 rfl ?_
  refine G_cIN (k := 10) hk (c_X3_init l V _ _ 11 10 (by decide) rfl) mX3_init vX3_init rfl (fun q => q.2.1) dX1_init_41 rfl ⟨(Nat.le_of_ble_eq_true rfl), (Nat.le_of_ble_eq_true rfl)⟩ ⟨(Nat.le_of_ble_eq_true rfl), (Nat.le_of_ble_eq_true rfl)⟩ rfl (Nat.le_of_ble_eq_true rfl) (fun ad15 Ec15 h15 => ?_)
  obtain ⟨rfl, rfl⟩ := h15
  refine G_aastRlX (k := 2) (k2 := 10) (j := 5) hk dX1_init_44 (by first | rfl | exact hE0) (by decide) (by decide) (by decide) (by decide) (by first | rfl | exact hE0) (by decide) ?_
  refine G_iinc (v := 6) hk dX1_init_45 rfl (by decide) (by decide) rfl ?_
  refine G_goto (tgt := 26) hk dX1_init_48 (by decide) ?_
  refine G_iload_n (i := 1) hk dX1_init_26 rfl rfl ?_
  refine G_bipush (v := 7) hk dX1_init_27 (by decide) ?_
  refine G_icmp_ge (tgt := 51) hk dX1_init_29 (by decide) (fun c_29 => ?_) (fun c_29 => ?_)
  · exact absurd c_29 (by decide)
  refine G_aload_n (i := 0) hk dX1_init_32 rfl rfl ?_
  refine G_get (k := 1) hk fX1_11 dX1_init_33 (by first | rfl | exact hE0) (by rfl) (by decide) ?_
  refine G_iload_n (i := 1) hk dX1_init_36 rfl rfl ?_
  refine G_new (ci := 3) (fs := [.int 0, .int 0, .int 0, .int 0, .int 0]) hk uX3 tyX3 tyX3_ok jlX1_9 jiX3 jnX3 rfl (by decide) dX1_init_37 (Nat.le_of_ble_eq_true rfl) (Nat.le_of_ble_eq_true rfl) (fun q16 => ?_)
  refine G_dup hk dX1_init_40 rfl ?_
  refine G_cIN (k := 11) hk (c_X3_init l V _ _ 12 11 (by decide) rfl) mX3_init vX3_init rfl (fun q => q.2.1) dX1_init_41 rfl ⟨(Nat.le_of_ble_eq_true rfl), (Nat.le_of_ble_eq_true rfl)⟩ ⟨(Nat.le_of_ble_eq_true rfl), (Nat.le_of_ble_eq_true rfl)⟩ rfl (Nat.le_of_ble_eq_true rfl) (fun ad17 Ec17 h17 => ?_)
  obtain ⟨rfl, rfl⟩ := h17
  refine G_aastRlX (k := 2) (k2 := 11) (j := 6) hk dX1_init_44 (by first | rfl | exact hE0) (by decide) (by decide) (by decide) (by decide) (by first | rfl | exact hE0) (by decide) ?_
  refine G_iinc (v := 7) hk dX1_init_45 rfl (by decide) (by decide) rfl ?_
  refine G_goto (tgt := 26) hk dX1_init_48 (by decide) ?_
  refine G_iload_n (i := 1) hk dX1_init_26 rfl rfl ?_
  refine G_bipush (v := 7) hk dX1_init_27 (by decide) ?_
  refine G_icmp_ge (tgt := 51) hk dX1_init_29 (by decide) (fun c_29 => ?_) (fun c_29 => ?_)
  rotate_left
  · exact absurd (by decide) c_29
  refine G_nret hk dX1_init_51 ⟨fun k hk => ?_, fun k hk => ?_, rfl, ⟨_, rfl, fun i hi => ?_⟩, rfl, rfl, fun i hi => ?_⟩
  · simp only [va_up]
    repeat rw [if_neg (by omega)]
  · simp only [va_up]
    repeat rw [if_neg (by omega)]
  · rcases (show i = 0 ∨ i = 1 ∨ i = 2 ∨ i = 3 ∨ i = 4 ∨ i = 5 ∨ i = 6 by omega) with rfl | rfl | rfl | rfl | rfl | rfl | rfl <;> rfl
  · rcases (show i = 0 ∨ i = 1 ∨ i = 2 ∨ i = 3 ∨ i = 4 ∨ i = 5 ∨ i = 6 by omega) with rfl | rfl | rfl | rfl | rfl | rfl | rfl <;> rfl

set_option maxHeartbeats 4000000 in
set_option maxRecDepth 100000 in
theorem c_X1_init_12 (l : Launch) (V : gV) (ad : Nat → Nat) (E : Nat → va_E) (hE0 : E 12 = .inr (1, [.null, .null, .int 0])) : Ct l V ad 13 23 yX1_init cX1_init 2 none { frames := 2, cells := 10, slots := 53, locals := 44 } [.ref (ad 12)] E (pN (fun ad2 E2 => (∀ k, k < 13 → ad2 k = ad k) ∧ (∀ k, k < 12 → E2 k = E k) ∧ bk0 V ad2 E2 12)) := by
  refine gCt mX1_init (Nat.le_of_ble_eq_true rfl) ?_
  intro K hk
  refine G_aload_n (i := 0) hk dX1_init_0 rfl rfl ?_
  refine G_objI hk kX1_3 dX1_init_1 (Nat.le_of_ble_eq_true rfl) (Nat.le_of_ble_eq_true rfl) ?_
  refine G_aload_n (i := 0) hk dX1_init_4 rfl rfl ?_
  refine G_bipush (v := 7) hk dX1_init_5 (by decide) ?_
  refine G_newRl (M := 7) hk jlX1_9 dX1_init_7 (by decide) (by decide) (by decide) (Nat.le_of_ble_eq_true rfl) (Nat.le_of_ble_eq_true rfl) (fun q1 => ?_)
  refine G_putF (k := 12) hk rfl fX1_11 nX1_0 dX1_init_10 (by first | rfl | exact hE0) rfl rfl rfl (Nat.le_of_ble_eq_true rfl) (by decide) ?_
  refine G_aload_n (i := 0) hk dX1_init_13 rfl rfl ?_
  refine G_new (ci := 0) (fs := [.null, .int 0, .int 0]) hk uX0 tyX0 tyX0_ok jlX1_17 jiX0 jnX0 rfl (by decide) dX1_init_14 (Nat.le_of_ble_eq_true rfl) (Nat.le_of_ble_eq_true rfl) (fun q2 => ?_)
  refine G_dup hk dX1_init_17 rfl ?_
  refine G_cIN (k := 14) hk (c_X0_init l V _ _ 14 (by first | rfl | exact hE0)) mX0_init vX0_init rfl (fun q => q.1) dX1_init_18 rfl ⟨(Nat.le_of_ble_eq_true rfl), (Nat.le_of_ble_eq_true rfl)⟩ ⟨(Nat.le_of_ble_eq_true rfl), (Nat.le_of_ble_eq_true rfl)⟩ rfl (Nat.le_of_ble_eq_true rfl) (fun ad3 Ec3 h3 => ?_)
  obtain ⟨p3, rfl, rfl⟩ := h3
  refine G_putF (k := 12) hk rfl fX1_20 nX1_1 dX1_init_21 (by first | rfl | exact hE0) rfl rfl rfl (Nat.le_of_ble_eq_true rfl) (by decide) ?_
  refine G_iconst (v := 0) hk dX1_init_24 (by decide) ?_
  refine G_istore_n (i := 1) hk dX1_init_25 rfl (by decide) rfl ?_
  refine G_iload_n (i := 1) hk dX1_init_26 rfl rfl ?_
  refine G_bipush (v := 7) hk dX1_init_27 (by decide) ?_
  refine G_icmp_ge (tgt := 51) hk dX1_init_29 (by decide) (fun c_29 => ?_) (fun c_29 => ?_)
  · exact absurd c_29 (by decide)
  refine G_aload_n (i := 0) hk dX1_init_32 rfl rfl ?_
  refine G_get (k := 12) hk fX1_11 dX1_init_33 (by first | rfl | exact hE0) (by rfl) (by decide) ?_
  refine G_iload_n (i := 1) hk dX1_init_36 rfl rfl ?_
  refine G_new (ci := 3) (fs := [.int 0, .int 0, .int 0, .int 0, .int 0]) hk uX3 tyX3 tyX3_ok jlX1_9 jiX3 jnX3 rfl (by decide) dX1_init_37 (Nat.le_of_ble_eq_true rfl) (Nat.le_of_ble_eq_true rfl) (fun q4 => ?_)
  refine G_dup hk dX1_init_40 rfl ?_
  refine G_cIN (k := 16) hk (c_X3_init l V _ _ 17 16 (by decide) rfl) mX3_init vX3_init rfl (fun q => q.2.1) dX1_init_41 rfl ⟨(Nat.le_of_ble_eq_true rfl), (Nat.le_of_ble_eq_true rfl)⟩ ⟨(Nat.le_of_ble_eq_true rfl), (Nat.le_of_ble_eq_true rfl)⟩ rfl (Nat.le_of_ble_eq_true rfl) (fun ad5 Ec5 h5 => ?_)
  obtain ⟨rfl, rfl⟩ := h5
  refine G_aastRlX (k := 13) (k2 := 16) (j := 0) hk dX1_init_44 (by first | rfl | exact hE0) (by decide) (by decide) (by decide) (by decide) (by first | rfl | exact hE0) (by decide) ?_
  refine G_iinc (v := 1) hk dX1_init_45 rfl (by decide) (by decide) rfl ?_
  refine G_goto (tgt := 26) hk dX1_init_48 (by decide) ?_
  refine G_iload_n (i := 1) hk dX1_init_26 rfl rfl ?_
  refine G_bipush (v := 7) hk dX1_init_27 (by decide) ?_
  refine G_icmp_ge (tgt := 51) hk dX1_init_29 (by decide) (fun c_29 => ?_) (fun c_29 => ?_)
  · exact absurd c_29 (by decide)
  refine G_aload_n (i := 0) hk dX1_init_32 rfl rfl ?_
  refine G_get (k := 12) hk fX1_11 dX1_init_33 (by first | rfl | exact hE0) (by rfl) (by decide) ?_
  refine G_iload_n (i := 1) hk dX1_init_36 rfl rfl ?_
  refine G_new (ci := 3) (fs := [.int 0, .int 0, .int 0, .int 0, .int 0]) hk uX3 tyX3 tyX3_ok jlX1_9 jiX3 jnX3 rfl (by decide) dX1_init_37 (Nat.le_of_ble_eq_true rfl) (Nat.le_of_ble_eq_true rfl) (fun q6 => ?_)
  refine G_dup hk dX1_init_40 rfl ?_
  refine G_cIN (k := 17) hk (c_X3_init l V _ _ 18 17 (by decide) rfl) mX3_init vX3_init rfl (fun q => q.2.1) dX1_init_41 rfl ⟨(Nat.le_of_ble_eq_true rfl), (Nat.le_of_ble_eq_true rfl)⟩ ⟨(Nat.le_of_ble_eq_true rfl), (Nat.le_of_ble_eq_true rfl)⟩ rfl (Nat.le_of_ble_eq_true rfl) (fun ad7 Ec7 h7 => ?_)
  obtain ⟨rfl, rfl⟩ := h7
  refine G_aastRlX (k := 13) (k2 := 17) (j := 1) hk dX1_init_44 (by first | rfl | exact hE0) (by decide) (by decide) (by decide) (by decide) (by first | rfl | exact hE0) (by decide) ?_
  refine G_iinc (v := 2) hk dX1_init_45 rfl (by decide) (by decide) rfl ?_
  refine G_goto (tgt := 26) hk dX1_init_48 (by decide) ?_
  refine G_iload_n (i := 1) hk dX1_init_26 rfl rfl ?_
  refine G_bipush (v := 7) hk dX1_init_27 (by decide) ?_
  refine G_icmp_ge (tgt := 51) hk dX1_init_29 (by decide) (fun c_29 => ?_) (fun c_29 => ?_)
  · exact absurd c_29 (by decide)
  refine G_aload_n (i := 0) hk dX1_init_32 rfl rfl ?_
  refine G_get (k := 12) hk fX1_11 dX1_init_33 (by first | rfl | exact hE0) (by rfl) (by decide) ?_
  refine G_iload_n (i := 1) hk dX1_init_36 rfl rfl ?_
  refine G_new (ci := 3) (fs := [.int 0, .int 0, .int 0, .int 0, .int 0]) hk uX3 tyX3 tyX3_ok jlX1_9 jiX3 jnX3 rfl (by decide) dX1_init_37 (Nat.le_of_ble_eq_true rfl) (Nat.le_of_ble_eq_true rfl) (fun q8 => ?_)
  refine G_dup hk dX1_init_40 rfl ?_
  refine G_cIN (k := 18) hk (c_X3_init l V _ _ 19 18 (by decide) rfl) mX3_init vX3_init rfl (fun q => q.2.1) dX1_init_41 rfl ⟨(Nat.le_of_ble_eq_true rfl), (Nat.le_of_ble_eq_true rfl)⟩ ⟨(Nat.le_of_ble_eq_true rfl), (Nat.le_of_ble_eq_true rfl)⟩ rfl (Nat.le_of_ble_eq_true rfl) (fun ad9 Ec9 h9 => ?_)
  obtain ⟨rfl, rfl⟩ := h9
  refine G_aastRlX (k := 13) (k2 := 18) (j := 2) hk dX1_init_44 (by first | rfl | exact hE0) (by decide) (by decide) (by decide) (by decide) (by first | rfl | exact hE0) (by decide) ?_
  refine G_iinc (v := 3) hk dX1_init_45 rfl (by decide) (by decide) rfl ?_
  refine G_goto (tgt := 26) hk dX1_init_48 (by decide) ?_
  refine G_iload_n (i := 1) hk dX1_init_26 rfl rfl ?_
  refine G_bipush (v := 7) hk dX1_init_27 (by decide) ?_
  refine G_icmp_ge (tgt := 51) hk dX1_init_29 (by decide) (fun c_29 => ?_) (fun c_29 => ?_)
  · exact absurd c_29 (by decide)
  refine G_aload_n (i := 0) hk dX1_init_32 rfl rfl ?_
  refine G_get (k := 12) hk fX1_11 dX1_init_33 (by first | rfl | exact hE0) (by rfl) (by decide) ?_
  refine G_iload_n (i := 1) hk dX1_init_36 rfl rfl ?_
  refine G_new (ci := 3) (fs := [.int 0, .int 0, .int 0, .int 0, .int 0]) hk uX3 tyX3 tyX3_ok jlX1_9 jiX3 jnX3 rfl (by decide) dX1_init_37 (Nat.le_of_ble_eq_true rfl) (Nat.le_of_ble_eq_true rfl) (fun q10 => ?_)
  refine G_dup hk dX1_init_40 rfl ?_
  refine G_cIN (k := 19) hk (c_X3_init l V _ _ 20 19 (by decide) rfl) mX3_init vX3_init rfl (fun q => q.2.1) dX1_init_41 rfl ⟨(Nat.le_of_ble_eq_true rfl), (Nat.le_of_ble_eq_true rfl)⟩ ⟨(Nat.le_of_ble_eq_true rfl), (Nat.le_of_ble_eq_true rfl)⟩ rfl (Nat.le_of_ble_eq_true rfl) (fun ad11 Ec11 h11 => ?_)
  obtain ⟨rfl, rfl⟩ := h11
  refine G_aastRlX (k := 13) (k2 := 19) (j := 3) hk dX1_init_44 (by first | rfl | exact hE0) (by decide) (by decide) (by decide) (by decide) (by first | rfl | exact hE0) (by decide) ?_
  refine G_iinc (v := 4) hk dX1_init_45 rfl (by decide) (by decide) rfl ?_
  refine G_goto (tgt := 26) hk dX1_init_48 (by decide) ?_
  refine G_iload_n (i := 1) hk dX1_init_26 rfl rfl ?_
  refine G_bipush (v := 7) hk dX1_init_27 (by decide) ?_
  refine G_icmp_ge (tgt := 51) hk dX1_init_29 (by decide) (fun c_29 => ?_) (fun c_29 => ?_)
  · exact absurd c_29 (by decide)
  refine G_aload_n (i := 0) hk dX1_init_32 rfl rfl ?_
  refine G_get (k := 12) hk fX1_11 dX1_init_33 (by first | rfl | exact hE0) (by rfl) (by decide) ?_
  refine G_iload_n (i := 1) hk dX1_init_36 rfl rfl ?_
  refine G_new (ci := 3) (fs := [.int 0, .int 0, .int 0, .int 0, .int 0]) hk uX3 tyX3 tyX3_ok jlX1_9 jiX3 jnX3 rfl (by decide) dX1_init_37 (Nat.le_of_ble_eq_true rfl) (Nat.le_of_ble_eq_true rfl) (fun q12 => ?_)
  refine G_dup hk dX1_init_40 rfl ?_
  refine G_cIN (k := 20) hk (c_X3_init l V _ _ 21 20 (by decide) rfl) mX3_init vX3_init rfl (fun q => q.2.1) dX1_init_41 rfl ⟨(Nat.le_of_ble_eq_true rfl), (Nat.le_of_ble_eq_true rfl)⟩ ⟨(Nat.le_of_ble_eq_true rfl), (Nat.le_of_ble_eq_true rfl)⟩ rfl (Nat.le_of_ble_eq_true rfl) (fun ad13 Ec13 h13 => ?_)
  obtain ⟨rfl, rfl⟩ := h13
  refine G_aastRlX (k := 13) (k2 := 20) (j := 4) hk dX1_init_44 (by first | rfl | exact hE0) (by decide) (by decide) (by decide) (by decide) (by first | rfl | exact hE0) (by decide) ?_
  refine G_iinc (v := 5) hk dX1_init_45 rfl (by decide) (by decide) rfl ?_
  refine G_goto (tgt := 26) hk dX1_init_48 (by decide) ?_
  refine G_iload_n (i := 1) hk dX1_init_26 rfl rfl ?_
  refine G_bipush (v := 7) hk dX1_init_27 (by decide) ?_
  refine G_icmp_ge (tgt := 51) hk dX1_init_29 (by decide) (fun c_29 => ?_) (fun c_29 => ?_)
  · exact absurd c_29 (by decide)
  refine G_aload_n (i := 0) hk dX1_init_32 rfl rfl ?_
  refine G_get (k := 12) hk fX1_11 dX1_init_33 (by first | rfl | exact hE0) (by rfl) (by decide) ?_
  refine G_iload_n (i := 1) hk dX1_init_36 rfl rfl ?_
  refine G_new (ci := 3) (fs := [.int 0, .int 0, .int 0, .int 0, .int 0]) hk uX3 tyX3 tyX3_ok jlX1_9 jiX3 jnX3 rfl (by decide) dX1_init_37 (Nat.le_of_ble_eq_true rfl) (Nat.le_of_ble_eq_true rfl) (fun q14 => ?_)
  refine G_dup hk dX1_init_40 rfl ?_
  refine G_cIN (k := 21) hk (c_X3_init l V _ _ 22 21 (by decide) rfl) mX3_init vX3_init rfl (fun q => q.2.1) dX1_init_41 rfl ⟨(Nat.le_of_ble_eq_true rfl), (Nat.le_of_ble_eq_true rfl)⟩ ⟨(Nat.le_of_ble_eq_true rfl), (Nat.le_of_ble_eq_true rfl)⟩ rfl (Nat.le_of_ble_eq_true rfl) (fun ad15 Ec15 h15 => ?_)
  obtain ⟨rfl, rfl⟩ := h15
  refine G_aastRlX (k := 13) (k2 := 21) (j := 5) hk dX1_init_44 (by first | rfl | exact hE0) (by decide) (by decide) (by decide) (by decide) (by first | rfl | exact hE0) (by decide) ?_
  refine G_iinc (v := 6) hk dX1_init_45 rfl (by decide) (by decide) rfl ?_
  refine G_goto (tgt := 26) hk dX1_init_48 (by decide) ?_
  refine G_iload_n (i := 1) hk dX1_init_26 rfl rfl ?_
  refine G_bipush (v := 7) hk dX1_init_27 (by decide) ?_
  refine G_icmp_ge (tgt := 51) hk dX1_init_29 (by decide) (fun c_29 => ?_) (fun c_29 => ?_)
  · exact absurd c_29 (by decide)
  refine G_aload_n (i := 0) hk dX1_init_32 rfl rfl ?_
  refine G_get (k := 12) hk fX1_11 dX1_init_33 (by first | rfl | exact hE0) (by rfl) (by decide) ?_
  refine G_iload_n (i := 1) hk dX1_init_36 rfl rfl ?_
  refine G_new (ci := 3) (fs := [.int 0, .int 0, .int 0, .int 0, .int 0]) hk uX3 tyX3 tyX3_ok jlX1_9 jiX3 jnX3 rfl (by decide) dX1_init_37 (Nat.le_of_ble_eq_true rfl) (Nat.le_of_ble_eq_true rfl) (fun q16 => ?_)
  refine G_dup hk dX1_init_40 rfl ?_
  refine G_cIN (k := 22) hk (c_X3_init l V _ _ 23 22 (by decide) rfl) mX3_init vX3_init rfl (fun q => q.2.1) dX1_init_41 rfl ⟨(Nat.le_of_ble_eq_true rfl), (Nat.le_of_ble_eq_true rfl)⟩ ⟨(Nat.le_of_ble_eq_true rfl), (Nat.le_of_ble_eq_true rfl)⟩ rfl (Nat.le_of_ble_eq_true rfl) (fun ad17 Ec17 h17 => ?_)
  obtain ⟨rfl, rfl⟩ := h17
  refine G_aastRlX (k := 13) (k2 := 22) (j := 6) hk dX1_init_44 (by first | rfl | exact hE0) (by decide) (by decide) (by decide) (by decide) (by first | rfl | exact hE0) (by decide) ?_
  refine G_iinc (v := 7) hk dX1_init_45 rfl (by decide) (by decide) rfl ?_
  refine G_goto (tgt := 26) hk dX1_init_48 (by decide) ?_
  refine G_iload_n (i := 1) hk dX1_init_26 rfl rfl ?_
  refine G_bipush (v := 7) hk dX1_init_27 (by decide) ?_
  refine G_icmp_ge (tgt := 51) hk dX1_init_29 (by decide) (fun c_29 => ?_) (fun c_29 => ?_)
  rotate_left
  · exact absurd (by decide) c_29
  refine G_nret hk dX1_init_51 ⟨fun k hk => ?_, fun k hk => ?_, rfl, ⟨_, rfl, fun i hi => ?_⟩, rfl, rfl, fun i hi => ?_⟩
  · simp only [va_up]
    repeat rw [if_neg (by omega)]
  · simp only [va_up]
    repeat rw [if_neg (by omega)]
  · rcases (show i = 0 ∨ i = 1 ∨ i = 2 ∨ i = 3 ∨ i = 4 ∨ i = 5 ∨ i = 6 by omega) with rfl | rfl | rfl | rfl | rfl | rfl | rfl <;> rfl
  · rcases (show i = 0 ∨ i = 1 ∨ i = 2 ∨ i = 3 ∨ i = 4 ∨ i = 5 ∨ i = 6 by omega) with rfl | rfl | rfl | rfl | rfl | rfl | rfl <;> rfl
