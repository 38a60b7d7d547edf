theorem sIsA_iff {a s : Int32} : sIsA a s = true ↔ (if s = 20 then (0 ≤ a ∧ a ≤ 5) else if 10 ≤ s ∧ s ≤ 16 then a = 0 else ((0 ≤ s ∧ s ≤ 6) ∧ (1 ≤ a ∧ a ≤ 9))) := by
  by_cases h1 : s = 20
  · rw [if_pos h1]
    unfold sIsA
    rw [h1, if_neg (by decide), if_neg (by decide), decide_eq_true_iff]
    exact ⟨fun z => z.2, fun z => ⟨rfl, z⟩⟩
  · rw [if_neg h1]
    by_cases h2 : 10 ≤ s ∧ s ≤ 16
    · rw [if_pos h2]
      unfold sIsA
      rw [if_neg (fun z => absurd (Int32.le_trans h2.1 z.2) (by decide)), if_pos h2, decide_eq_true_iff]
    · rw [if_neg h2]
      unfold sIsA
      by_cases h3 : 0 ≤ s ∧ s ≤ 6
      · rw [if_pos h3, decide_eq_true_iff]
        exact ⟨fun z => ⟨h3, z⟩, fun z => z.2⟩
      · rw [if_neg h3, if_neg h2, decide_eq_true_iff]
        exact ⟨fun z => absurd z.1 h1, fun z => absurd z.1 h3⟩
theorem sIsA_c {a s : Int32} (h : sIsA a s = true) : (∃ t : Nat, t ≤ 6 ∧ s = nI t ∧ (1 ≤ a ∧ a ≤ 9)) ∨ (∃ t : Nat, t ≤ 6 ∧ s = nI (10 + t)) ∨ (s = 20 ∧ ∃ t : Nat, t ≤ 5 ∧ a = nI t) := by
  rw [sIsA_iff] at h
  by_cases h1 : s = 20
  · rw [if_pos h1] at h
    exact Or.inr (Or.inr ⟨h1, gIe (n := 5) h.1 h.2 (by omega)⟩)
  · rw [if_neg h1] at h
    by_cases h2 : 10 ≤ s ∧ s ≤ 16
    · obtain ⟨j, hj, rfl⟩ := gIe (n := 16) (Int32.le_trans (by decide) h2.1) h2.2 (by omega)
      have := (nle (a := 10) (by omega) (by omega)).mp h2.1
      exact Or.inr (Or.inl ⟨j - 10, by omega, by congr 1; omega⟩)
    · rw [if_neg h2] at h
      obtain ⟨j, hj, rfl⟩ := gIe (n := 6) h.1.1 h.1.2 (by omega)
      exact Or.inl ⟨j, hj, rfl, h.2⟩
theorem sPlay_some {c : Nat → Int32} {k p n n2 : Nat} {R R2 : Nat → Nat → Int32} (h : sAct n R (c (2 * p)) (c (2 * p + 1)) = some (n2, R2)) : sPlay c (k + 1) p n R = sPlay c k (p + 1) n2 R2 := by simp only [sPlay, h]
theorem sPlay_none {c : Nat → Int32} {k p n : Nat} {R : Nat → Nat → Int32} (h : sAct n R (c (2 * p)) (c (2 * p + 1)) = none) : sPlay c (k + 1) p n R = (nI p, n, R) := by simp only [sPlay, h]
def dOk (n : Nat) (R : Nat → Nat → Int32) : Prop := 1 ≤ n ∧ n ≤ 7 ∧ sOk n R
theorem sSwap_ok {n r : Nat} {R : Nat → Nat → Int32} (h : sOk n R) (hr : r + 1 < n) : sOk n (sSwap R r) := by
  intro i hi
  unfold sSwap
  split
  · exact h _ (by omega)
  · split
    · exact h _ (by omega)
    · exact h i hi
theorem sDel_ok {n r : Nat} {R : Nat → Nat → Int32} (h : sOk n R) : sOk (n - 1) (sDel R r) := by
  intro i hi
  unfold sDel
  split
  · exact h _ (by omega)
  · exact h _ (by omega)
theorem sNum_ok {q : Nat → Int32} {v : Int32} (h : rOk q) (hv : 1 ≤ v ∧ v ≤ 9) : rOk (sNum q v) := by
  unfold rOk sNum at *
  exact ⟨h.1, h.2.1, hv⟩
theorem sNumAt_ok {n j : Nat} {v : Int32} {R : Nat → Nat → Int32} (h : sOk n R) (hv : 1 ≤ v ∧ v ≤ 9) : sOk n (sNumAt R j v) := by
  intro i hi
  unfold sNumAt
  split
  · exact sNum_ok (h i hi) hv
  · exact h i hi
theorem sSwap_cw {n r : Nat} {R R' : Nat → Nat → Int32} (h : ∀ i, i < n → ∀ j, j < 5 → R i j = R' i j) (hr : r + 1 < n) : ∀ i, i < n → ∀ j, j < 5 → sSwap R r i j = sSwap R' r i j := by
  intro i hi j hj
  unfold sSwap
  split
  · exact h _ (by omega) j hj
  · split
    · exact h _ (by omega) j hj
    · exact h i hi j hj
theorem sDel_cw {n r : Nat} {R R' : Nat → Nat → Int32} (h : ∀ i, i < n → ∀ j, j < 5 → R i j = R' i j) : ∀ i, i < n - 1 → ∀ j, j < 5 → sDel R r i j = sDel R' r i j := by
  intro i hi j hj
  unfold sDel
  split
  · exact h _ (by omega) j hj
  · exact h _ (by omega) j hj
theorem fa_cnt_zero {p : Nat → Bool} : ∀ m, (∀ q, q < m → p q = false) → fa_cnt p m = 0
  | 0, _ => rfl
  | m + 1, h => by rw [fa_cnt_no (h m (by omega)), fa_cnt_zero m (fun q hq => h q (by omega))]
theorem sAllA_t {c : Nat → Int32} {m : Nat} (h : ∀ p, p < m → sIsA (c (2 * p)) (c (2 * p + 1)) = true) : sAllA c m = true := by
  unfold sAllA
  rw [decide_eq_true_iff]
  refine fa_cnt_zero m (fun q hq => ?_)
  unfold sNoA
  rw [h q hq]
  rfl
theorem sAllA_f {c : Nat → Int32} {m p : Nat} (hp : p < m) (h : ¬ sIsA (c (2 * p)) (c (2 * p + 1)) = true) : sAllA c m = false := by
  unfold sAllA
  rw [decide_eq_false_iff_not]
  have a := fa_cnt_mono (sNoA c) (a := p + 1) (b := m) hp
  have b := fa_cnt_yes (p := sNoA c) (n := p) (by unfold sNoA; rw [Bool.not_eq_true] at h; rw [h]; rfl)
  omega
theorem nI_2 (p : Nat) : (2 : Int32) * nI p = nI (2 * p) := pk_mul 2 p

set_option maxHeartbeats 4000000 in
set_option maxRecDepth 100000 in
theorem c_X6_isPair (l : Launch) (V : gV) (ad : Nat → Nat) (E : Nat → va_E) (a s : Int32) : Ct l V ad 44 44 yX6_isPair cX6_isPair 2 (some .boolean) { frames := 1, cells := 0, slots := 0, locals := 22 } [.int a, .int s] E (pI ad (pS E (gB (sIsA a s = true)))) := by
  refine gCt mX6_isPair (Nat.le_of_ble_eq_true rfl) ?_
  intro K hk
  refine G_iload_n (i := 1) hk dX6_isPair_0 rfl rfl ?_
  refine G_bipush (v := 20) hk dX6_isPair_1 (by decide) ?_
  refine G_icmp_ne (tgt := 15) hk dX6_isPair_3 (by decide) (fun c_3 => ?_) (fun c_3 => ?_)
  · try simp only [gB_ne, gB_eq, Decidable.not_not] at c_3
    refine G_iload_n (i := 1) hk dX6_isPair_15 rfl rfl ?_
    refine G_bipush (v := 10) hk dX6_isPair_16 (by decide) ?_
    refine G_bipush (v := 16) hk dX6_isPair_18 (by decide) ?_
    refine G_cSi hk (c_X6_within l V ad E s 10 16) mX6_within sX6_within kX6_43 dX6_isPair_20 rfl (by decide) (by decide) rfl (Nat.le_of_ble_eq_true rfl) (fun r_20 E_20 h_20 => ?_)
    obtain ⟨rfl, rfl⟩ := h_20
    refine G_if_eq (tgt := 38) hk dX6_isPair_23 (by decide) (fun c_23 => ?_) (fun c_23 => ?_)
    · try simp only [gB_ne, gB_eq, Decidable.not_not] at c_23
      refine G_iload_n (i := 1) hk dX6_isPair_38 rfl rfl ?_
      refine G_iconst (v := 0) hk dX6_isPair_39 (by decide) ?_
      refine G_bipush (v := 6) hk dX6_isPair_40 (by decide) ?_
      refine G_cSi hk (c_X6_within l V ad E s 0 6) mX6_within sX6_within kX6_43 dX6_isPair_42 rfl (by decide) (by decide) rfl (Nat.le_of_ble_eq_true rfl) (fun r_42 E_42 h_42 => ?_)
      obtain ⟨rfl, rfl⟩ := h_42
      refine G_if_eq (tgt := 62) hk dX6_isPair_45 (by decide) (fun c_45 => ?_) (fun c_45 => ?_)
      · try simp only [gB_ne, gB_eq, Decidable.not_not] at c_45
        refine G_iconst (v := 0) hk dX6_isPair_62 (by decide) ?_
        refine G_zret hk dX6_isPair_63 (by first | rfl | exact gB_nar _) ?_
        exact ⟨rfl, (gB_f (fun z => c_45 (by rw [sIsA_iff, if_neg c_3, if_neg c_23] at z; exact z.1))).symm⟩
      · try simp only [gB_ne, gB_eq, Decidable.not_not] at c_45
        refine G_iload_n (i := 0) hk dX6_isPair_48 rfl rfl ?_
        refine G_iconst (v := 1) hk dX6_isPair_49 (by decide) ?_
        refine G_bipush (v := 9) hk dX6_isPair_50 (by decide) ?_
        refine G_cSi hk (c_X6_within l V ad E a 1 9) mX6_within sX6_within kX6_43 dX6_isPair_52 rfl (by decide) (by decide) rfl (Nat.le_of_ble_eq_true rfl) (fun r_52 E_52 h_52 => ?_)
        obtain ⟨rfl, rfl⟩ := h_52
        refine G_if_eq (tgt := 62) hk dX6_isPair_55 (by decide) (fun c_55 => ?_) (fun c_55 => ?_)
        · try simp only [gB_ne, gB_eq, Decidable.not_not] at c_55
          refine G_iconst (v := 0) hk dX6_isPair_62 (by decide) ?_
          refine G_zret hk dX6_isPair_63 (by first | rfl | exact gB_nar _) ?_
          exact ⟨rfl, (gB_f (fun z => c_55 (by rw [sIsA_iff, if_neg c_3, if_neg c_23] at z; exact z.2))).symm⟩
        · try simp only [gB_ne, gB_eq, Decidable.not_not] at c_55
          refine G_iconst (v := 1) hk dX6_isPair_58 (by decide) ?_
          refine G_goto (tgt := 63) hk dX6_isPair_59 (by decide) ?_
          refine G_zret hk dX6_isPair_63 (by first | rfl | exact gB_nar _) ?_
          exact ⟨rfl, (gB_t (by rw [sIsA_iff, if_neg c_3, if_neg c_23]; exact ⟨c_45, c_55⟩)).symm⟩
    · try simp only [gB_ne, gB_eq, Decidable.not_not] at c_23
      refine G_iload_n (i := 0) hk dX6_isPair_26 rfl rfl ?_
      refine G_if_ne (tgt := 34) hk dX6_isPair_27 (by decide) (fun c_27 => ?_) (fun c_27 => ?_)
      · try simp only [gB_ne, gB_eq, Decidable.not_not] at c_27
        refine G_iconst (v := 0) hk dX6_isPair_34 (by decide) ?_
        refine G_goto (tgt := 63) hk dX6_isPair_35 (by decide) ?_
        refine G_zret hk dX6_isPair_63 (by first | rfl | exact gB_nar _) ?_
        exact ⟨rfl, (gB_f (fun z => c_27 (by rw [sIsA_iff, if_neg c_3, if_pos (by first | exact c_23 | exact Decidable.not_not.mp c_23)] at z; exact z))).symm⟩
      · try simp only [gB_ne, gB_eq, Decidable.not_not] at c_27
        refine G_iconst (v := 1) hk dX6_isPair_30 (by decide) ?_
        refine G_goto (tgt := 63) hk dX6_isPair_31 (by decide) ?_
        refine G_zret hk dX6_isPair_63 (by first | rfl | exact gB_nar _) ?_
        exact ⟨rfl, (gB_t (by rw [sIsA_iff, if_neg c_3, if_pos (by first | exact c_23 | exact Decidable.not_not.mp c_23)]; exact (by first | exact c_27 | exact Decidable.not_not.mp c_27))).symm⟩
  · try simp only [gB_ne, gB_eq, Decidable.not_not] at c_3
    refine G_iload_n (i := 0) hk dX6_isPair_6 rfl rfl ?_
    refine G_iconst (v := 0) hk dX6_isPair_7 (by decide) ?_
    refine G_iconst (v := 5) hk dX6_isPair_8 (by decide) ?_
    refine G_cSi hk (c_X6_within l V ad E a 0 5) mX6_within sX6_within kX6_43 dX6_isPair_9 rfl (by decide) (by decide) rfl (Nat.le_of_ble_eq_true rfl) (fun r_9 E_9 h_9 => ?_)
    obtain ⟨rfl, rfl⟩ := h_9
    refine G_goto (tgt := 63) hk dX6_isPair_12 (by decide) ?_
    refine G_zret hk dX6_isPair_63 (by first | rfl | exact gB_nar _) ?_
    exact ⟨rfl, gB_c (by rw [sIsA_iff, if_pos (by first | exact c_3 | exact Decidable.not_not.mp c_3)])⟩

set_option maxHeartbeats 4000000 in
set_option maxRecDepth 100000 in
theorem c_X6_does (l : Launch) (V : gV) (ad : Nat → Nat) (E : Nat → va_E) (fa tr at1 rr dn wo rd : Int32) (n : Nat) (so sl ce pa rz dl ke p2 w2 : Nat → Int32) (hC : mC V ad E fa tr at1 rr dn wo rd n so sl ce pa rz dl ke p2 w2) (R : Nat → Nat → Int32) (hag : ∀ i, i < n → ∀ j, j < 5 → pR pa i j = R i j) (hok : dOk n R) (a s : Int32) (hA : sIsA a s = true) : Ct l V ad 44 44 yX6_does cX6_does 4 (some .boolean) { frames := 1, cells := 0, slots := 0, locals := 23 } [.ref (ad 34), .int a, .int s] E (pI ad (fun v E2 => frM E E2 ∧ ((v = 1 ∧ ∃ n2 R2 pan, sAct n R a s = some (n2, R2) ∧ mC V ad E2 fa tr at1 rr dn wo rd n2 so sl ce pan rz dl ke p2 w2 ∧ (∀ i, i < n2 → ∀ j, j < 5 → pR pan i j = R2 i j) ∧ dOk n2 R2) ∨ (v = 0 ∧ sAct n R a s = none ∧ mC V ad E2 fa tr at1 rr dn wo rd n so sl ce pa rz dl ke p2 w2)))) := by
  refine gCt mX6_does (Nat.le_of_ble_eq_true rfl) ?_
  intro K hk
  obtain ⟨m0, g35, g36, g37, g38, g39, g40, g41, g42, g43, m3⟩ := id hC
  have hM := hC.k
  have hn1' := hok.1
  have em1 : nI n - 1 = nI (n - 1) := pk_sub (b := 1) (by omega)
  rcases sIsA_c hA with ⟨t, ht, rfl, ha⟩ | ⟨t, ht, rfl⟩ | ⟨rfl, t, ht, rfl⟩
  · have hix : ix (nI t) = t := ix_nI (by omega)
    have hs20 : ¬ nI t = 20 := fun z => absurd ((neq (b := 20) (by omega) (by omega)).mp z) (by omega)
    have hs10 : ¬ 10 ≤ nI t := fun z => absurd ((nle (a := 10) (by omega) (by omega)).mp z) (by omega)
    refine G_iload_n (i := 2) hk dX6_does_0 rfl rfl ?_
    refine G_bipush (v := 20) hk dX6_does_1 (by decide) ?_
    refine G_icmp_ne (tgt := 25) hk dX6_does_3 (by decide) (fun c_3 => ?_) (fun c_3 => ?_)
    · try simp only [gB_ne, gB_eq, Decidable.not_not] at c_3
      refine G_iload_n (i := 2) hk dX6_does_25 rfl rfl ?_
      refine G_bipush (v := 10) hk dX6_does_26 (by decide) ?_
      refine G_icmp_lt (tgt := 38) hk dX6_does_28 (by decide) (fun c_28 => ?_) (fun c_28 => ?_)
      · try simp only [gB_ne, gB_eq, Decidable.not_not] at c_28
        refine G_iload_n (i := 2) hk dX6_does_38 rfl rfl ?_
        refine G_istore_n (i := 3) hk dX6_does_39 rfl (by decide) rfl ?_
        refine G_aload_n (i := 0) hk dX6_does_40 rfl rfl ?_
        refine G_iload_n (i := 3) hk dX6_does_41 rfl rfl ?_
        refine G_cVi hk (c_X6_isRule l V ad E fa tr at1 rr rd n pa dn wo dl hM (nI t)) mX6_isRule vX6_isRule kX6_116 dX6_does_42 (by assumption) (by rfl) (by first | decide | omega) rfl (by decide) (by decide) rfl (Nat.le_of_ble_eq_true rfl) (fun r_42 E_42 h_42 => ?_)
        obtain ⟨rfl, rfl⟩ := h_42
        refine G_if_eq (tgt := 62) hk dX6_does_45 (by decide) (fun c_45 => ?_) (fun c_45 => ?_)
        · try simp only [gB_ne, gB_eq, Decidable.not_not] at c_45
          refine G_iconst (v := 0) hk dX6_does_62 (by decide) ?_
          refine G_zret hk dX6_does_63 (by first | rfl | exact gB_nar _) ?_
          exact ⟨frM.rf, Or.inr ⟨rfl, by unfold sAct; rw [if_neg hs20, if_neg hs10, if_neg c_45], hC⟩⟩
        · try simp only [gB_ne, gB_eq, Decidable.not_not] at c_45
          have htn : t < n := (nlt (by omega) (by omega)).mp c_45.2
          refine G_iload_n (i := 2) hk dX6_does_48 rfl rfl ?_
          refine G_bipush (v := 10) hk dX6_does_49 (by decide) ?_
          refine G_icmp_lt (tgt := 64) hk dX6_does_51 (by decide) (fun c_51 => ?_) (fun c_51 => ?_)
          · try simp only [gB_ne, gB_eq, Decidable.not_not] at c_51
            refine G_iload_n (i := 2) hk dX6_does_64 rfl rfl ?_
            refine G_bipush (v := 10) hk dX6_does_65 (by decide) ?_
            refine G_icmp_lt (tgt := 78) hk dX6_does_67 (by decide) (fun c_67 => ?_) (fun c_67 => ?_)
            · try simp only [gB_ne, gB_eq, Decidable.not_not] at c_67
              refine G_aload_n (i := 0) hk dX6_does_78 rfl rfl ?_
              refine G_get hk fX6_19 dX6_does_79 (by assumption) (by rfl) (by first | decide | omega) ?_
              refine G_iconst (v := 5) hk dX6_does_82 (by decide) ?_
              refine G_iload_n (i := 3) hk dX6_does_83 rfl rfl ?_
              refine G_imul hk dX6_does_84 ?_
              rw [nI_5]
              refine G_iconst (v := 2) hk dX6_does_85 (by decide) ?_
              refine G_iadd hk dX6_does_86 ?_
              rw [show nI (5 * t) + 2 = nI (5 * t + 2) from nI_add _ 2]
              refine G_iload_n (i := 1) hk dX6_does_87 rfl rfl ?_
              refine G_iastX (j := (5 * t + 2)) hk dX6_does_88 (by assumption) rfl (by omega) (by decide) (by first | decide | omega) ?_
              refine G_iconst (v := 1) hk dX6_does_89 (by decide) ?_
              refine G_zret hk dX6_does_90 (by first | rfl | exact gB_nar _) ?_
              refine ⟨frM.up (by omega), Or.inl ⟨rfl, n, sNumAt R t a, _, by unfold sAct; rw [if_neg hs20, if_neg hs10, if_pos c_45, hix], hC.s_pa _, fun i hi j hj => ?_, hok.1, hok.2.1, sNumAt_ok hok.2.2 ha⟩⟩
              show upd pa (5 * t + 2) a (5 * i + j) = _
              unfold sNumAt upd sNum
              by_cases hit : i = t
              · rw [if_pos hit]
                by_cases hj2 : j = 2
                · rw [if_pos (by omega), if_pos hj2]
                · rw [if_neg (by omega), if_neg hj2]; exact hag i hi j hj
              · rw [if_neg hit, if_neg (by omega)]; exact hag i hi j hj
            · try simp only [gB_ne, gB_eq, Decidable.not_not] at c_67
              exact absurd ((nlt (b := 10) (by omega) (by omega)).mpr (by omega)) c_67
          · try simp only [gB_ne, gB_eq, Decidable.not_not] at c_51
            exact absurd ((nlt (b := 10) (by omega) (by omega)).mpr (by omega)) c_51
      · try simp only [gB_ne, gB_eq, Decidable.not_not] at c_28
        exact absurd ((nlt (b := 10) (by omega) (by omega)).mpr (by omega)) c_28
    · try simp only [gB_ne, gB_eq, Decidable.not_not] at c_3
      exact absurd (by first | exact c_3 | exact Decidable.not_not.mp c_3) hs20
  · have hix : ix (nI t) = t := ix_nI (by omega)
    have hs20 : ¬ nI (10 + t) = 20 := fun z => absurd ((neq (b := 20) (by omega) (by omega)).mp z) (by omega)
    have hs10 : 10 ≤ nI (10 + t) := (nle (a := 10) (by omega) (by omega)).mpr (by omega)
    have e10 : nI (10 + t) - 10 = nI t := by rw [show (10 : Int32) = nI 10 from rfl, pk_sub (by omega), Nat.add_sub_cancel_left]
    refine G_iload_n (i := 2) hk dX6_does_0 rfl rfl ?_
    refine G_bipush (v := 20) hk dX6_does_1 (by decide) ?_
    refine G_icmp_ne (tgt := 25) hk dX6_does_3 (by decide) (fun c_3 => ?_) (fun c_3 => ?_)
    · try simp only [gB_ne, gB_eq, Decidable.not_not] at c_3
      refine G_iload_n (i := 2) hk dX6_does_25 rfl rfl ?_
      refine G_bipush (v := 10) hk dX6_does_26 (by decide) ?_
      refine G_icmp_lt (tgt := 38) hk dX6_does_28 (by decide) (fun c_28 => ?_) (fun c_28 => ?_)
      · try simp only [gB_ne, gB_eq, Decidable.not_not] at c_28
        exact absurd ((nlt (a := 10 + t) (b := 10) (by omega) (by omega)).mp c_28) (by omega)
      · try simp only [gB_ne, gB_eq, Decidable.not_not] at c_28
        refine G_iload_n (i := 2) hk dX6_does_31 rfl rfl ?_
        refine G_bipush (v := 10) hk dX6_does_32 (by decide) ?_
        refine G_isub hk dX6_does_34 ?_
        rw [e10]
        refine G_goto (tgt := 39) hk dX6_does_35 (by decide) ?_
        refine G_istore_n (i := 3) hk dX6_does_39 rfl (by decide) rfl ?_
        refine G_aload_n (i := 0) hk dX6_does_40 rfl rfl ?_
        refine G_iload_n (i := 3) hk dX6_does_41 rfl rfl ?_
        refine G_cVi hk (c_X6_isRule l V ad E fa tr at1 rr rd n pa dn wo dl hM (nI t)) mX6_isRule vX6_isRule kX6_116 dX6_does_42 (by assumption) (by rfl) (by first | decide | omega) rfl (by decide) (by decide) rfl (Nat.le_of_ble_eq_true rfl) (fun r_42 E_42 h_42 => ?_)
        obtain ⟨rfl, rfl⟩ := h_42
        refine G_if_eq (tgt := 62) hk dX6_does_45 (by decide) (fun c_45 => ?_) (fun c_45 => ?_)
        · try simp only [gB_ne, gB_eq, Decidable.not_not] at c_45
          refine G_iconst (v := 0) hk dX6_does_62 (by decide) ?_
          refine G_zret hk dX6_does_63 (by first | rfl | exact gB_nar _) ?_
          exact ⟨frM.rf, Or.inr ⟨rfl, by unfold sAct; rw [if_neg hs20, if_pos hs10, e10, if_neg (fun z => c_45 z.1)], hC⟩⟩
        · try simp only [gB_ne, gB_eq, Decidable.not_not] at c_45
          have htn : t < n := (nlt (by omega) (by omega)).mp c_45.2
          refine G_iload_n (i := 2) hk dX6_does_48 rfl rfl ?_
          refine G_bipush (v := 10) hk dX6_does_49 (by decide) ?_
          refine G_icmp_lt (tgt := 64) hk dX6_does_51 (by decide) (fun c_51 => ?_) (fun c_51 => ?_)
          · try simp only [gB_ne, gB_eq, Decidable.not_not] at c_51
            exact absurd ((nlt (a := 10 + t) (b := 10) (by omega) (by omega)).mp c_51) (by omega)
          · try simp only [gB_ne, gB_eq, Decidable.not_not] at c_51
            refine G_aload_n (i := 0) hk dX6_does_54 rfl rfl ?_
            refine G_get hk fX6_47 dX6_does_55 (by assumption) (by rfl) (by first | decide | omega) ?_
            refine G_iconst (v := 1) hk dX6_does_58 (by decide) ?_
            refine G_icmp_ne (tgt := 64) hk dX6_does_59 (by decide) (fun c_59 => ?_) (fun c_59 => ?_)
            · try simp only [gB_ne, gB_eq, Decidable.not_not] at c_59
              have hn1 : n ≠ 1 := fun z => c_59 ((neq (b := 1) (by omega) (by omega)).mpr z)
              refine G_iload_n (i := 2) hk dX6_does_64 rfl rfl ?_
              refine G_bipush (v := 10) hk dX6_does_65 (by decide) ?_
              refine G_icmp_lt (tgt := 78) hk dX6_does_67 (by decide) (fun c_67 => ?_) (fun c_67 => ?_)
              · try simp only [gB_ne, gB_eq, Decidable.not_not] at c_67
                exact absurd ((nlt (a := 10 + t) (b := 10) (by omega) (by omega)).mp c_67) (by omega)
              · try simp only [gB_ne, gB_eq, Decidable.not_not] at c_67
                refine G_aload_n (i := 0) hk dX6_does_70 rfl rfl ?_
                refine G_iload_n (i := 3) hk dX6_does_71 rfl rfl ?_
                refine G_cVv hk (c_X6_takes l V ad E fa tr at1 rr dn wo rd n so sl ce pa rz dl ke p2 w2 hC t htn) mX6_takes vX6_takes kX6_125 dX6_does_72 (by assumption) (by rfl) (by first | decide | omega) rfl (by decide) (by decide) rfl (Nat.le_of_ble_eq_true rfl) (fun E_72 h_72 => ?_)
                obtain ⟨pan, hC2, hag2, f2⟩ := h_72
                refine G_goto (tgt := 89) hk dX6_does_75 (by decide) ?_
                refine G_iconst (v := 1) hk dX6_does_89 (by decide) ?_
                refine G_zret hk dX6_does_90 (by first | rfl | exact gB_nar _) ?_
                exact ⟨f2, Or.inl ⟨rfl, n - 1, sDel R t, pan, by unfold sAct; rw [if_neg hs20, if_pos hs10, e10, if_pos ⟨c_45, hn1⟩, hix], hC2, fun i hi j hj => (hag2 i hi j hj).trans (sDel_cw hag i hi j hj), by have := hok.1; omega, by omega, sDel_ok hok.2.2⟩⟩
            · try simp only [gB_ne, gB_eq, Decidable.not_not] at c_59
              have hn1 : n = 1 := (neq (b := 1) (by omega) (by omega)).mp (by first | exact c_59 | exact Decidable.not_not.mp c_59)
              refine G_iconst (v := 0) hk dX6_does_62 (by decide) ?_
              refine G_zret hk dX6_does_63 (by first | rfl | exact gB_nar _) ?_
              exact ⟨frM.rf, Or.inr ⟨rfl, by unfold sAct; rw [if_neg hs20, if_pos hs10, e10, if_neg (fun z => z.2 hn1)], hC⟩⟩
    · try simp only [gB_ne, gB_eq, Decidable.not_not] at c_3
      exact absurd (by first | exact c_3 | exact Decidable.not_not.mp c_3) hs20
  · have hix : ix (nI t) = t := ix_nI (by omega)
    refine G_iload_n (i := 2) hk dX6_does_0 rfl rfl ?_
    refine G_bipush (v := 20) hk dX6_does_1 (by decide) ?_
    refine G_icmp_ne (tgt := 25) hk dX6_does_3 (by decide) (fun c_3 => ?_) (fun c_3 => ?_)
    · try simp only [gB_ne, gB_eq, Decidable.not_not] at c_3
      first | exact absurd trivial c_3 | exact absurd rfl c_3
    · try simp only [gB_ne, gB_eq, Decidable.not_not] at c_3
      refine G_iload_n (i := 1) hk dX6_does_6 rfl rfl ?_
      refine G_iconst (v := 1) hk dX6_does_7 (by decide) ?_
      refine G_iadd hk dX6_does_8 ?_
      refine G_aload_n (i := 0) hk dX6_does_9 rfl rfl ?_
      refine G_get hk fX6_47 dX6_does_10 (by assumption) (by rfl) (by first | decide | omega) ?_
      rw [nI_i1]
      refine G_icmp_lt (tgt := 18) hk dX6_does_13 (by decide) (fun c_13 => ?_) (fun c_13 => ?_)
      · try simp only [gB_ne, gB_eq, Decidable.not_not] at c_13
        have htn : t + 1 < n := (nlt (by omega) (by omega)).mp c_13
        refine G_aload_n (i := 0) hk dX6_does_18 rfl rfl ?_
        refine G_iload_n (i := 1) hk dX6_does_19 rfl rfl ?_
        refine G_cVv hk (c_X6_changes l V ad E fa tr at1 rr dn wo rd n so sl ce pa rz dl ke p2 w2 hC t htn) mX6_changes vX6_changes kX6_129 dX6_does_20 (by assumption) (by rfl) (by first | decide | omega) rfl (by decide) (by decide) rfl (Nat.le_of_ble_eq_true rfl) (fun E_20 h_20 => ?_)
        obtain ⟨pan, hC2, hag2, f2⟩ := h_20
        refine G_iconst (v := 1) hk dX6_does_23 (by decide) ?_
        refine G_zret hk dX6_does_24 (by first | rfl | exact gB_nar _) ?_
        exact ⟨f2, Or.inl ⟨rfl, n, sSwap R t, pan, by unfold sAct; rw [if_pos rfl, if_pos ⟨nI_pos' (by omega), em1 ▸ (nlt (by omega) (by omega)).mpr (by omega)⟩, hix], hC2, fun i hi j hj => (hag2 i hi j hj).trans (sSwap_cw hag htn i hi j hj), hok.1, hok.2.1, sSwap_ok hok.2.2 htn⟩⟩
      · try simp only [gB_ne, gB_eq, Decidable.not_not] at c_13
        have htn : ¬ t + 1 < n := fun z => c_13 ((nlt (by omega) (by omega)).mpr z)
        refine G_iconst (v := 0) hk dX6_does_16 (by decide) ?_
        refine G_zret hk dX6_does_17 (by first | rfl | exact gB_nar _) ?_
        exact ⟨frM.rf, Or.inr ⟨rfl, by unfold sAct; rw [if_pos rfl, if_neg (fun z => htn (by have := (nlt (b := n - 1) (by omega) (by omega)).mp (em1 ▸ z.2); omega))], hC⟩⟩

set_option maxHeartbeats 4000000 in
set_option maxRecDepth 100000 in
theorem lp_goDay {l : Launch} {V : gV} {ad : Nat → Nat} {K : gX} (hk : gOk l { frames := 2, cells := 0, slots := 0, locals := 46 } K V cX6_goDay 4 RX6 (some .int) yX6_goDay.name) (E : Nat → va_E) (fa tr at1 rr dn wo rd : Int32) (so sl ce rz dl ke p2 w2 : Nat → Int32) (c : Nat → Int32) (s0 m : Nat) (hm : m ≤ 20) (hs : s0 + 2 * m ≤ 240) (hce : ∀ q, q < 2 * m → ce (s0 + q) = c q) (hall : ∀ p, p < m → sIsA (c (2 * p)) (c (2 * p + 1)) = true) (F : Int32 × Nat × (Nat → Nat → Int32)) : ∀ (k p n : Nat) (R : Nat → Nat → Int32) (pa : Nat → Int32) (E1 : Nat → va_E), p + k = m → mC V ad E1 fa tr at1 rr dn wo rd n so sl ce pa rz dl ke p2 w2 → (∀ i, i < n → ∀ j, j < 5 → pR pa i j = R i j) → dOk n R → frM E E1 → F = sPlay c k p n R → G K V 4 (gQ K V 44 0 0 (pI ad (fun v E2 => v = F.1 ∧ (∃ pan, mC V ad E2 fa tr at1 rr dn wo rd F.2.1 so sl ce pan rz dl ke p2 w2 ∧ (∀ i, i < F.2.1 → ∀ j, j < 5 → pR pan i j = F.2.2 i j) ∧ dOk F.2.1 F.2.2) ∧ frM E E2))) ad 44 0 0 2 [(0, .ref (ad 34)), (1, .int (nI s0)), (2, .int (nI m)), (3, .int (nI p))] [] E1 := by
  intro k
  induction k with
  | zero =>
    intro p n R pa E1 hp hC hag hok hfr hF
    obtain ⟨m0, g35, g36, g37, g38, g39, g40, g41, g42, g43, m3⟩ := id hC
    refine G_iload_n (i := 3) hk dX6_goDay_2 rfl rfl ?_
    refine G_iload_n (i := 2) hk dX6_goDay_3 rfl rfl ?_
    refine G_icmp_ge (tgt := 44) hk dX6_goDay_4 (by decide) (fun c_4 => ?_) (fun c_4 => ?_)
    · try simp only [gB_ne, gB_eq, Decidable.not_not] at c_4
      refine G_bipush (v := (-9)) hk dX6_goDay_44 (by decide) ?_
      refine G_iret hk dX6_goDay_46 ?_
      rw [hF]
      exact ⟨rfl, ⟨pa, hC, hag, hok⟩, hfr⟩
    · try simp only [gB_ne, gB_eq, Decidable.not_not] at c_4
      exact absurd ((nle (by omega) (by omega)).mpr (by omega)) c_4
  | succ k ih =>
    intro p n R pa E1 hp hC hag hok hfr hF
    obtain ⟨m0, g35, g36, g37, g38, g39, g40, g41, g42, g43, m3⟩ := id hC
    refine G_iload_n (i := 3) hk dX6_goDay_2 rfl rfl ?_
    refine G_iload_n (i := 2) hk dX6_goDay_3 rfl rfl ?_
    refine G_icmp_ge (tgt := 44) hk dX6_goDay_4 (by decide) (fun c_4 => ?_) (fun c_4 => ?_)
    · try simp only [gB_ne, gB_eq, Decidable.not_not] at c_4
      exact absurd ((nle (by omega) (by omega)).mp c_4) (by omega)
    · try simp only [gB_ne, gB_eq, Decidable.not_not] at c_4
      refine G_aload_n (i := 0) hk dX6_goDay_7 rfl rfl ?_
      refine G_aload_n (i := 0) hk dX6_goDay_8 rfl rfl ?_
      refine G_get hk fX6_16 dX6_goDay_9 (by assumption) (by rfl) (by first | decide | omega) ?_
      refine G_iload_n (i := 1) hk dX6_goDay_12 rfl rfl ?_
      refine G_iconst (v := 2) hk dX6_goDay_13 (by decide) ?_
      refine G_iload_n (i := 3) hk dX6_goDay_14 rfl rfl ?_
      refine G_imul hk dX6_goDay_15 ?_
      rw [nI_2]
      refine G_iadd hk dX6_goDay_16 ?_
      rw [nI_add]
      refine G_ialdX (j := (s0 + 2 * p)) hk dX6_goDay_17 (by assumption) rfl (by omega) (by decide) (by first | decide | omega) ?_
      rw [hce (2 * p) (by omega)]
      refine G_aload_n (i := 0) hk dX6_goDay_18 rfl rfl ?_
      refine G_get hk fX6_16 dX6_goDay_19 (by assumption) (by rfl) (by first | decide | omega) ?_
      refine G_iload_n (i := 1) hk dX6_goDay_22 rfl rfl ?_
      refine G_iconst (v := 2) hk dX6_goDay_23 (by decide) ?_
      refine G_iload_n (i := 3) hk dX6_goDay_24 rfl rfl ?_
      refine G_imul hk dX6_goDay_25 ?_
      rw [nI_2]
      refine G_iadd hk dX6_goDay_26 ?_
      rw [nI_add]
      refine G_iconst (v := 1) hk dX6_goDay_27 (by decide) ?_
      refine G_iadd hk dX6_goDay_28 ?_
      rw [show nI (s0 + 2 * p) + 1 = nI (s0 + (2 * p + 1)) from nI_i1 _]
      refine G_ialdX (j := (s0 + (2 * p + 1))) hk dX6_goDay_29 (by assumption) rfl (by omega) (by decide) (by first | decide | omega) ?_
      rw [hce (2 * p + 1) (by omega)]
      refine G_cVi hk (c_X6_does l V ad E1 fa tr at1 rr dn wo rd n so sl ce pa rz dl ke p2 w2 hC R hag hok (c (2 * p)) (c (2 * p + 1)) (hall p (by omega))) mX6_does vX6_does kX6_136 dX6_goDay_30 (by assumption) (by rfl) (by first | decide | omega) rfl (by decide) (by decide) rfl (Nat.le_of_ble_eq_true rfl) (fun r_30 E_30 h_30 => ?_)
      skip
      refine G_if_ne (tgt := 38) hk dX6_goDay_33 (by decide) (fun c_33 => ?_) (fun c_33 => ?_)
      · try simp only [gB_ne, gB_eq, Decidable.not_not] at c_33
        obtain ⟨x1, ⟨-, n2, R2, pan, e, hC2, ag2, ok2⟩ | ⟨z1, -⟩⟩ := h_30
        rotate_left
        · exact absurd z1 c_33
        refine G_iinc (v := nI (p + 1)) hk dX6_goDay_38 rfl (nI_inc p) (by decide) rfl ?_
        refine G_goto (tgt := 2) hk dX6_goDay_41 (by decide) ?_
        exact G_lv (by exact And.intro rfl (And.intro rfl (And.intro rfl (And.intro rfl (trivial))))) (ih (p + 1) n2 R2 pan _ (by omega) hC2 ag2 ok2 (hfr.tr x1) (by rw [hF, sPlay_some e]))
      · try simp only [gB_ne, gB_eq, Decidable.not_not] at c_33
        obtain ⟨x1, ⟨z1, -⟩ | ⟨-, e, hC2⟩⟩ := h_30
        · exact absurd (z1.symm.trans c_33) (by decide)
        refine G_iload_n (i := 3) hk dX6_goDay_36 rfl rfl ?_
        refine G_iret hk dX6_goDay_37 ?_
        rw [hF, sPlay_none e]
        exact ⟨rfl, ⟨pa, hC2, hag, hok⟩, hfr.tr x1⟩

set_option maxHeartbeats 4000000 in
set_option maxRecDepth 100000 in
theorem c_X6_goDay (l : Launch) (V : gV) (ad : Nat → Nat) (E : Nat → va_E) (fa tr at1 rr dn wo rd : Int32) (n : Nat) (so sl ce pa rz dl ke p2 w2 : Nat → Int32) (hC : mC V ad E fa tr at1 rr dn wo rd n so sl ce pa rz dl ke p2 w2) (R : Nat → Nat → Int32) (hag : ∀ i, i < n → ∀ j, j < 5 → pR pa i j = R i j) (hok : dOk n R) (c : Nat → Int32) (s0 m : Nat) (hm : m ≤ 20) (hs : s0 + 2 * m ≤ 240) (hce : ∀ q, q < 2 * m → ce (s0 + q) = c q) (hall : ∀ p, p < m → sIsA (c (2 * p)) (c (2 * p + 1)) = true) : Ct l V ad 44 44 yX6_goDay cX6_goDay 4 (some .int) { frames := 2, cells := 0, slots := 0, locals := 46 } [.ref (ad 34), .int (nI s0), .int (nI m)] E (pI ad (fun v E2 => v = (sPlay c m 0 n R).1 ∧ (∃ pan, mC V ad E2 fa tr at1 rr dn wo rd (sPlay c m 0 n R).2.1 so sl ce pan rz dl ke p2 w2 ∧ (∀ i, i < (sPlay c m 0 n R).2.1 → ∀ j, j < 5 → pR pan i j = (sPlay c m 0 n R).2.2 i j) ∧ dOk (sPlay c m 0 n R).2.1 (sPlay c m 0 n R).2.2) ∧ frM E E2)) := by
  refine gCt mX6_goDay (Nat.le_of_ble_eq_true rfl) ?_
  intro K hk
  obtain ⟨m0, g35, g36, g37, g38, g39, g40, g41, g42, g43, m3⟩ := id hC
  have hM := hC.k
  refine G_iconst (v := 0) hk dX6_goDay_0 (by decide) ?_
  refine G_istore_n (i := 3) hk dX6_goDay_1 rfl (by decide) rfl ?_
  exact G_lv (by exact And.intro rfl (And.intro rfl (And.intro rfl (And.intro rfl (trivial))))) (lp_goDay hk E fa tr at1 rr dn wo rd so sl ce rz dl ke p2 w2 c s0 m hm hs hce hall _ m 0 n R pa E (by omega) hC hag hok frM.rf rfl)

set_option maxHeartbeats 4000000 in
set_option maxRecDepth 100000 in
theorem c_X6_tellDay (l : Launch) (V : gV) (ad : Nat → Nat) (E : Nat → va_E) (fa tr at1 rr dn wo rd : Int32) (n : Nat) (so sl ce pa rz dl ke p2 w2 : Nat → Int32) (hC : mC V ad E fa tr at1 rr dn wo rd n so sl ce pa rz dl ke p2 w2) (R : Nat → Nat → Int32) (hag : ∀ i, i < n → ∀ j, j < 5 → pR pa i j = R i j) (hok : dOk n R) (w : Int32) (hw : (0 ≤ w ∧ w ≤ 4) ∨ (10 ≤ w ∧ w ≤ 35)) : Ct l V ad 44 44 yX6_tellDay cX6_tellDay 2 (some .int) { frames := 5, cells := 0, slots := 0, locals := 113 } [.ref (ad 34), .int w] E (pI ad (fun v E2 => (¬ w = 1 → v = sOfDay n R w) ∧ (∃ dn2 wo2 dl2, mC V ad E2 fa tr at1 rr dn2 wo2 rd n so sl ce pa rz dl2 ke p2 w2) ∧ frM E E2)) := by
  refine gCt mX6_tellDay (Nat.le_of_ble_eq_true rfl) ?_
  intro K hk
  obtain ⟨m0, g35, g36, g37, g38, g39, g40, g41, g42, g43, m3⟩ := id hC
  have hM := hC.k
  have hn1' := hok.1
  have ho : ∀ i, i < n → rOk (pR pa i) := fun i hi => rOk_cw (hag i hi) (hok.2.2 i hi)
  refine G_iload_n (i := 1) hk dX6_tellDay_0 rfl rfl ?_
  refine G_bipush (v := 10) hk dX6_tellDay_1 (by decide) ?_
  refine G_icmp_lt (tgt := 21) hk dX6_tellDay_3 (by decide) (fun c_3 => ?_) (fun c_3 => ?_)
  · try simp only [gB_ne, gB_eq, Decidable.not_not] at c_3
    refine G_iload_n (i := 1) hk dX6_tellDay_21 rfl rfl ?_
    refine G_if_ne (tgt := 32) hk dX6_tellDay_22 (by decide) (fun c_22 => ?_) (fun c_22 => ?_)
    · try simp only [gB_ne, gB_eq, Decidable.not_not] at c_22
      refine G_iload_n (i := 1) hk dX6_tellDay_32 rfl rfl ?_
      refine G_iconst (v := 2) hk dX6_tellDay_33 (by decide) ?_
      refine G_icmp_ne (tgt := 44) hk dX6_tellDay_34 (by decide) (fun c_34 => ?_) (fun c_34 => ?_)
      · try simp only [gB_ne, gB_eq, Decidable.not_not] at c_34
        refine G_iload_n (i := 1) hk dX6_tellDay_44 rfl rfl ?_
        refine G_iconst (v := 3) hk dX6_tellDay_45 (by decide) ?_
        refine G_icmp_ne (tgt := 56) hk dX6_tellDay_46 (by decide) (fun c_46 => ?_) (fun c_46 => ?_)
        · try simp only [gB_ne, gB_eq, Decidable.not_not] at c_46
          refine G_aload_n (i := 0) hk dX6_tellDay_56 rfl rfl ?_
          refine G_cVi hk (c_X6_worthInAll l V ad E fa tr at1 rr rd n pa dn wo dl hM ho) mX6_worthInAll vX6_worthInAll kX6_159 dX6_tellDay_57 (by assumption) (by rfl) (by first | decide | omega) rfl (by decide) (by decide) rfl (Nat.le_of_ble_eq_true rfl) (fun r_57 E_57 h_57 => ?_)
          obtain ⟨rfl, hX⟩ := h_57
          refine G_iret hk dX6_tellDay_60 ?_
          refine ⟨fun h1 => ?_, ⟨_, _, _, hC.ex hX.1 hX.2.choose_spec.choose_spec.choose_spec⟩, frM.ex hX.1⟩
          have h4 : w = 4 := by
            have hw4 : 0 ≤ w ∧ w ≤ 4 := hw.elim id (fun q => absurd q.1 (Int32.not_le.mpr c_3))
            obtain ⟨t, ht, rfl⟩ := gIe (n := 4) hw4.1 hw4.2 (by omega)
            have a0 : ¬ t = 0 := fun z => c_22 (by rw [z]; rfl)
            have a1 : ¬ t = 1 := fun z => h1 (by rw [z]; rfl)
            have a2 : ¬ t = 2 := fun z => c_34 (by rw [z]; rfl)
            have a3 : ¬ t = 3 := fun z => c_46 (by rw [z]; rfl)
            rw [show t = 4 by omega]
            rfl
          unfold sOfDay
          rw [if_neg c_22, if_neg c_34, if_neg c_46, if_pos h4, sSum_cw hag]
        · try simp only [gB_ne, gB_eq, Decidable.not_not] at c_46
          refine G_aload_n (i := 0) hk dX6_tellDay_49 rfl rfl ?_
          refine G_cVi hk (c_X6_runs l V ad E fa tr at1 rr rd n pa dn wo dl hM) mX6_runs vX6_runs kX6_156 dX6_tellDay_50 (by assumption) (by rfl) (by first | decide | omega) rfl (by decide) (by decide) rfl (Nat.le_of_ble_eq_true rfl) (fun r_50 E_50 h_50 => ?_)
          obtain ⟨rfl, rfl⟩ := h_50
          refine G_goto (tgt := 60) hk dX6_tellDay_53 (by decide) ?_
          refine G_iret hk dX6_tellDay_60 ?_
          exact ⟨fun _ => by unfold sOfDay; rw [if_neg c_22, if_neg c_34, if_pos (by first | exact c_46 | exact Decidable.not_not.mp c_46), ← sRuns_cw hag]; unfold sRunsN; rw [if_neg (by omega)], ⟨_, _, _, hC⟩, frM.rf⟩
      · try simp only [gB_ne, gB_eq, Decidable.not_not] at c_34
        refine G_aload_n (i := 0) hk dX6_tellDay_37 rfl rfl ?_
        refine G_cVi hk (c_X6_shadowed l V ad E fa tr at1 rr rd n pa dn wo dl hM) mX6_shadowed vX6_shadowed kX6_153 dX6_tellDay_38 (by assumption) (by rfl) (by first | decide | omega) rfl (by decide) (by decide) rfl (Nat.le_of_ble_eq_true rfl) (fun r_38 E_38 h_38 => ?_)
        obtain ⟨rfl, rfl⟩ := h_38
        refine G_goto (tgt := 60) hk dX6_tellDay_41 (by decide) ?_
        refine G_iret hk dX6_tellDay_60 ?_
        exact ⟨fun _ => by unfold sOfDay; rw [if_neg c_22, if_pos (by first | exact c_34 | exact Decidable.not_not.mp c_34), sShad_cw hag], ⟨_, _, _, hC⟩, frM.rf⟩
    · try simp only [gB_ne, gB_eq, Decidable.not_not] at c_22
      refine G_aload_n (i := 0) hk dX6_tellDay_25 rfl rfl ?_
      refine G_cVi hk (c_X6_manyDenied l V ad E fa tr at1 rr rd n pa dn wo dl hM ho) mX6_manyDenied vX6_manyDenied kX6_149 dX6_tellDay_26 (by assumption) (by rfl) (by first | decide | omega) rfl (by decide) (by decide) rfl (Nat.le_of_ble_eq_true rfl) (fun r_26 E_26 h_26 => ?_)
      obtain ⟨rfl, hX⟩ := h_26
      refine G_goto (tgt := 60) hk dX6_tellDay_29 (by decide) ?_
      refine G_iret hk dX6_tellDay_60 ?_
      exact ⟨fun _ => by unfold sOfDay; rw [if_pos (by first | exact c_22 | exact Decidable.not_not.mp c_22), sCw_cw hag], ⟨_, _, _, hC.ex hX.1 hX.2.choose_spec.choose_spec.choose_spec⟩, frM.ex hX.1⟩
  · try simp only [gB_ne, gB_eq, Decidable.not_not] at c_3
    refine G_aload_n (i := 0) hk dX6_tellDay_6 rfl rfl ?_
    refine G_iload_n (i := 1) hk dX6_tellDay_7 rfl rfl ?_
    refine G_bipush (v := 10) hk dX6_tellDay_8 (by decide) ?_
    refine G_isub hk dX6_tellDay_10 ?_
    refine G_bipush (v := (-9)) hk dX6_tellDay_11 (by decide) ?_
    refine G_cVv hk (c_X6_asks l V ad E fa tr at1 rr rd n pa dn wo dl hM ho 99 (-9) hw99' (w - 10)) mX6_asks vX6_asks kX6_132 dX6_tellDay_13 (by assumption) (by rfl) (by first | decide | omega) rfl (by decide) (by decide) rfl (Nat.le_of_ble_eq_true rfl) (fun E_13 h_13 => ?_)
    have hX := h_13.x
    obtain ⟨-, dl3, hM3, -⟩ := h_13
    obtain ⟨q0, q1, q2, q3⟩ := id hM3
    refine G_aload_n (i := 0) hk dX6_tellDay_16 rfl rfl ?_
    refine G_get hk fX6_100 dX6_tellDay_17 (by assumption) (by rfl) (by first | decide | omega) ?_
    refine G_iret hk dX6_tellDay_20 ?_
    refine ⟨fun h1 => ?_, ⟨_, _, _, hC.ex hX.1 hX.2.choose_spec.choose_spec.choose_spec⟩, frM.ex hX.1⟩
    have h10 : 10 ≤ w := Int32.not_lt.mp c_3
    have ne : ∀ v : Int32, v < 10 → ¬ w = v := fun v hv z => absurd h10 (by rw [z]; exact Int32.not_le.mpr hv)
    unfold sOfDay
    rw [if_neg (ne 0 (by decide)), if_neg (ne 2 (by decide)), if_neg (ne 3 (by decide)), if_neg (ne 4 (by decide)), sAn_cw hag (Nat.zero_le n)]
