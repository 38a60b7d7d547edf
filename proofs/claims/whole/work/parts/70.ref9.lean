theorem cpd1 {j t a b m : Nat} (h1 : a + m ≤ 60) (h2 : b + m ≤ 60) (h : b ≤ a) : 60 * t + b ≤ 60 * j + a ∨ 60 * j + a + m ≤ 60 * t + b := by
  rcases Nat.lt_or_ge j t with q | q
  · right
    omega
  · left
    omega
theorem cpd2 {j t a b m : Nat} (h1 : a + m ≤ 60) (h2 : b + m ≤ 60) (h : a < b) : 60 * j + a < 60 * t + b ∨ 60 * t + b + m ≤ 60 * j + a := by
  rcases Nat.lt_or_ge t j with q | q
  · right
    omega
  · left
    omega

set_option maxHeartbeats 4000000 in
set_option maxRecDepth 100000 in
theorem lp_copy_f {l : Launch} {V : gV} {ad : Nat → Nat} {K : gX} (hk : gOk l { frames := 2, cells := 0, slots := 0, locals := 42 } K V cX6_copy 10 RX6 (some .int) yX6_copy.name) (E : Nat → va_E) (fa tr at1 rr dn wo rd : Int32) (n : Nat) (so sl ce pa rz dl ke p2 w2 : Nat → Int32) (a b i0 j0 m src dst : Nat) (ha : a < 4) (hb : b < 4) (hsrc : src = 60 * a + i0) (hdst : dst = 60 * b + j0) (hi0 : i0 + m ≤ 60) (hj0 : j0 + m ≤ 60) (hdir : dst ≤ src ∨ src + m ≤ dst) : ∀ (k q : Nat) (E1 : Nat → va_E), m < q + k → q ≤ m → mC V ad E1 fa tr at1 rr dn wo rd n so sl (fun x => if dst ≤ x ∧ x < dst + q then ce (src + (x - dst)) else ce x) pa rz dl ke p2 w2 → frM E E1 → G K V 10 (gQ K V 44 0 0 (pI ad (fun v E2 => v = nI m ∧ mC V ad E2 fa tr at1 rr dn wo rd n so sl (va_cpy ce ce src dst m) pa rz dl ke p2 w2 ∧ frM E E2))) ad 44 0 0 166 [(0, .ref (ad 34)), (1, .int (nI a)), (2, .int (nI i0)), (3, .int (nI b)), (4, .int (nI j0)), (5, .int (nI m)), (7, .int 0), (8, .int (nI q))] [] E1 := by
  intro k
  induction k with
  | zero => intro q E1 hq; omega
  | succ k ih =>
    intro q E1 hq hqm hC1 hfr
    obtain ⟨m0, g35, g36, g37, g38, g39, g40, g41, g42, g43, m3⟩ := id hC1
    refine G_iload hk dX6_copy_166 rfl ?_
    refine G_iload hk dX6_copy_168 rfl ?_
    refine G_icmp_ge (tgt := 227) hk dX6_copy_170 (by decide) (fun c_170 => ?_) (fun c_170 => ?_)
    · try simp only [gB_ne, gB_eq, Decidable.not_not] at c_170
      have hge : m ≤ q := (nle (by omega) (by omega)).mp c_170
      have hqe : q = m := by omega
      subst hqe
      refine G_iload hk dX6_copy_227 rfl ?_
      refine G_iret hk dX6_copy_229 ?_
      have e : (fun x => if dst ≤ x ∧ x < dst + q then ce (src + (x - dst)) else ce x) = va_cpy ce ce src dst q := by
        funext x
        by_cases h7 : dst ≤ x ∧ x < dst + q
        · rw [pk_cpy_in h7.1 h7.2]; exact if_pos (by omega)
        · rw [pk_cpy_out (by omega)]; exact if_neg (by omega)
      rw [← e]
      exact ⟨rfl, hC1, hfr⟩
    · try simp only [gB_ne, gB_eq, Decidable.not_not] at c_170
      have hlt : q < m := Nat.lt_of_not_le (fun z => c_170 ((nle (by omega) (by omega)).mpr z))
      refine G_iload hk dX6_copy_173 rfl ?_
      refine G_if_eq (tgt := 188) hk dX6_copy_175 (by decide) (fun c_175 => ?_) (fun c_175 => ?_)
      · try simp only [gB_ne, gB_eq, Decidable.not_not] at c_175
        refine G_iload hk dX6_copy_188 rfl ?_
        refine G_istore hk dX6_copy_190 (by decide) rfl ?_
        refine G_aload_n (i := 0) hk dX6_copy_192 rfl rfl ?_
        refine G_get hk fX6_16 dX6_copy_193 (by assumption) (by rfl) (by first | decide | omega) ?_
        refine G_bipush (v := 60) hk dX6_copy_196 (by decide) ?_
        refine G_iload_n (i := 3) hk dX6_copy_198 rfl rfl ?_
        refine G_imul hk dX6_copy_199 ?_
        rw [show (60 : Int32) * nI b = nI (60 * b) from pk_mul 60 b]
        refine G_iload hk dX6_copy_200 rfl ?_
        refine G_iadd hk dX6_copy_202 ?_
        rw [nI_add]
        refine G_iload hk dX6_copy_203 rfl ?_
        refine G_iadd hk dX6_copy_205 ?_
        rw [nI_add, show 60 * b + j0 + q = dst + q by omega]
        refine G_aload_n (i := 0) hk dX6_copy_206 rfl rfl ?_
        refine G_get hk fX6_16 dX6_copy_207 (by assumption) (by rfl) (by first | decide | omega) ?_
        refine G_bipush (v := 60) hk dX6_copy_210 (by decide) ?_
        refine G_iload_n (i := 1) hk dX6_copy_212 rfl rfl ?_
        refine G_imul hk dX6_copy_213 ?_
        rw [show (60 : Int32) * nI a = nI (60 * a) from pk_mul 60 a]
        refine G_iload_n (i := 2) hk dX6_copy_214 rfl rfl ?_
        refine G_iadd hk dX6_copy_215 ?_
        rw [nI_add]
        refine G_iload hk dX6_copy_216 rfl ?_
        refine G_iadd hk dX6_copy_218 ?_
        rw [nI_add, show 60 * a + i0 + q = src + q by omega]
        refine G_ialdX (j := (src + q)) hk dX6_copy_219 (by assumption) rfl (by omega) (by decide) (by first | decide | omega) ?_
        rw [show (if dst ≤ src + q ∧ src + q < dst + q then ce (src + (src + q - dst)) else ce (src + q)) = ce (src + q) from if_neg (by omega)]
        refine G_iastX (j := (dst + q)) hk dX6_copy_220 (by assumption) rfl (by omega) (by decide) (by first | decide | omega) ?_
        refine G_iinc (v := nI (q + 1)) hk dX6_copy_221 rfl (nI_inc q) (by decide) rfl ?_
        refine G_goto (tgt := 166) hk dX6_copy_224 (by decide) ?_
        refine G_lv (by exact And.intro rfl (And.intro rfl (And.intro rfl (And.intro rfl (And.intro rfl (And.intro rfl (And.intro rfl (And.intro rfl (trivial))))))))) (ih (q + 1) _ (by omega) (by omega) ?_ (hfr.tr (frM.up (by omega))))
        have hC2 := hC1.s_ce (upd (fun x => if dst ≤ x ∧ x < dst + q then ce (src + (x - dst)) else ce x) (dst + q) (ce (src + q)))
        have ef : upd (fun x => if dst ≤ x ∧ x < dst + q then ce (src + (x - dst)) else ce x) (dst + q) (ce (src + q)) = (fun x => if dst ≤ x ∧ x < dst + (q + 1) then ce (src + (x - dst)) else ce x) := by
          funext x
          unfold upd
          dsimp only
          by_cases hi : x = dst + q
          · rw [if_pos hi, if_pos (by omega)]
            congr 1
            omega
          · rw [if_neg hi]
            by_cases h7 : dst ≤ x ∧ x < dst + q
            · rw [if_pos h7, if_pos (by omega)]
            · rw [if_neg h7, if_neg (by omega)]
        rw [← ef]
        exact hC2
      · try simp only [gB_ne, gB_eq, Decidable.not_not] at c_175
        first | exact absurd trivial c_175 | exact absurd rfl c_175

set_option maxHeartbeats 4000000 in
set_option maxRecDepth 100000 in
theorem lp_copy_b {l : Launch} {V : gV} {ad : Nat → Nat} {K : gX} (hk : gOk l { frames := 2, cells := 0, slots := 0, locals := 42 } K V cX6_copy 10 RX6 (some .int) yX6_copy.name) (E : Nat → va_E) (fa tr at1 rr dn wo rd : Int32) (n : Nat) (so sl ce pa rz dl ke p2 w2 : Nat → Int32) (a b i0 j0 m src dst : Nat) (ha : a < 4) (hb : b < 4) (hsrc : src = 60 * a + i0) (hdst : dst = 60 * b + j0) (hi0 : i0 + m ≤ 60) (hj0 : j0 + m ≤ 60) (hdir : src < dst ∨ dst + m ≤ src) : ∀ (k q : Nat) (E1 : Nat → va_E), m < q + k → q ≤ m → mC V ad E1 fa tr at1 rr dn wo rd n so sl (fun x => if dst + (m - q) ≤ x ∧ x < dst + m then ce (src + (x - dst)) else ce x) pa rz dl ke p2 w2 → frM E E1 → G K V 10 (gQ K V 44 0 0 (pI ad (fun v E2 => v = nI m ∧ mC V ad E2 fa tr at1 rr dn wo rd n so sl (va_cpy ce ce src dst m) pa rz dl ke p2 w2 ∧ frM E E2))) ad 44 0 0 166 [(0, .ref (ad 34)), (1, .int (nI a)), (2, .int (nI i0)), (3, .int (nI b)), (4, .int (nI j0)), (5, .int (nI m)), (7, .int 1), (8, .int (nI q))] [] E1 := by
  intro k
  induction k with
  | zero => intro q E1 hq; omega
  | succ k ih =>
    intro q E1 hq hqm hC1 hfr
    obtain ⟨m0, g35, g36, g37, g38, g39, g40, g41, g42, g43, m3⟩ := id hC1
    refine G_iload hk dX6_copy_166 rfl ?_
    refine G_iload hk dX6_copy_168 rfl ?_
    refine G_icmp_ge (tgt := 227) hk dX6_copy_170 (by decide) (fun c_170 => ?_) (fun c_170 => ?_)
    · try simp only [gB_ne, gB_eq, Decidable.not_not] at c_170
      have hge : m ≤ q := (nle (by omega) (by omega)).mp c_170
      have hqe : q = m := by omega
      subst hqe
      refine G_iload hk dX6_copy_227 rfl ?_
      refine G_iret hk dX6_copy_229 ?_
      have e : (fun x => if dst + (q - q) ≤ x ∧ x < dst + q then ce (src + (x - dst)) else ce x) = va_cpy ce ce src dst q := by
        funext x
        by_cases h7 : dst ≤ x ∧ x < dst + q
        · rw [pk_cpy_in h7.1 h7.2]; exact if_pos (by omega)
        · rw [pk_cpy_out (by omega)]; exact if_neg (by omega)
      rw [← e]
      exact ⟨rfl, hC1, hfr⟩
    · try simp only [gB_ne, gB_eq, Decidable.not_not] at c_170
      have hlt : q < m := Nat.lt_of_not_le (fun z => c_170 ((nle (by omega) (by omega)).mpr z))
      refine G_iload hk dX6_copy_173 rfl ?_
      refine G_if_eq (tgt := 188) hk dX6_copy_175 (by decide) (fun c_175 => ?_) (fun c_175 => ?_)
      · try simp only [gB_ne, gB_eq, Decidable.not_not] at c_175
        exact absurd c_175 (by decide)
      · try simp only [gB_ne, gB_eq, Decidable.not_not] at c_175
        refine G_iload hk dX6_copy_178 rfl ?_
        refine G_iconst (v := 1) hk dX6_copy_180 (by decide) ?_
        refine G_isub hk dX6_copy_181 ?_
        refine G_iload hk dX6_copy_182 rfl ?_
        refine G_isub hk dX6_copy_184 ?_
        rw [show nI m - 1 - nI q = nI (m - 1 - q) by rw [show nI m - 1 = nI (m - 1) from pk_sub (b := 1) (by omega)]; exact pk_sub (by omega)]
        refine G_goto (tgt := 190) hk dX6_copy_185 (by decide) ?_
        refine G_istore hk dX6_copy_190 (by decide) rfl ?_
        refine G_aload_n (i := 0) hk dX6_copy_192 rfl rfl ?_
        refine G_get hk fX6_16 dX6_copy_193 (by assumption) (by rfl) (by first | decide | omega) ?_
        refine G_bipush (v := 60) hk dX6_copy_196 (by decide) ?_
        refine G_iload_n (i := 3) hk dX6_copy_198 rfl rfl ?_
        refine G_imul hk dX6_copy_199 ?_
        rw [show (60 : Int32) * nI b = nI (60 * b) from pk_mul 60 b]
        refine G_iload hk dX6_copy_200 rfl ?_
        refine G_iadd hk dX6_copy_202 ?_
        rw [nI_add]
        refine G_iload hk dX6_copy_203 rfl ?_
        refine G_iadd hk dX6_copy_205 ?_
        rw [nI_add, show 60 * b + j0 + (m - 1 - q) = dst + (m - 1 - q) by omega]
        refine G_aload_n (i := 0) hk dX6_copy_206 rfl rfl ?_
        refine G_get hk fX6_16 dX6_copy_207 (by assumption) (by rfl) (by first | decide | omega) ?_
        refine G_bipush (v := 60) hk dX6_copy_210 (by decide) ?_
        refine G_iload_n (i := 1) hk dX6_copy_212 rfl rfl ?_
        refine G_imul hk dX6_copy_213 ?_
        rw [show (60 : Int32) * nI a = nI (60 * a) from pk_mul 60 a]
        refine G_iload_n (i := 2) hk dX6_copy_214 rfl rfl ?_
        refine G_iadd hk dX6_copy_215 ?_
        rw [nI_add]
        refine G_iload hk dX6_copy_216 rfl ?_
        refine G_iadd hk dX6_copy_218 ?_
        rw [nI_add, show 60 * a + i0 + (m - 1 - q) = src + (m - 1 - q) by omega]
        refine G_ialdX (j := (src + (m - 1 - q))) hk dX6_copy_219 (by assumption) rfl (by omega) (by decide) (by first | decide | omega) ?_
        rw [show (if dst + (m - q) ≤ src + (m - 1 - q) ∧ src + (m - 1 - q) < dst + m then ce (src + (src + (m - 1 - q) - dst)) else ce (src + (m - 1 - q))) = ce (src + (m - 1 - q)) from if_neg (by omega)]
        refine G_iastX (j := (dst + (m - 1 - q))) hk dX6_copy_220 (by assumption) rfl (by omega) (by decide) (by first | decide | omega) ?_
        refine G_iinc (v := nI (q + 1)) hk dX6_copy_221 rfl (nI_inc q) (by decide) rfl ?_
        refine G_goto (tgt := 166) hk dX6_copy_224 (by decide) ?_
        refine G_lv (by exact And.intro rfl (And.intro rfl (And.intro rfl (And.intro rfl (And.intro rfl (And.intro rfl (And.intro rfl (And.intro rfl (trivial))))))))) (ih (q + 1) _ (by omega) (by omega) ?_ (hfr.tr (frM.up (by omega))))
        have hC2 := hC1.s_ce (upd (fun x => if dst + (m - q) ≤ x ∧ x < dst + m then ce (src + (x - dst)) else ce x) (dst + (m - 1 - q)) (ce (src + (m - 1 - q))))
        have ef : upd (fun x => if dst + (m - q) ≤ x ∧ x < dst + m then ce (src + (x - dst)) else ce x) (dst + (m - 1 - q)) (ce (src + (m - 1 - q))) = (fun x => if dst + (m - (q + 1)) ≤ x ∧ x < dst + m then ce (src + (x - dst)) else ce x) := by
          funext x
          unfold upd
          dsimp only
          by_cases hi : x = dst + (m - 1 - q)
          · rw [if_pos hi, if_pos (by omega)]
            congr 1
            omega
          · rw [if_neg hi]
            by_cases h7 : dst + (m - q) ≤ x ∧ x < dst + m
            · rw [if_pos h7, if_pos (by omega)]
            · rw [if_neg h7, if_neg (by omega)]
        rw [← ef]
        exact hC2

set_option maxHeartbeats 4000000 in
set_option maxRecDepth 100000 in
theorem c_X6_copy (l : Launch) (V : gV) (ad : Nat → Nat) (E : Nat → va_E) (n rd : Nat) (R : Nat → Nat → Int32) (rp rw : Nat → Int32) (tr fa : Int32) (la : Nat → Int32) (sz : Nat → Nat) (cl : Nat → Nat → Int32) (hR : mR V ad E (n, R, rd, rp, rw, tr, fa, la, sz, cl)) (ho0 : sOk n R) (hlo : lOk la) (k i q jj m : Int32) : Ct l V ad 44 44 yX6_copy cX6_copy 10 (some .int) { frames := 2, cells := 0, slots := 0, locals := 42 } [.ref (ad 34), .int k, .int i, .int q, .int jj, .int m] E (pI ad (fun v E2 => v = vCopy la sz k i q jj m ∧ mR V ad E2 (n, R, rd, rp, rw, tr, fCopy la sz k i q jj m, la, sz, cCopy la sz cl k i q jj m) ∧ frM E E2)) := by
  refine gCt mX6_copy (Nat.le_of_ble_eq_true rfl) ?_
  intro K hk
  obtain ⟨at1, rr, dn, wo, so, sl, ce, pa, rz, dl, ke, p2, w2, hC, hrd8, hag, hrd, hso, hsl, hsz⟩ := id hR
  obtain ⟨m0, g35, g36, g37, g38, g39, g40, g41, g42, g43, m3⟩ := id hC
  have hM := hC.k
  have ho : ∀ i, i < n → rOk (pR pa i) := fun i hi => rOk_cw (hag i hi) (ho0 i hi)
  have hn0 : nI n = 0 ↔ n = 0 := neq (b := 0) (by omega) (by omega)
  refine G_aload_n (i := 0) hk dX6_copy_0 rfl rfl ?_
  refine G_iconst (v := 0) hk dX6_copy_1 (by decide) ?_
  refine G_put hk fX6_37 iX6_0 dX6_copy_2 (by assumption) (Nat.le_of_ble_eq_true rfl) (by first | decide | omega) ?_
  refine G_E (E2 := va_up E 34 (mO ad 0 tr (nI n) at1 rr dn wo (nI rd))) rfl ?_
  have hC1 := hC.o (fa2 := 0) (tr2 := tr) (at2 := at1) (rr2 := rr) (dn2 := dn) (wo2 := wo) (rd2 := nI rd) (n2 := n) m3
  have f1 : frM E (va_up E 34 (mO ad 0 tr (nI n) at1 rr dn wo (nI rd))) := frM.up (by omega)
  generalize va_up E 34 (mO ad 0 tr (nI n) at1 rr dn wo (nI rd)) = E1 at hC1 f1 ⊢
  clear m0 g35 g36 g37 g38 g39 g40 g41 g42 g43 hM hC hR
  obtain ⟨m0, g35, g36, g37, g38, g39, g40, g41, g42, g43, m3⟩ := id hC1
  have hM := hC1.k
  have hR1 : mR V ad E1 (n, R, rd, rp, rw, tr, 0, la, sz, cl) := ⟨_, _, _, _, _, _, _, _, _, _, _, _, _, hC1, hrd8, hag, hrd, hso, hsl, hsz⟩
  refine G_iload_n (i := 1) hk dX6_copy_5 rfl rfl ?_
  refine G_cSi hk (c_X6_isSheet l V ad E1 k) mX6_isSheet sX6_isSheet kX6_57 dX6_copy_6 rfl (by decide) (by decide) rfl (Nat.le_of_ble_eq_true rfl) (fun r_6 E_6 h_6 => ?_)
  obtain ⟨rfl, rfl⟩ := h_6
  refine G_if_eq (tgt := 19) hk dX6_copy_9 (by decide) (fun c_9 => ?_) (fun c_9 => ?_)
  · try simp only [gB_ne, gB_eq, Decidable.not_not] at c_9
    refine G_iconst (v := (-1)) hk dX6_copy_19 (by decide) ?_
    refine G_iret hk dX6_copy_20 ?_
    exact ⟨by unfold vCopy; rw [if_neg (fun z => c_9 z.1)], by unfold fCopy cCopy; rw [if_neg (fun z => c_9 z.1), if_neg (fun z => c_9 z.1)]; exact hR1, f1⟩
  · try simp only [gB_ne, gB_eq, Decidable.not_not] at c_9
    refine G_iload_n (i := 3) hk dX6_copy_12 rfl rfl ?_
    refine G_cSi hk (c_X6_isSheet l V ad E1 q) mX6_isSheet sX6_isSheet kX6_57 dX6_copy_13 rfl (by decide) (by decide) rfl (Nat.le_of_ble_eq_true rfl) (fun r_13 E_13 h_13 => ?_)
    obtain ⟨rfl, rfl⟩ := h_13
    refine G_if_ne (tgt := 21) hk dX6_copy_16 (by decide) (fun c_16 => ?_) (fun c_16 => ?_)
    · try simp only [gB_ne, gB_eq, Decidable.not_not] at c_16
      obtain ⟨j, hj, rfl⟩ := gIe (n := 3) c_9.1 c_9.2 (by omega)
      have hixj : ix (nI j) = j := ix_nI (by omega)
      have soj := so_iff hlo (show j < 4 by omega) (hso j (by omega))
      have szjj := hsz j (by omega)
      obtain ⟨t, ht, rfl⟩ := gIe (n := 3) c_16.1 c_16.2 (by omega)
      have hixt : ix (nI t) = t := ix_nI (by omega)
      have sot := so_iff hlo (show t < 4 by omega) (hso t (by omega))
      have szjt := hsz t (by omega)
      have hkq : (0 ≤ nI j ∧ nI j ≤ 3) ∧ (0 ≤ nI t ∧ nI t ≤ 3) := ⟨c_9, c_16⟩
      refine G_aload_n (i := 0) hk dX6_copy_21 rfl rfl ?_
      refine G_get hk fX6_9 dX6_copy_22 (by assumption) (by rfl) (by first | decide | omega) ?_
      refine G_iload_n (i := 1) hk dX6_copy_25 rfl rfl ?_
      refine G_ialdX (j := j) hk dX6_copy_26 (by assumption) rfl (by omega) (by decide) (by first | decide | omega) ?_
      refine G_bipush (v := (-9)) hk dX6_copy_27 (by decide) ?_
      refine G_icmp_eq (tgt := 43) hk dX6_copy_29 (by decide) (fun c_29 => ?_) (fun c_29 => ?_)
      · try simp only [gB_ne, gB_eq, Decidable.not_not] at c_29
        have hnn : la j = -1 ∨ la t = -1 := Or.inl (soj.mp c_29)
        refine G_aload_n (i := 0) hk dX6_copy_43 rfl rfl ?_
        refine G_iconst (v := 1) hk dX6_copy_44 (by decide) ?_
        refine G_cVi hk (c_X6_fails l V ad E1 n rd R rp rw tr 0 la sz cl hR1 ho0 1) mX6_fails vX6_fails kX6_68 dX6_copy_45 (by assumption) (by rfl) (by first | decide | omega) rfl (by decide) (by decide) rfl (Nat.le_of_ble_eq_true rfl) (fun r_45 E_45 h_45 => ?_)
        obtain ⟨rfl, hRf, xf⟩ := h_45
        refine G_iret hk dX6_copy_48 ?_
        exact ⟨by unfold vCopy; rw [hixj, hixt, if_pos hkq, if_pos hnn]; rfl, by unfold fCopy cCopy; rw [hixj, hixt, if_pos hkq, if_pos hkq, if_pos hnn, if_pos hnn]; exact hRf, f1.tr xf⟩
      · try simp only [gB_ne, gB_eq, Decidable.not_not] at c_29
        refine G_aload_n (i := 0) hk dX6_copy_32 rfl rfl ?_
        refine G_get hk fX6_9 dX6_copy_33 (by assumption) (by rfl) (by first | decide | omega) ?_
        refine G_iload_n (i := 3) hk dX6_copy_36 rfl rfl ?_
        refine G_ialdX (j := t) hk dX6_copy_37 (by assumption) rfl (by omega) (by decide) (by first | decide | omega) ?_
        refine G_bipush (v := (-9)) hk dX6_copy_38 (by decide) ?_
        refine G_icmp_ne (tgt := 49) hk dX6_copy_40 (by decide) (fun c_40 => ?_) (fun c_40 => ?_)
        · try simp only [gB_ne, gB_eq, Decidable.not_not] at c_40
          have hlj : ¬ la j = -1 := fun z => c_29 (soj.mpr z)
          have hlt' : ¬ la t = -1 := fun z => c_40 (sot.mpr z)
          have hnn : ¬ (la j = -1 ∨ la t = -1) := fun z => z.elim hlj hlt'
          have solj := so_la (hso j (by omega)) hlj
          have solt := so_la (hso t (by omega)) hlt'
          have slj := (hsl j (by omega) hlj).1
          have slt := (hsl t (by omega) hlt').1
          refine G_aload_n (i := 0) hk dX6_copy_49 rfl rfl ?_
          refine G_get hk fX6_9 dX6_copy_50 (by assumption) (by rfl) (by first | decide | omega) ?_
          refine G_iload_n (i := 1) hk dX6_copy_53 rfl rfl ?_
          refine G_ialdX (j := j) hk dX6_copy_54 (by assumption) rfl (by omega) (by decide) (by first | decide | omega) ?_
          refine G_aload_n (i := 0) hk dX6_copy_55 rfl rfl ?_
          refine G_get hk fX6_9 dX6_copy_56 (by assumption) (by rfl) (by first | decide | omega) ?_
          refine G_iload_n (i := 3) hk dX6_copy_59 rfl rfl ?_
          refine G_ialdX (j := t) hk dX6_copy_60 (by assumption) rfl (by omega) (by decide) (by first | decide | omega) ?_
          refine G_icmp_eq (tgt := 70) hk dX6_copy_61 (by decide) (fun c_61 => ?_) (fun c_61 => ?_)
          · try simp only [gB_ne, gB_eq, Decidable.not_not] at c_61
            have hll : la j = la t := by rw [← solj, ← solt]; exact c_61
            refine G_iload_n (i := 2) hk dX6_copy_70 rfl rfl ?_
            refine G_if_lt (tgt := 109) hk dX6_copy_71 (by decide) (fun c_71 => ?_) (fun c_71 => ?_)
            · try simp only [gB_ne, gB_eq, Decidable.not_not] at c_71
              refine G_iconst (v := 0) hk dX6_copy_109 (by decide) ?_
              refine G_istore hk dX6_copy_110 (by decide) rfl ?_
              refine G_iload hk dX6_copy_112 rfl ?_
              refine G_if_eq (tgt := 144) hk dX6_copy_114 (by decide) (fun c_114 => ?_) (fun c_114 => ?_)
              · try simp only [gB_ne, gB_eq, Decidable.not_not] at c_114
                refine G_aload_n (i := 0) hk dX6_copy_144 rfl rfl ?_
                refine G_iconst (v := 3) hk dX6_copy_145 (by decide) ?_
                refine G_cVi hk (c_X6_fails l V ad E1 n rd R rp rw tr 0 la sz cl hR1 ho0 3) mX6_fails vX6_fails kX6_68 dX6_copy_146 (by assumption) (by rfl) (by first | decide | omega) rfl (by decide) (by decide) rfl (Nat.le_of_ble_eq_true rfl) (fun r_146 E_146 h_146 => ?_)
                obtain ⟨rfl, hRf, xf⟩ := h_146
                refine G_iret hk dX6_copy_149 ?_
                have hno : (sHcD (sz j) i m && sHcD (sz t) jj m) = false := by rw [sHcD_f (m := sz j) (i := i) (n := m) (fun z => absurd z.1 (Int32.not_le.mpr c_71))]; rfl
                exact ⟨by unfold vCopy; rw [hixj, hixt, if_pos hkq, if_neg hnn, if_pos hll, hno]; rfl, by unfold fCopy cCopy; rw [hixj, hixt, if_pos hkq, if_pos hkq, if_neg hnn, if_neg hnn, if_pos hll, if_pos hll, hno]; exact hRf, f1.tr xf⟩
              · try simp only [gB_ne, gB_eq, Decidable.not_not] at c_114
                first | exact absurd trivial c_114 | exact absurd rfl c_114
            · try simp only [gB_ne, gB_eq, Decidable.not_not] at c_71
              refine G_iload hk dX6_copy_74 rfl ?_
              refine G_if_lt (tgt := 109) hk dX6_copy_76 (by decide) (fun c_76 => ?_) (fun c_76 => ?_)
              · try simp only [gB_ne, gB_eq, Decidable.not_not] at c_76
                refine G_iconst (v := 0) hk dX6_copy_109 (by decide) ?_
                refine G_istore hk dX6_copy_110 (by decide) rfl ?_
                refine G_iload hk dX6_copy_112 rfl ?_
                refine G_if_eq (tgt := 144) hk dX6_copy_114 (by decide) (fun c_114 => ?_) (fun c_114 => ?_)
                · try simp only [gB_ne, gB_eq, Decidable.not_not] at c_114
                  refine G_aload_n (i := 0) hk dX6_copy_144 rfl rfl ?_
                  refine G_iconst (v := 3) hk dX6_copy_145 (by decide) ?_
                  refine G_cVi hk (c_X6_fails l V ad E1 n rd R rp rw tr 0 la sz cl hR1 ho0 3) mX6_fails vX6_fails kX6_68 dX6_copy_146 (by assumption) (by rfl) (by first | decide | omega) rfl (by decide) (by decide) rfl (Nat.le_of_ble_eq_true rfl) (fun r_146 E_146 h_146 => ?_)
                  obtain ⟨rfl, hRf, xf⟩ := h_146
                  refine G_iret hk dX6_copy_149 ?_
                  have hno : (sHcD (sz j) i m && sHcD (sz t) jj m) = false := by rw [sHcD_f (m := sz t) (i := jj) (n := m) (fun z => absurd z.1 (Int32.not_le.mpr c_76)), Bool.and_false]
                  exact ⟨by unfold vCopy; rw [hixj, hixt, if_pos hkq, if_neg hnn, if_pos hll, hno]; rfl, by unfold fCopy cCopy; rw [hixj, hixt, if_pos hkq, if_pos hkq, if_neg hnn, if_neg hnn, if_pos hll, if_pos hll, hno]; exact hRf, f1.tr xf⟩
                · try simp only [gB_ne, gB_eq, Decidable.not_not] at c_114
                  first | exact absurd trivial c_114 | exact absurd rfl c_114
              · try simp only [gB_ne, gB_eq, Decidable.not_not] at c_76
                refine G_iload hk dX6_copy_79 rfl ?_
                refine G_if_lt (tgt := 109) hk dX6_copy_81 (by decide) (fun c_81 => ?_) (fun c_81 => ?_)
                · try simp only [gB_ne, gB_eq, Decidable.not_not] at c_81
                  refine G_iconst (v := 0) hk dX6_copy_109 (by decide) ?_
                  refine G_istore hk dX6_copy_110 (by decide) rfl ?_
                  refine G_iload hk dX6_copy_112 rfl ?_
                  refine G_if_eq (tgt := 144) hk dX6_copy_114 (by decide) (fun c_114 => ?_) (fun c_114 => ?_)
                  · try simp only [gB_ne, gB_eq, Decidable.not_not] at c_114
                    refine G_aload_n (i := 0) hk dX6_copy_144 rfl rfl ?_
                    refine G_iconst (v := 3) hk dX6_copy_145 (by decide) ?_
                    refine G_cVi hk (c_X6_fails l V ad E1 n rd R rp rw tr 0 la sz cl hR1 ho0 3) mX6_fails vX6_fails kX6_68 dX6_copy_146 (by assumption) (by rfl) (by first | decide | omega) rfl (by decide) (by decide) rfl (Nat.le_of_ble_eq_true rfl) (fun r_146 E_146 h_146 => ?_)
                    obtain ⟨rfl, hRf, xf⟩ := h_146
                    refine G_iret hk dX6_copy_149 ?_
                    have hno : (sHcD (sz j) i m && sHcD (sz t) jj m) = false := by rw [sHcD_f (m := sz j) (i := i) (n := m) (fun z => absurd z.2.2.1 (Int32.not_le.mpr c_81))]; rfl
                    exact ⟨by unfold vCopy; rw [hixj, hixt, if_pos hkq, if_neg hnn, if_pos hll, hno]; rfl, by unfold fCopy cCopy; rw [hixj, hixt, if_pos hkq, if_pos hkq, if_neg hnn, if_neg hnn, if_pos hll, if_pos hll, hno]; exact hRf, f1.tr xf⟩
                  · try simp only [gB_ne, gB_eq, Decidable.not_not] at c_114
                    first | exact absurd trivial c_114 | exact absurd rfl c_114
                · try simp only [gB_ne, gB_eq, Decidable.not_not] at c_81
                  refine G_iload_n (i := 2) hk dX6_copy_84 rfl rfl ?_
                  refine G_aload_n (i := 0) hk dX6_copy_85 rfl rfl ?_
                  refine G_get hk fX6_13 dX6_copy_86 (by assumption) (by rfl) (by first | decide | omega) ?_
                  refine G_iload_n (i := 1) hk dX6_copy_89 rfl rfl ?_
                  refine G_ialdX (j := j) hk dX6_copy_90 (by assumption) rfl (by omega) (by decide) (by first | decide | omega) ?_
                  rw [slj]
                  refine G_icmp_gt (tgt := 109) hk dX6_copy_91 (by decide) (fun c_91 => ?_) (fun c_91 => ?_)
                  · try simp only [gB_ne, gB_eq, Decidable.not_not] at c_91
                    refine G_iconst (v := 0) hk dX6_copy_109 (by decide) ?_
                    refine G_istore hk dX6_copy_110 (by decide) rfl ?_
                    refine G_iload hk dX6_copy_112 rfl ?_
                    refine G_if_eq (tgt := 144) hk dX6_copy_114 (by decide) (fun c_114 => ?_) (fun c_114 => ?_)
                    · try simp only [gB_ne, gB_eq, Decidable.not_not] at c_114
                      refine G_aload_n (i := 0) hk dX6_copy_144 rfl rfl ?_
                      refine G_iconst (v := 3) hk dX6_copy_145 (by decide) ?_
                      refine G_cVi hk (c_X6_fails l V ad E1 n rd R rp rw tr 0 la sz cl hR1 ho0 3) mX6_fails vX6_fails kX6_68 dX6_copy_146 (by assumption) (by rfl) (by first | decide | omega) rfl (by decide) (by decide) rfl (Nat.le_of_ble_eq_true rfl) (fun r_146 E_146 h_146 => ?_)
                      obtain ⟨rfl, hRf, xf⟩ := h_146
                      refine G_iret hk dX6_copy_149 ?_
                      have hno : (sHcD (sz j) i m && sHcD (sz t) jj m) = false := by rw [sHcD_f (m := sz j) (i := i) (n := m) (fun z => absurd z.2.1 (Int32.not_le.mpr c_91))]; rfl
                      exact ⟨by unfold vCopy; rw [hixj, hixt, if_pos hkq, if_neg hnn, if_pos hll, hno]; rfl, by unfold fCopy cCopy; rw [hixj, hixt, if_pos hkq, if_pos hkq, if_neg hnn, if_neg hnn, if_pos hll, if_pos hll, hno]; exact hRf, f1.tr xf⟩
                    · try simp only [gB_ne, gB_eq, Decidable.not_not] at c_114
                      first | exact absurd trivial c_114 | exact absurd rfl c_114
                  · try simp only [gB_ne, gB_eq, Decidable.not_not] at c_91
                    refine G_iload hk dX6_copy_94 rfl ?_
                    refine G_aload_n (i := 0) hk dX6_copy_96 rfl rfl ?_
                    refine G_get hk fX6_13 dX6_copy_97 (by assumption) (by rfl) (by first | decide | omega) ?_
                    refine G_iload_n (i := 3) hk dX6_copy_100 rfl rfl ?_
                    refine G_ialdX (j := t) hk dX6_copy_101 (by assumption) rfl (by omega) (by decide) (by first | decide | omega) ?_
                    rw [slt]
                    refine G_icmp_gt (tgt := 109) hk dX6_copy_102 (by decide) (fun c_102 => ?_) (fun c_102 => ?_)
                    · try simp only [gB_ne, gB_eq, Decidable.not_not] at c_102
                      refine G_iconst (v := 0) hk dX6_copy_109 (by decide) ?_
                      refine G_istore hk dX6_copy_110 (by decide) rfl ?_
                      refine G_iload hk dX6_copy_112 rfl ?_
                      refine G_if_eq (tgt := 144) hk dX6_copy_114 (by decide) (fun c_114 => ?_) (fun c_114 => ?_)
                      · try simp only [gB_ne, gB_eq, Decidable.not_not] at c_114
                        refine G_aload_n (i := 0) hk dX6_copy_144 rfl rfl ?_
                        refine G_iconst (v := 3) hk dX6_copy_145 (by decide) ?_
                        refine G_cVi hk (c_X6_fails l V ad E1 n rd R rp rw tr 0 la sz cl hR1 ho0 3) mX6_fails vX6_fails kX6_68 dX6_copy_146 (by assumption) (by rfl) (by first | decide | omega) rfl (by decide) (by decide) rfl (Nat.le_of_ble_eq_true rfl) (fun r_146 E_146 h_146 => ?_)
                        obtain ⟨rfl, hRf, xf⟩ := h_146
                        refine G_iret hk dX6_copy_149 ?_
                        have hno : (sHcD (sz j) i m && sHcD (sz t) jj m) = false := by rw [sHcD_f (m := sz t) (i := jj) (n := m) (fun z => absurd z.2.1 (Int32.not_le.mpr c_102)), Bool.and_false]
                        exact ⟨by unfold vCopy; rw [hixj, hixt, if_pos hkq, if_neg hnn, if_pos hll, hno]; rfl, by unfold fCopy cCopy; rw [hixj, hixt, if_pos hkq, if_pos hkq, if_neg hnn, if_neg hnn, if_pos hll, if_pos hll, hno]; exact hRf, f1.tr xf⟩
                      · try simp only [gB_ne, gB_eq, Decidable.not_not] at c_114
                        first | exact absurd trivial c_114 | exact absurd rfl c_114
                    · try simp only [gB_ne, gB_eq, Decidable.not_not] at c_102
                      refine G_iconst (v := 1) hk dX6_copy_105 (by decide) ?_
                      refine G_goto (tgt := 110) hk dX6_copy_106 (by decide) ?_
                      refine G_istore hk dX6_copy_110 (by decide) rfl ?_
                      refine G_iload hk dX6_copy_112 rfl ?_
                      refine G_if_eq (tgt := 144) hk dX6_copy_114 (by decide) (fun c_114 => ?_) (fun c_114 => ?_)
                      · try simp only [gB_ne, gB_eq, Decidable.not_not] at c_114
                        exact absurd c_114 (by decide)
                      · try simp only [gB_ne, gB_eq, Decidable.not_not] at c_114
                        refine G_iload hk dX6_copy_117 rfl ?_
                        refine G_aload_n (i := 0) hk dX6_copy_119 rfl rfl ?_
                        refine G_get hk fX6_13 dX6_copy_120 (by assumption) (by rfl) (by first | decide | omega) ?_
                        refine G_iload_n (i := 1) hk dX6_copy_123 rfl rfl ?_
                        refine G_ialdX (j := j) hk dX6_copy_124 (by assumption) rfl (by omega) (by decide) (by first | decide | omega) ?_
                        refine G_iload_n (i := 2) hk dX6_copy_125 rfl rfl ?_
                        rw [slj]
                        refine G_isub hk dX6_copy_126 ?_
                        refine G_icmp_gt (tgt := 144) hk dX6_copy_127 (by decide) (fun c_127 => ?_) (fun c_127 => ?_)
                        · try simp only [gB_ne, gB_eq, Decidable.not_not] at c_127
                          refine G_aload_n (i := 0) hk dX6_copy_144 rfl rfl ?_
                          refine G_iconst (v := 3) hk dX6_copy_145 (by decide) ?_
                          refine G_cVi hk (c_X6_fails l V ad E1 n rd R rp rw tr 0 la sz cl hR1 ho0 3) mX6_fails vX6_fails kX6_68 dX6_copy_146 (by assumption) (by rfl) (by first | decide | omega) rfl (by decide) (by decide) rfl (Nat.le_of_ble_eq_true rfl) (fun r_146 E_146 h_146 => ?_)
                          obtain ⟨rfl, hRf, xf⟩ := h_146
                          refine G_iret hk dX6_copy_149 ?_
                          have hno : (sHcD (sz j) i m && sHcD (sz t) jj m) = false := by rw [sHcD_f (m := sz j) (i := i) (n := m) (fun z => absurd z.2.2.2 (Int32.not_le.mpr c_127))]; rfl
                          exact ⟨by unfold vCopy; rw [hixj, hixt, if_pos hkq, if_neg hnn, if_pos hll, hno]; rfl, by unfold fCopy cCopy; rw [hixj, hixt, if_pos hkq, if_pos hkq, if_neg hnn, if_neg hnn, if_pos hll, if_pos hll, hno]; exact hRf, f1.tr xf⟩
                        · try simp only [gB_ne, gB_eq, Decidable.not_not] at c_127
                          refine G_iload hk dX6_copy_130 rfl ?_
                          refine G_aload_n (i := 0) hk dX6_copy_132 rfl rfl ?_
                          refine G_get hk fX6_13 dX6_copy_133 (by assumption) (by rfl) (by first | decide | omega) ?_
                          refine G_iload_n (i := 3) hk dX6_copy_136 rfl rfl ?_
                          refine G_ialdX (j := t) hk dX6_copy_137 (by assumption) rfl (by omega) (by decide) (by first | decide | omega) ?_
                          refine G_iload hk dX6_copy_138 rfl ?_
                          rw [slt]
                          refine G_isub hk dX6_copy_140 ?_
                          refine G_icmp_le (tgt := 150) hk dX6_copy_141 (by decide) (fun c_141 => ?_) (fun c_141 => ?_)
                          · try simp only [gB_ne, gB_eq, Decidable.not_not] at c_141
                            have h1 : sHc (sz j) i m := ⟨Int32.not_lt.mp c_71, Int32.not_lt.mp c_91, Int32.not_lt.mp c_81, Int32.not_lt.mp c_127⟩
                            have h2 : sHc (sz t) jj m := ⟨Int32.not_lt.mp c_76, Int32.not_lt.mp c_102, Int32.not_lt.mp c_81, c_141⟩
                            have hyes : (sHcD (sz j) i m && sHcD (sz t) jj m) = true := by rw [sHcD_t h1, sHcD_t h2]; rfl
                            obtain ⟨a1', b1', rfl, rfl, hab1⟩ := sHc_nat szjj h1
                            obtain ⟨a2', b2', rfl, e2', hab2⟩ := sHc_nat szjt h2
                            have hbb : b1' = b2' := (neq (by omega) (by omega)).mp e2'
                            subst hbb
                            have hixa : ix (nI a1') = a1' := ix_nI (by omega)
                            have hixb : ix (nI b1') = b1' := ix_nI (by omega)
                            have hixc : ix (nI a2') = a2' := ix_nI (by omega)
                            refine G_iload_n (i := 2) hk dX6_copy_150 rfl rfl ?_
                            refine G_iload hk dX6_copy_151 rfl ?_
                            refine G_icmp_ge (tgt := 160) hk dX6_copy_153 (by decide) (fun c_153 => ?_) (fun c_153 => ?_)
                            · try simp only [gB_ne, gB_eq, Decidable.not_not] at c_153
                              have hge : a2' ≤ a1' := (nle (by omega) (by omega)).mp c_153
                              refine G_iconst (v := 0) hk dX6_copy_160 (by decide) ?_
                              refine G_istore hk dX6_copy_161 (by decide) rfl ?_
                              refine G_iconst (v := 0) hk dX6_copy_163 (by decide) ?_
                              refine G_istore hk dX6_copy_164 (by decide) rfl ?_
                              have hl := lp_copy_f hk E1 0 tr at1 rr dn wo (nI rd) n so sl ce pa rz dl ke p2 w2 j t a1' a2' b1' (60 * j + a1') (60 * t + a2') (by omega) (by omega) rfl rfl (by omega) (by omega) (cpd1 (by omega) (by omega) hge) (b1' + 1) 0 E1 (by omega) (by omega) (by
                                have e : (fun x => if 60 * t + a2' ≤ x ∧ x < 60 * t + a2' + 0 then ce (60 * j + a1' + (x - (60 * t + a2'))) else ce x) = ce := by
                                  funext x
                                  exact if_neg (by omega)
                                rw [e]
                                exact hC1) frM.rf
                              refine G_lv (by exact And.intro rfl (And.intro rfl (And.intro rfl (And.intro rfl (And.intro rfl (And.intro rfl (And.intro rfl (And.intro rfl (trivial))))))))) (G_post hl ?_)
                              rintro r aa E2 ⟨v, rfl, rfl, rfl, hC2, f4⟩
                              refine ⟨_, rfl, rfl, by unfold vCopy; rw [hixj, hixt, if_pos hkq, if_neg hnn, if_pos hll, hyes]; rfl, ?_, f1.tr f4⟩
                              unfold fCopy cCopy
                              rw [hixj, hixt, hixa, hixb, hixc, if_pos hkq, if_pos hkq, if_neg hnn, if_neg hnn, if_pos hll, if_pos hll, hyes, if_pos rfl, if_pos rfl]
                              refine ⟨_, _, _, _, _, _, _, _, _, _, _, _, _, hC2, hrd8, hag, hrd, hso, fun s hs hl2 => ⟨(hsl s hs hl2).1, fun x hx => ?_⟩, hsz⟩
                              have hsx := hsz s hs
                              have hcj := (hsl j (by omega) hlj).2
                              unfold va_up
                              by_cases hst : s = t
                              · subst hst
                                rw [if_pos rfl]
                                by_cases h7 : a2' ≤ x ∧ x < a2' + b1'
                                · rw [pk_cpy_in (by omega) (by omega), pk_cpy_in h7.1 h7.2, show 60 * j + a1' + (60 * s + x - (60 * s + a2')) = 60 * j + (a1' + (x - a2')) by omega]
                                  exact hcj _ (by omega)
                                · rw [pk_cpy_out (by omega), pk_cpy_out (by omega)]
                                  exact (hsl s hs hl2).2 x hx
                              · rw [if_neg hst, pk_cpy_out (by omega)]
                                exact (hsl s hs hl2).2 x hx
                            · try simp only [gB_ne, gB_eq, Decidable.not_not] at c_153
                              have hlt2 : a1' < a2' := Nat.lt_of_not_le (fun z => c_153 ((nle (by omega) (by omega)).mpr z))
                              refine G_iconst (v := 1) hk dX6_copy_156 (by decide) ?_
                              refine G_goto (tgt := 161) hk dX6_copy_157 (by decide) ?_
                              refine G_istore hk dX6_copy_161 (by decide) rfl ?_
                              refine G_iconst (v := 0) hk dX6_copy_163 (by decide) ?_
                              refine G_istore hk dX6_copy_164 (by decide) rfl ?_
                              have hl := lp_copy_b hk E1 0 tr at1 rr dn wo (nI rd) n so sl ce pa rz dl ke p2 w2 j t a1' a2' b1' (60 * j + a1') (60 * t + a2') (by omega) (by omega) rfl rfl (by omega) (by omega) (cpd2 (by omega) (by omega) hlt2) (b1' + 1) 0 E1 (by omega) (by omega) (by
                                have e : (fun x => if 60 * t + a2' + (b1' - 0) ≤ x ∧ x < 60 * t + a2' + b1' then ce (60 * j + a1' + (x - (60 * t + a2'))) else ce x) = ce := by
                                  funext x
                                  exact if_neg (by omega)
                                rw [e]
                                exact hC1) frM.rf
                              refine G_lv (by exact And.intro rfl (And.intro rfl (And.intro rfl (And.intro rfl (And.intro rfl (And.intro rfl (And.intro rfl (And.intro rfl (trivial))))))))) (G_post hl ?_)
                              rintro r aa E2 ⟨v, rfl, rfl, rfl, hC2, f4⟩
                              refine ⟨_, rfl, rfl, by unfold vCopy; rw [hixj, hixt, if_pos hkq, if_neg hnn, if_pos hll, hyes]; rfl, ?_, f1.tr f4⟩
                              unfold fCopy cCopy
                              rw [hixj, hixt, hixa, hixb, hixc, if_pos hkq, if_pos hkq, if_neg hnn, if_neg hnn, if_pos hll, if_pos hll, hyes, if_pos rfl, if_pos rfl]
                              refine ⟨_, _, _, _, _, _, _, _, _, _, _, _, _, hC2, hrd8, hag, hrd, hso, fun s hs hl2 => ⟨(hsl s hs hl2).1, fun x hx => ?_⟩, hsz⟩
                              have hsx := hsz s hs
                              have hcj := (hsl j (by omega) hlj).2
                              unfold va_up
                              by_cases hst : s = t
                              · subst hst
                                rw [if_pos rfl]
                                by_cases h7 : a2' ≤ x ∧ x < a2' + b1'
                                · rw [pk_cpy_in (by omega) (by omega), pk_cpy_in h7.1 h7.2, show 60 * j + a1' + (60 * s + x - (60 * s + a2')) = 60 * j + (a1' + (x - a2')) by omega]
                                  exact hcj _ (by omega)
                                · rw [pk_cpy_out (by omega), pk_cpy_out (by omega)]
                                  exact (hsl s hs hl2).2 x hx
                              · rw [if_neg hst, pk_cpy_out (by omega)]
                                exact (hsl s hs hl2).2 x hx
                          · try simp only [gB_ne, gB_eq, Decidable.not_not] at c_141
                            refine G_aload_n (i := 0) hk dX6_copy_144 rfl rfl ?_
                            refine G_iconst (v := 3) hk dX6_copy_145 (by decide) ?_
                            refine G_cVi hk (c_X6_fails l V ad E1 n rd R rp rw tr 0 la sz cl hR1 ho0 3) mX6_fails vX6_fails kX6_68 dX6_copy_146 (by assumption) (by rfl) (by first | decide | omega) rfl (by decide) (by decide) rfl (Nat.le_of_ble_eq_true rfl) (fun r_146 E_146 h_146 => ?_)
                            obtain ⟨rfl, hRf, xf⟩ := h_146
                            refine G_iret hk dX6_copy_149 ?_
                            have hno : (sHcD (sz j) i m && sHcD (sz t) jj m) = false := by rw [sHcD_f (m := sz t) (i := jj) (n := m) (fun z => c_141 z.2.2.2), Bool.and_false]
                            exact ⟨by unfold vCopy; rw [hixj, hixt, if_pos hkq, if_neg hnn, if_pos hll, hno]; rfl, by unfold fCopy cCopy; rw [hixj, hixt, if_pos hkq, if_pos hkq, if_neg hnn, if_neg hnn, if_pos hll, if_pos hll, hno]; exact hRf, f1.tr xf⟩
          · try simp only [gB_ne, gB_eq, Decidable.not_not] at c_61
            have hll : ¬ la j = la t := fun z => c_61 (by rw [solj, solt]; exact z)
            refine G_aload_n (i := 0) hk dX6_copy_64 rfl rfl ?_
            refine G_iconst (v := 2) hk dX6_copy_65 (by decide) ?_
            refine G_cVi hk (c_X6_fails l V ad E1 n rd R rp rw tr 0 la sz cl hR1 ho0 2) mX6_fails vX6_fails kX6_68 dX6_copy_66 (by assumption) (by rfl) (by first | decide | omega) rfl (by decide) (by decide) rfl (Nat.le_of_ble_eq_true rfl) (fun r_66 E_66 h_66 => ?_)
            obtain ⟨rfl, hRf, xf⟩ := h_66
            refine G_iret hk dX6_copy_69 ?_
            exact ⟨by unfold vCopy; rw [hixj, hixt, if_pos hkq, if_neg hnn, if_neg hll]; rfl, by unfold fCopy cCopy; rw [hixj, hixt, if_pos hkq, if_pos hkq, if_neg hnn, if_neg hnn, if_neg hll, if_neg hll]; exact hRf, f1.tr xf⟩
        · try simp only [gB_ne, gB_eq, Decidable.not_not] at c_40
          have hnn : la j = -1 ∨ la t = -1 := Or.inr (sot.mp (by first | exact c_40 | exact Decidable.not_not.mp c_40))
          refine G_aload_n (i := 0) hk dX6_copy_43 rfl rfl ?_
          refine G_iconst (v := 1) hk dX6_copy_44 (by decide) ?_
          refine G_cVi hk (c_X6_fails l V ad E1 n rd R rp rw tr 0 la sz cl hR1 ho0 1) mX6_fails vX6_fails kX6_68 dX6_copy_45 (by assumption) (by rfl) (by first | decide | omega) rfl (by decide) (by decide) rfl (Nat.le_of_ble_eq_true rfl) (fun r_45 E_45 h_45 => ?_)
          obtain ⟨rfl, hRf, xf⟩ := h_45
          refine G_iret hk dX6_copy_48 ?_
          exact ⟨by unfold vCopy; rw [hixj, hixt, if_pos hkq, if_pos hnn]; rfl, by unfold fCopy cCopy; rw [hixj, hixt, if_pos hkq, if_pos hkq, if_pos hnn, if_pos hnn]; exact hRf, f1.tr xf⟩
    · try simp only [gB_ne, gB_eq, Decidable.not_not] at c_16
      refine G_iconst (v := (-1)) hk dX6_copy_19 (by decide) ?_
      refine G_iret hk dX6_copy_20 ?_
      exact ⟨by unfold vCopy; rw [if_neg (fun z => c_16 z.2)], by unfold fCopy cCopy; rw [if_neg (fun z => c_16 z.2), if_neg (fun z => c_16 z.2)]; exact hR1, f1⟩
