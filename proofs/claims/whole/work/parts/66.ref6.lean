theorem G_post {K : gX} {V : gV} {nL N c s pc : Nat} {ad : Nat → Nat} {lv : List (Nat × Value)} {st : List Value} {E : Nat → va_E} {N2 c2 s2 : Nat} {post post2 : Option Value → (Nat → Nat) → (Nat → va_E) → Prop} (h : G K V nL (gQ K V N2 c2 s2 post) ad N c s pc lv st E) (hp : ∀ r a E2, post r a E2 → post2 r a E2) : G K V nL (gQ K V N2 c2 s2 post2) ad N c s pc lv st E := by
  intro H locs ls hP hz hS hl T hT X
  obtain ⟨t, a, oc, b1, b2, ⟨⟨r, ad2, E2, e, q, q2, q3⟩, q4⟩, q5⟩ := h H locs ls hP hz hS hl T hT X
  exact ⟨t, a, oc, b1, b2, ⟨⟨r, ad2, E2, e, hp _ _ _ q, q2, q3⟩, q4⟩, q5⟩
theorem i32_two (x : Int32) : x * 2 = x + x := by
  rw [show (2 : Int32) = 1 + 1 by decide, Int32.mul_add, Int32.mul_one]
set_option maxHeartbeats 4000000 in
set_option maxRecDepth 100000 in
theorem lp_X6_insert {l : Launch} {V : gV} {ad : Nat → Nat} {K : gX} (hk : gOk l { frames := 2, cells := 0, slots := 0, locals := 42 } K V cX6_insert 8 RX6 (some .int) yX6_insert.name) (E : Nat → va_E) (fa tr at1 rr dn wo rd : Int32) (n : Nat) (so sl ce pa rz dl ke p2 w2 : Nat → Int32) (j : Nat) (hj : j ≤ n) (hn7 : n < 7) (kd de nu lo hi : Int32) : ∀ (k t : Nat) (E1 : Nat → va_E), t < 5 * j + k → 5 * j ≤ t → t ≤ 5 * n → mC V ad E1 fa tr at1 rr dn wo rd n so sl ce (fun i => if t + 5 ≤ i ∧ i < 5 * n + 5 then pa (i - 5) else pa i) rz dl ke p2 w2 → frM E E1 → G K V 8 (gQ K V 44 0 0 (pI ad (fun v E2 => v = nI (n + 1) ∧ ∃ pan, mC V ad E2 fa tr at1 rr dn wo rd (n + 1) so sl ce pan rz dl ke p2 w2 ∧ (∀ i, i < n + 1 → ∀ q, q < 5 → pR pan i q = sIns (pR pa) j (sQ kd de nu lo hi) i q) ∧ frM E E2))) ad 44 0 0 96 [(0, .ref (ad 34)), (1, .int (nI j)), (2, .int kd), (3, .int de), (4, .int nu), (5, .int lo), (6, .int hi), (7, .int (nI t - 1))] [] E1 := by
  intro k
  induction k with
  | zero => intro t E1 ht; omega
  | succ k ih =>
    intro t E1 ht htj htn hCE1 fE1
    obtain ⟨m0, g35, g36, g37, g38, g39, g40, g41, g42, g43, m3⟩ := id hCE1
    refine G_iload hk dX6_insert_96 rfl ?_
    refine G_iconst (v := 5) hk dX6_insert_98 (by decide) ?_
    refine G_iload_n (i := 1) hk dX6_insert_99 rfl rfl ?_
    refine G_imul hk dX6_insert_100 ?_
    rw [nI_5]
    refine G_icmp_lt (tgt := 126) hk dX6_insert_101 (by decide) (fun c_101 => ?_) (fun c_101 => ?_)
    · try simp only [gB_ne, gB_eq, Decidable.not_not] at c_101
      have hte : t = 5 * j := by
        rcases Nat.eq_or_lt_of_le htj with q | q
        · exact q.symm
        · exfalso
          rw [show nI t - 1 = nI (t - 1) from pk_sub (b := 1) (by omega)] at c_101
          exact absurd ((nlt (by omega) (by omega)).mp c_101) (by omega)
      subst hte
      refine G_aload_n (i := 0) hk dX6_insert_126 rfl rfl ?_
      refine G_get hk fX6_19 dX6_insert_127 (by assumption) (by rfl) (by first | decide | omega) ?_
      refine G_iconst (v := 5) hk dX6_insert_130 (by decide) ?_
      refine G_iload_n (i := 1) hk dX6_insert_131 rfl rfl ?_
      refine G_imul hk dX6_insert_132 ?_
      rw [nI_5]
      refine G_iload_n (i := 2) hk dX6_insert_133 rfl rfl ?_
      refine G_iastX (j := (5 * j)) hk dX6_insert_134 (by assumption) rfl (by omega) (by decide) (by first | decide | omega) ?_
      have hCEa := hCE1.s_pa (upd ((fun i => if 5 * j + 5 ≤ i ∧ i < 5 * n + 5 then pa (i - 5) else pa i)) (5 * j) kd)
      have fEa := fE1.tr (frM.up (E := E1) (k := 38) (c := gI V 35 (upd ((fun i => if 5 * j + 5 ≤ i ∧ i < 5 * n + 5 then pa (i - 5) else pa i)) (5 * j) kd)) (by omega))
      generalize va_up E1 38 (gI V 35 (upd ((fun i => if 5 * j + 5 ≤ i ∧ i < 5 * n + 5 then pa (i - 5) else pa i)) (5 * j) kd)) = Ea at hCEa fEa ⊢
      clear m0 g35 g36 g37 g38 g39 g40 g41 g42 g43
      obtain ⟨m0, g35, g36, g37, g38, g39, g40, g41, g42, g43, m3⟩ := id hCEa
      refine G_aload_n (i := 0) hk dX6_insert_135 rfl rfl ?_
      refine G_get hk fX6_19 dX6_insert_136 (by assumption) (by rfl) (by first | decide | omega) ?_
      refine G_iconst (v := 5) hk dX6_insert_139 (by decide) ?_
      refine G_iload_n (i := 1) hk dX6_insert_140 rfl rfl ?_
      refine G_imul hk dX6_insert_141 ?_
      rw [nI_5]
      refine G_iconst (v := 1) hk dX6_insert_142 (by decide) ?_
      refine G_iadd hk dX6_insert_143 ?_
      refine G_iload_n (i := 3) hk dX6_insert_144 rfl rfl ?_
      refine G_iastX (j := (5 * j + 1)) hk dX6_insert_145 (by assumption) (nI_add _ 1) (by omega) (by decide) (by first | decide | omega) ?_
      have hCEb := hCEa.s_pa (upd (upd ((fun i => if 5 * j + 5 ≤ i ∧ i < 5 * n + 5 then pa (i - 5) else pa i)) (5 * j) kd) (5 * j + 1) de)
      have fEb := fEa.tr (frM.up (E := Ea) (k := 38) (c := gI V 35 (upd (upd ((fun i => if 5 * j + 5 ≤ i ∧ i < 5 * n + 5 then pa (i - 5) else pa i)) (5 * j) kd) (5 * j + 1) de)) (by omega))
      generalize va_up Ea 38 (gI V 35 (upd (upd ((fun i => if 5 * j + 5 ≤ i ∧ i < 5 * n + 5 then pa (i - 5) else pa i)) (5 * j) kd) (5 * j + 1) de)) = Eb at hCEb fEb ⊢
      clear m0 g35 g36 g37 g38 g39 g40 g41 g42 g43
      obtain ⟨m0, g35, g36, g37, g38, g39, g40, g41, g42, g43, m3⟩ := id hCEb
      refine G_aload_n (i := 0) hk dX6_insert_146 rfl rfl ?_
      refine G_get hk fX6_19 dX6_insert_147 (by assumption) (by rfl) (by first | decide | omega) ?_
      refine G_iconst (v := 5) hk dX6_insert_150 (by decide) ?_
      refine G_iload_n (i := 1) hk dX6_insert_151 rfl rfl ?_
      refine G_imul hk dX6_insert_152 ?_
      rw [nI_5]
      refine G_iconst (v := 2) hk dX6_insert_153 (by decide) ?_
      refine G_iadd hk dX6_insert_154 ?_
      refine G_iload hk dX6_insert_155 rfl ?_
      refine G_iastX (j := (5 * j + 2)) hk dX6_insert_157 (by assumption) (nI_add _ 2) (by omega) (by decide) (by first | decide | omega) ?_
      have hCEc := hCEb.s_pa (upd (upd (upd ((fun i => if 5 * j + 5 ≤ i ∧ i < 5 * n + 5 then pa (i - 5) else pa i)) (5 * j) kd) (5 * j + 1) de) (5 * j + 2) nu)
      have fEc := fEb.tr (frM.up (E := Eb) (k := 38) (c := gI V 35 (upd (upd (upd ((fun i => if 5 * j + 5 ≤ i ∧ i < 5 * n + 5 then pa (i - 5) else pa i)) (5 * j) kd) (5 * j + 1) de) (5 * j + 2) nu)) (by omega))
      generalize va_up Eb 38 (gI V 35 (upd (upd (upd ((fun i => if 5 * j + 5 ≤ i ∧ i < 5 * n + 5 then pa (i - 5) else pa i)) (5 * j) kd) (5 * j + 1) de) (5 * j + 2) nu)) = Ec at hCEc fEc ⊢
      clear m0 g35 g36 g37 g38 g39 g40 g41 g42 g43
      obtain ⟨m0, g35, g36, g37, g38, g39, g40, g41, g42, g43, m3⟩ := id hCEc
      refine G_aload_n (i := 0) hk dX6_insert_158 rfl rfl ?_
      refine G_get hk fX6_19 dX6_insert_159 (by assumption) (by rfl) (by first | decide | omega) ?_
      refine G_iconst (v := 5) hk dX6_insert_162 (by decide) ?_
      refine G_iload_n (i := 1) hk dX6_insert_163 rfl rfl ?_
      refine G_imul hk dX6_insert_164 ?_
      rw [nI_5]
      refine G_iconst (v := 3) hk dX6_insert_165 (by decide) ?_
      refine G_iadd hk dX6_insert_166 ?_
      refine G_iload hk dX6_insert_167 rfl ?_
      refine G_iastX (j := (5 * j + 3)) hk dX6_insert_169 (by assumption) (nI_add _ 3) (by omega) (by decide) (by first | decide | omega) ?_
      have hCEd := hCEc.s_pa (upd (upd (upd (upd ((fun i => if 5 * j + 5 ≤ i ∧ i < 5 * n + 5 then pa (i - 5) else pa i)) (5 * j) kd) (5 * j + 1) de) (5 * j + 2) nu) (5 * j + 3) lo)
      have fEd := fEc.tr (frM.up (E := Ec) (k := 38) (c := gI V 35 (upd (upd (upd (upd ((fun i => if 5 * j + 5 ≤ i ∧ i < 5 * n + 5 then pa (i - 5) else pa i)) (5 * j) kd) (5 * j + 1) de) (5 * j + 2) nu) (5 * j + 3) lo)) (by omega))
      generalize va_up Ec 38 (gI V 35 (upd (upd (upd (upd ((fun i => if 5 * j + 5 ≤ i ∧ i < 5 * n + 5 then pa (i - 5) else pa i)) (5 * j) kd) (5 * j + 1) de) (5 * j + 2) nu) (5 * j + 3) lo)) = Ed at hCEd fEd ⊢
      clear m0 g35 g36 g37 g38 g39 g40 g41 g42 g43
      obtain ⟨m0, g35, g36, g37, g38, g39, g40, g41, g42, g43, m3⟩ := id hCEd
      refine G_aload_n (i := 0) hk dX6_insert_170 rfl rfl ?_
      refine G_get hk fX6_19 dX6_insert_171 (by assumption) (by rfl) (by first | decide | omega) ?_
      refine G_iconst (v := 5) hk dX6_insert_174 (by decide) ?_
      refine G_iload_n (i := 1) hk dX6_insert_175 rfl rfl ?_
      refine G_imul hk dX6_insert_176 ?_
      rw [nI_5]
      refine G_iconst (v := 4) hk dX6_insert_177 (by decide) ?_
      refine G_iadd hk dX6_insert_178 ?_
      refine G_iload hk dX6_insert_179 rfl ?_
      refine G_iastX (j := (5 * j + 4)) hk dX6_insert_181 (by assumption) (nI_add _ 4) (by omega) (by decide) (by first | decide | omega) ?_
      have hCEe := hCEd.s_pa (upd (upd (upd (upd (upd ((fun i => if 5 * j + 5 ≤ i ∧ i < 5 * n + 5 then pa (i - 5) else pa i)) (5 * j) kd) (5 * j + 1) de) (5 * j + 2) nu) (5 * j + 3) lo) (5 * j + 4) hi)
      have fEe := fEd.tr (frM.up (E := Ed) (k := 38) (c := gI V 35 (upd (upd (upd (upd (upd ((fun i => if 5 * j + 5 ≤ i ∧ i < 5 * n + 5 then pa (i - 5) else pa i)) (5 * j) kd) (5 * j + 1) de) (5 * j + 2) nu) (5 * j + 3) lo) (5 * j + 4) hi)) (by omega))
      generalize va_up Ed 38 (gI V 35 (upd (upd (upd (upd (upd ((fun i => if 5 * j + 5 ≤ i ∧ i < 5 * n + 5 then pa (i - 5) else pa i)) (5 * j) kd) (5 * j + 1) de) (5 * j + 2) nu) (5 * j + 3) lo) (5 * j + 4) hi)) = Ee at hCEe fEe ⊢
      clear m0 g35 g36 g37 g38 g39 g40 g41 g42 g43
      obtain ⟨m0, g35, g36, g37, g38, g39, g40, g41, g42, g43, m3⟩ := id hCEe
      refine G_aload_n (i := 0) hk dX6_insert_182 rfl rfl ?_
      refine G_dup hk dX6_insert_183 rfl ?_
      refine G_get hk fX6_47 dX6_insert_184 (by assumption) (by rfl) (by first | decide | omega) ?_
      refine G_iconst (v := 1) hk dX6_insert_187 (by decide) ?_
      refine G_iadd hk dX6_insert_188 ?_
      rw [nI_i1]
      refine G_put hk fX6_47 iX6_5 dX6_insert_189 (by assumption) (Nat.le_of_ble_eq_true rfl) (by first | decide | omega) ?_
      refine G_E (E2 := va_up Ee 34 (mO ad fa tr (nI (n + 1)) at1 rr dn wo rd)) rfl ?_
      have hCf := hCEe.o (fa2 := fa) (tr2 := tr) (at2 := at1) (rr2 := rr) (dn2 := dn) (wo2 := wo) (rd2 := rd) (n2 := n + 1) (by omega)
      have ff := fEe.tr (frM.up (E := Ee) (k := 34) (c := mO ad fa tr (nI (n + 1)) at1 rr dn wo rd) (by omega))
      have z0 := hCf.1
      refine G_aload_n (i := 0) hk dX6_insert_192 rfl rfl ?_
      refine G_get hk fX6_47 dX6_insert_193 (by assumption) (by rfl) (by first | decide | omega) ?_
      refine G_iret hk dX6_insert_196 ?_
      refine ⟨rfl, _, hCf, fun i hi q hq => ?_, ff⟩
      unfold pR sIns sQ upd
      dsimp only
      by_cases h7 : i < j
      · rw [if_pos h7, if_neg (by omega), if_neg (by omega), if_neg (by omega), if_neg (by omega), if_neg (by omega), if_neg (by omega)]
      · rw [if_neg h7]
        by_cases h8 : i = j
        · rw [if_pos h8]
          subst h8
          rcases (show q = 0 ∨ q = 1 ∨ q = 2 ∨ q = 3 ∨ q = 4 by omega) with rfl | rfl | rfl | rfl | rfl <;> simp
        · rw [if_neg h8, if_neg (by omega), if_neg (by omega), if_neg (by omega), if_neg (by omega), if_neg (by omega), if_pos (by omega)]
          congr 1
          omega
    · try simp only [gB_ne, gB_eq, Decidable.not_not] at c_101
      have hlt : 5 * j < t := by
        rcases Nat.eq_or_lt_of_le htj with q | q
        · exfalso
          apply c_101
          rw [← q]
          by_cases hz : j = 0
          · rw [hz]; decide
          · rw [show nI (5 * j) - 1 = nI (5 * j - 1) from pk_sub (b := 1) (by omega)]
            exact (nlt (by omega) (by omega)).mpr (by omega)
        · exact q
      have hm1 : nI t - 1 = nI (t - 1) := pk_sub (b := 1) (by omega)
      rw [hm1]
      refine G_aload_n (i := 0) hk dX6_insert_104 rfl rfl ?_
      refine G_get hk fX6_19 dX6_insert_105 (by assumption) (by rfl) (by first | decide | omega) ?_
      refine G_iload hk dX6_insert_108 rfl ?_
      refine G_iconst (v := 5) hk dX6_insert_110 (by decide) ?_
      refine G_iadd hk dX6_insert_111 ?_
      rw [show nI (t - 1) + 5 = nI (t + 4) by rw [show (5 : Int32) = nI 5 from rfl, nI_add]; congr 1; omega]
      refine G_aload_n (i := 0) hk dX6_insert_112 rfl rfl ?_
      refine G_get hk fX6_19 dX6_insert_113 (by assumption) (by rfl) (by first | decide | omega) ?_
      refine G_iload hk dX6_insert_116 rfl ?_
      refine G_ialdX (j := (t - 1)) hk dX6_insert_118 (by assumption) rfl (by omega) (by decide) (by first | decide | omega) ?_
      rw [show (if t + 5 ≤ t - 1 ∧ t - 1 < 5 * n + 5 then pa (t - 1 - 5) else pa (t - 1)) = pa (t - 1) from if_neg (by omega)]
      refine G_iastX (j := (t + 4)) hk dX6_insert_119 (by assumption) rfl (by omega) (by decide) (by first | decide | omega) ?_
      refine G_iinc (v := nI (t - 1) - 1) hk dX6_insert_120 rfl (by rw [Int32.sub_eq_add_neg]; rfl) (by decide) rfl ?_
      refine G_goto (tgt := 96) hk dX6_insert_123 (by decide) ?_
      refine G_lv (by exact And.intro rfl (And.intro rfl (And.intro rfl (And.intro rfl (And.intro rfl (And.intro rfl (And.intro rfl (And.intro rfl (trivial))))))))) (ih (t - 1) _ (by omega) (by omega) (by omega) ?_ (fE1.tr (frM.up (by omega))))
      have hC2 := hCE1.s_pa (upd (fun i => if t + 5 ≤ i ∧ i < 5 * n + 5 then pa (i - 5) else pa i) (t + 4) (pa (t - 1)))
      have ef : upd (fun i => if t + 5 ≤ i ∧ i < 5 * n + 5 then pa (i - 5) else pa i) (t + 4) (pa (t - 1)) = (fun i => if t - 1 + 5 ≤ i ∧ i < 5 * n + 5 then pa (i - 5) else pa i) := by
        funext i
        unfold upd
        dsimp only
        by_cases hi : i = t + 4
        · rw [if_pos hi, if_pos (by omega)]
          congr 1
          omega
        · rw [if_neg hi]
          by_cases h7 : t + 5 ≤ i ∧ i < 5 * n + 5
          · rw [if_pos h7, if_pos (by omega)]
          · rw [if_neg h7, if_neg (by omega)]
      rw [← ef]
      exact hC2

set_option maxHeartbeats 4000000 in
set_option maxRecDepth 100000 in
theorem c_X6_insert (l : Launch) (V : gV) (ad : Nat → Nat) (E : Nat → va_E) (n rd : Nat) (R : Nat → Nat → Int32) (rp rw : Nat → Int32) (tr fa : Int32) (la : Nat → Int32) (sz : Nat → Nat) (cl : Nat → Nat → Int32) (hR : mR V ad E (n, R, rd, rp, rw, tr, fa, la, sz, cl)) (ho0 : sOk n R) (k kd de nu lo hi : Int32) : Ct l V ad 44 44 yX6_insert cX6_insert 8 (some .int) { frames := 2, cells := 0, slots := 0, locals := 42 } [.ref (ad 34), .int k, .int kd, .int de, .int nu, .int lo, .int hi] E (pI ad (fun v E2 => v = vInsert n k kd de nu lo hi ∧ mR V ad E2 (nInsert n k kd de nu lo hi, rInsert n R k kd de nu lo hi, rd, rp, rw, tr, fa, la, sz, cl) ∧ frM E E2)) := by
  refine gCt mX6_insert (Nat.le_of_ble_eq_true rfl) ?_
  intro K hk
  obtain ⟨at1, rr, dn, wo, so, sl, ce, pa, rz, dl, ke, p2, w2, hC, hrd8, hag, hrd, hso, hsl, hsz⟩ := id hR
  obtain ⟨m0, g35, g36, g37, g38, g39, g40, g41, g42, g43, m3⟩ := id hC
  have hM := hC.k
  have ho : ∀ i, i < n → rOk (pR pa i) := fun i hi => rOk_cw (hag i hi) (ho0 i hi)
  have hn0 : nI n = 0 ↔ n = 0 := neq (b := 0) (by omega) (by omega)
  have hn7 : nI n = 7 ↔ n = 7 := neq (b := 7) (by omega) (by omega)
  refine G_aload_n (i := 0) hk dX6_insert_0 rfl rfl ?_
  refine G_get hk fX6_47 dX6_insert_1 (by assumption) (by rfl) (by first | decide | omega) ?_
  refine G_if_ne (tgt := 10) hk dX6_insert_4 (by decide) (fun c_4 => ?_) (fun c_4 => ?_)
  · try simp only [gB_ne, gB_eq, Decidable.not_not] at c_4
    have hn : ¬ n = 0 := fun q => c_4 (hn0.mpr q)
    refine G_iload_n (i := 1) hk dX6_insert_10 rfl rfl ?_
    refine G_iconst (v := 0) hk dX6_insert_11 (by decide) ?_
    refine G_aload_n (i := 0) hk dX6_insert_12 rfl rfl ?_
    refine G_get hk fX6_47 dX6_insert_13 (by assumption) (by rfl) (by first | decide | omega) ?_
    refine G_cSi hk (c_X6_within l V ad E k 0 (nI n)) mX6_within sX6_within kX6_43 dX6_insert_16 rfl (by decide) (by decide) rfl (Nat.le_of_ble_eq_true rfl) (fun r_16 E_16 h_16 => ?_)
    obtain ⟨rfl, rfl⟩ := h_16
    refine G_if_eq (tgt := 71) hk dX6_insert_19 (by decide) (fun c_19 => ?_) (fun c_19 => ?_)
    · try simp only [gB_ne, gB_eq, Decidable.not_not] at c_19
      refine G_bipush (v := (-2)) hk dX6_insert_71 (by decide) ?_
      refine G_iret hk dX6_insert_73 ?_
      exact ⟨by unfold vInsert; rw [if_neg hn, okInsD_f (fun q => c_19 q.1)]; rfl, by unfold nInsert rInsert; rw [if_neg hn, if_neg hn, okInsD_f (fun q => c_19 q.1)]; exact hR, frM.rf⟩
    · try simp only [gB_ne, gB_eq, Decidable.not_not] at c_19
      refine G_iload_n (i := 2) hk dX6_insert_22 rfl rfl ?_
      refine G_iconst (v := 0) hk dX6_insert_23 (by decide) ?_
      refine G_iconst (v := 2) hk dX6_insert_24 (by decide) ?_
      refine G_cSi hk (c_X6_within l V ad E kd 0 2) mX6_within sX6_within kX6_43 dX6_insert_25 rfl (by decide) (by decide) rfl (Nat.le_of_ble_eq_true rfl) (fun r_25 E_25 h_25 => ?_)
      obtain ⟨rfl, rfl⟩ := h_25
      refine G_if_eq (tgt := 71) hk dX6_insert_28 (by decide) (fun c_28 => ?_) (fun c_28 => ?_)
      · try simp only [gB_ne, gB_eq, Decidable.not_not] at c_28
        refine G_bipush (v := (-2)) hk dX6_insert_71 (by decide) ?_
        refine G_iret hk dX6_insert_73 ?_
        exact ⟨by unfold vInsert; rw [if_neg hn, okInsD_f (fun q => c_28 q.2.1)]; rfl, by unfold nInsert rInsert; rw [if_neg hn, if_neg hn, okInsD_f (fun q => c_28 q.2.1)]; exact hR, frM.rf⟩
      · try simp only [gB_ne, gB_eq, Decidable.not_not] at c_28
        refine G_iload_n (i := 3) hk dX6_insert_31 rfl rfl ?_
        refine G_iconst (v := 0) hk dX6_insert_32 (by decide) ?_
        refine G_iconst (v := 2) hk dX6_insert_33 (by decide) ?_
        refine G_cSi hk (c_X6_within l V ad E de 0 2) mX6_within sX6_within kX6_43 dX6_insert_34 rfl (by decide) (by decide) rfl (Nat.le_of_ble_eq_true rfl) (fun r_34 E_34 h_34 => ?_)
        obtain ⟨rfl, rfl⟩ := h_34
        refine G_if_eq (tgt := 71) hk dX6_insert_37 (by decide) (fun c_37 => ?_) (fun c_37 => ?_)
        · try simp only [gB_ne, gB_eq, Decidable.not_not] at c_37
          refine G_bipush (v := (-2)) hk dX6_insert_71 (by decide) ?_
          refine G_iret hk dX6_insert_73 ?_
          exact ⟨by unfold vInsert; rw [if_neg hn, okInsD_f (fun q => c_37 q.2.2.1)]; rfl, by unfold nInsert rInsert; rw [if_neg hn, if_neg hn, okInsD_f (fun q => c_37 q.2.2.1)]; exact hR, frM.rf⟩
        · try simp only [gB_ne, gB_eq, Decidable.not_not] at c_37
          refine G_iload hk dX6_insert_40 rfl ?_
          refine G_iconst (v := 1) hk dX6_insert_42 (by decide) ?_
          refine G_bipush (v := 9) hk dX6_insert_43 (by decide) ?_
          refine G_cSi hk (c_X6_within l V ad E nu 1 9) mX6_within sX6_within kX6_43 dX6_insert_45 rfl (by decide) (by decide) rfl (Nat.le_of_ble_eq_true rfl) (fun r_45 E_45 h_45 => ?_)
          obtain ⟨rfl, rfl⟩ := h_45
          refine G_if_eq (tgt := 71) hk dX6_insert_48 (by decide) (fun c_48 => ?_) (fun c_48 => ?_)
          · try simp only [gB_ne, gB_eq, Decidable.not_not] at c_48
            refine G_bipush (v := (-2)) hk dX6_insert_71 (by decide) ?_
            refine G_iret hk dX6_insert_73 ?_
            exact ⟨by unfold vInsert; rw [if_neg hn, okInsD_f (fun q => c_48 q.2.2.2.1)]; rfl, by unfold nInsert rInsert; rw [if_neg hn, if_neg hn, okInsD_f (fun q => c_48 q.2.2.2.1)]; exact hR, frM.rf⟩
          · try simp only [gB_ne, gB_eq, Decidable.not_not] at c_48
            refine G_iload hk dX6_insert_51 rfl ?_
            refine G_cSi hk (c_X6_isPoint l V ad E lo) mX6_isPoint sX6_isPoint kX6_122 dX6_insert_53 rfl (by decide) (by decide) rfl (Nat.le_of_ble_eq_true rfl) (fun r_53 E_53 h_53 => ?_)
            obtain ⟨rfl, rfl⟩ := h_53
            refine G_if_eq (tgt := 71) hk dX6_insert_56 (by decide) (fun c_56 => ?_) (fun c_56 => ?_)
            · try simp only [gB_ne, gB_eq, Decidable.not_not] at c_56
              refine G_bipush (v := (-2)) hk dX6_insert_71 (by decide) ?_
              refine G_iret hk dX6_insert_73 ?_
              exact ⟨by unfold vInsert; rw [if_neg hn, okInsD_f (fun q => c_56 q.2.2.2.2.1)]; rfl, by unfold nInsert rInsert; rw [if_neg hn, if_neg hn, okInsD_f (fun q => c_56 q.2.2.2.2.1)]; exact hR, frM.rf⟩
            · try simp only [gB_ne, gB_eq, Decidable.not_not] at c_56
              refine G_iload hk dX6_insert_59 rfl ?_
              refine G_iload hk dX6_insert_61 rfl ?_
              refine G_bipush (v := 25) hk dX6_insert_63 (by decide) ?_
              refine G_cSi hk (c_X6_within l V ad E hi lo 25) mX6_within sX6_within kX6_43 dX6_insert_65 rfl (by decide) (by decide) rfl (Nat.le_of_ble_eq_true rfl) (fun r_65 E_65 h_65 => ?_)
              obtain ⟨rfl, rfl⟩ := h_65
              refine G_if_ne (tgt := 74) hk dX6_insert_68 (by decide) (fun c_68 => ?_) (fun c_68 => ?_)
              · try simp only [gB_ne, gB_eq, Decidable.not_not] at c_68
                have hok : okIns n k kd de nu lo hi := ⟨c_19, c_28, c_37, c_48, c_56, c_68⟩
                refine G_aload_n (i := 0) hk dX6_insert_74 rfl rfl ?_
                refine G_get hk fX6_47 dX6_insert_75 (by assumption) (by rfl) (by first | decide | omega) ?_
                refine G_bipush (v := 7) hk dX6_insert_78 (by decide) ?_
                refine G_icmp_ne (tgt := 86) hk dX6_insert_80 (by decide) (fun c_80 => ?_) (fun c_80 => ?_)
                · try simp only [gB_ne, gB_eq, Decidable.not_not] at c_80
                  have h7 : ¬ n = 7 := fun q => c_80 (hn7.mpr q)
                  obtain ⟨j, hj, rfl⟩ := gIe c_19.1 c_19.2 (by omega)
                  have hix : ix (nI j) = j := ix_nI (by omega)
                  unfold vInsert nInsert rInsert
                  rw [if_neg hn, if_neg hn, if_neg hn, okInsD_t hok, if_pos rfl, if_pos rfl, if_pos rfl, if_neg h7, if_neg h7, if_neg h7, hix]
                  refine G_iconst (v := 5) hk dX6_insert_86 (by decide) ?_
                  refine G_aload_n (i := 0) hk dX6_insert_87 rfl rfl ?_
                  refine G_get hk fX6_47 dX6_insert_88 (by assumption) (by rfl) (by first | decide | omega) ?_
                  refine G_imul hk dX6_insert_91 ?_
                  rw [nI_5]
                  refine G_iconst (v := 1) hk dX6_insert_92 (by decide) ?_
                  refine G_isub hk dX6_insert_93 ?_
                  refine G_istore hk dX6_insert_94 (by decide) rfl ?_
                  have hl := lp_X6_insert hk E fa tr at1 rr dn wo (nI rd) n so sl ce pa rz dl ke p2 w2 j hj (by omega) kd de nu lo hi (5 * n + 1) (5 * n) E (by omega) (by omega) (by omega) (by
                    have e : (fun i => if 5 * n + 5 ≤ i ∧ i < 5 * n + 5 then pa (i - 5) else pa i) = pa := by
                      funext i
                      exact if_neg (by omega)
                    rw [e]
                    exact hC) frM.rf
                  refine G_lv (by exact And.intro rfl (And.intro rfl (And.intro rfl (And.intro rfl (And.intro rfl (And.intro rfl (And.intro rfl (And.intro rfl (trivial))))))))) (G_post hl ?_)
                  rintro r a E2 ⟨v, rfl, rfl, rfl, pan, hC2, hag2, f2⟩
                  refine ⟨_, rfl, rfl, rfl, ⟨_, _, _, _, _, _, _, _, _, _, _, _, _, hC2, hrd8, fun i hi q hq => (hag2 i hi q hq).trans ?_, hrd, hso, hsl, hsz⟩, f2⟩
                  unfold sIns
                  by_cases h8 : i < j
                  · rw [if_pos h8, if_pos h8]; exact hag i (by omega) q hq
                  · rw [if_neg h8, if_neg h8]
                    by_cases h9 : i = j
                    · rw [if_pos h9, if_pos h9]
                    · rw [if_neg h9, if_neg h9]; exact hag (i - 1) (by omega) q hq
                · try simp only [gB_ne, gB_eq, Decidable.not_not] at c_80
                  have h7 : n = 7 := hn7.mp (by first | exact c_80 | exact Decidable.not_not.mp c_80)
                  refine G_bipush (v := (-4)) hk dX6_insert_83 (by decide) ?_
                  refine G_iret hk dX6_insert_85 ?_
                  exact ⟨by unfold vInsert; rw [if_neg hn, okInsD_t hok, if_pos rfl, if_pos h7], by unfold nInsert rInsert; rw [if_neg hn, if_neg hn, okInsD_t hok, if_pos rfl, if_pos rfl, if_pos h7, if_pos h7]; exact hR, frM.rf⟩
              · try simp only [gB_ne, gB_eq, Decidable.not_not] at c_68
                refine G_bipush (v := (-2)) hk dX6_insert_71 (by decide) ?_
                refine G_iret hk dX6_insert_73 ?_
                exact ⟨by unfold vInsert; rw [if_neg hn, okInsD_f (fun q => c_68 q.2.2.2.2.2)]; rfl, by unfold nInsert rInsert; rw [if_neg hn, if_neg hn, okInsD_f (fun q => c_68 q.2.2.2.2.2)]; exact hR, frM.rf⟩
  · try simp only [gB_ne, gB_eq, Decidable.not_not] at c_4
    have hn : n = 0 := hn0.mp (by first | exact c_4 | exact Decidable.not_not.mp c_4)
    refine G_bipush (v := (-3)) hk dX6_insert_7 (by decide) ?_
    refine G_iret hk dX6_insert_9 ?_
    exact ⟨by unfold vInsert; rw [if_pos hn], by unfold nInsert rInsert; rw [if_pos hn, if_pos hn]; exact hR, frM.rf⟩

set_option maxHeartbeats 4000000 in
set_option maxRecDepth 100000 in
theorem c_X6_reading (l : Launch) (V : gV) (ad : Nat → Nat) (E : Nat → va_E) (n rd : Nat) (R : Nat → Nat → Int32) (rp rw : Nat → Int32) (tr fa : Int32) (la : Nat → Int32) (sz : Nat → Nat) (cl : Nat → Nat → Int32) (hR : mR V ad E (n, R, rd, rp, rw, tr, fa, la, sz, cl)) (ho0 : sOk n R) (x v : Int32) : Ct l V ad 44 44 yX6_reading cX6_reading 3 (some .int) { frames := 2, cells := 0, slots := 0, locals := 42 } [.ref (ad 34), .int x, .int v] E (pI ad (fun z E2 => z = vReading n rd x v ∧ mR V ad E2 (n, R, dReading n rd x v, pReading n rd x v rp, wReading n rd x v rw, tr, fa, la, sz, cl) ∧ frM E E2)) := by
  refine gCt mX6_reading (Nat.le_of_ble_eq_true rfl) ?_
  intro K hk
  obtain ⟨at1, rr, dn, wo, so, sl, ce, pa, rz, dl, ke, p2, w2, hC, hrd8, hag, hrd, hso, hsl, hsz⟩ := id hR
  obtain ⟨m0, g35, g36, g37, g38, g39, g40, g41, g42, g43, m3⟩ := id hC
  have hM := hC.k
  have ho : ∀ i, i < n → rOk (pR pa i) := fun i hi => rOk_cw (hag i hi) (ho0 i hi)
  have hn0 : nI n = 0 ↔ n = 0 := neq (b := 0) (by omega) (by omega)
  have hr8 : nI rd = 8 ↔ rd = 8 := neq (b := 8) (by omega) (by omega)
  refine G_aload_n (i := 0) hk dX6_reading_0 rfl rfl ?_
  refine G_get hk fX6_47 dX6_reading_1 (by assumption) (by rfl) (by first | decide | omega) ?_
  refine G_if_ne (tgt := 10) hk dX6_reading_4 (by decide) (fun c_4 => ?_) (fun c_4 => ?_)
  · try simp only [gB_ne, gB_eq, Decidable.not_not] at c_4
    have hn : ¬ n = 0 := fun q => c_4 (hn0.mpr q)
    refine G_iload_n (i := 1) hk dX6_reading_10 rfl rfl ?_
    refine G_cSi hk (c_X6_isPoint l V ad E x) mX6_isPoint sX6_isPoint kX6_122 dX6_reading_11 rfl (by decide) (by decide) rfl (Nat.le_of_ble_eq_true rfl) (fun r_11 E_11 h_11 => ?_)
    obtain ⟨rfl, rfl⟩ := h_11
    refine G_if_eq (tgt := 34) hk dX6_reading_14 (by decide) (fun c_14 => ?_) (fun c_14 => ?_)
    · try simp only [gB_ne, gB_eq, Decidable.not_not] at c_14
      refine G_bipush (v := (-2)) hk dX6_reading_34 (by decide) ?_
      refine G_iret hk dX6_reading_36 ?_
      exact ⟨by unfold vReading; rw [if_neg hn, if_neg c_14], by unfold dReading pReading wReading; rw [bReadingD_f (fun q => c_14 q.2.1)]; exact hR, frM.rf⟩
    · try simp only [gB_ne, gB_eq, Decidable.not_not] at c_14
      refine G_iload_n (i := 2) hk dX6_reading_17 rfl rfl ?_
      refine G_bipush (v := (-9)) hk dX6_reading_18 (by decide) ?_
      refine G_icmp_eq (tgt := 37) hk dX6_reading_20 (by decide) (fun c_20 => ?_) (fun c_20 => ?_)
      · try simp only [gB_ne, gB_eq, Decidable.not_not] at c_20
        have hv : (0 ≤ v ∧ v ≤ 200) ∨ v = -9 := Or.inr c_20
        refine G_aload_n (i := 0) hk dX6_reading_37 rfl rfl ?_
        refine G_get hk fX6_80 dX6_reading_38 (by assumption) (by rfl) (by first | decide | omega) ?_
        refine G_bipush (v := 8) hk dX6_reading_41 (by decide) ?_
        refine G_icmp_ne (tgt := 49) hk dX6_reading_43 (by decide) (fun c_43 => ?_) (fun c_43 => ?_)
        · try simp only [gB_ne, gB_eq, Decidable.not_not] at c_43
          have h8 : ¬ rd = 8 := fun q => c_43 (hr8.mpr q)
          refine G_aload_n (i := 0) hk dX6_reading_49 rfl rfl ?_
          refine G_get hk fX6_31 dX6_reading_50 (by assumption) (by rfl) (by first | decide | omega) ?_
          refine G_aload_n (i := 0) hk dX6_reading_53 rfl rfl ?_
          refine G_get hk fX6_80 dX6_reading_54 (by assumption) (by rfl) (by first | decide | omega) ?_
          refine G_iload_n (i := 1) hk dX6_reading_57 rfl rfl ?_
          refine G_iastX (j := rd) hk dX6_reading_58 (by assumption) rfl (by omega) (by decide) (by first | decide | omega) ?_
          have hCa := hC.s_p2 (upd p2 rd x)
          have fa1 : frM E _ := frM.up (E := E) (k := 42) (c := gI V 8 (upd p2 rd x)) (by omega)
          generalize va_up E 42 (gI V 8 (upd p2 rd x)) = Ea at hCa fa1 ⊢
          clear m0 g35 g36 g37 g38 g39 g40 g41 g42 g43
          obtain ⟨m0, g35, g36, g37, g38, g39, g40, g41, g42, g43, m3⟩ := id hCa
          refine G_aload_n (i := 0) hk dX6_reading_59 rfl rfl ?_
          refine G_get hk fX6_34 dX6_reading_60 (by assumption) (by rfl) (by first | decide | omega) ?_
          refine G_aload_n (i := 0) hk dX6_reading_63 rfl rfl ?_
          refine G_get hk fX6_80 dX6_reading_64 (by assumption) (by rfl) (by first | decide | omega) ?_
          refine G_iload_n (i := 2) hk dX6_reading_67 rfl rfl ?_
          refine G_iastX (j := rd) hk dX6_reading_68 (by assumption) rfl (by omega) (by decide) (by first | decide | omega) ?_
          have hCb := hCa.s_w2 (upd w2 rd v)
          have fb1 := fa1.tr (frM.up (E := Ea) (k := 43) (c := gI V 8 (upd w2 rd v)) (by omega))
          generalize va_up Ea 43 (gI V 8 (upd w2 rd v)) = Eb at hCb fb1 ⊢
          clear m0 g35 g36 g37 g38 g39 g40 g41 g42 g43
          obtain ⟨m0, g35, g36, g37, g38, g39, g40, g41, g42, g43, m3⟩ := id hCb
          refine G_aload_n (i := 0) hk dX6_reading_69 rfl rfl ?_
          refine G_dup hk dX6_reading_70 rfl ?_
          refine G_get hk fX6_80 dX6_reading_71 (by assumption) (by rfl) (by first | decide | omega) ?_
          refine G_iconst (v := 1) hk dX6_reading_74 (by decide) ?_
          refine G_iadd hk dX6_reading_75 ?_
          rw [nI_i1]
          refine G_put hk fX6_80 iX6_14 dX6_reading_76 (by assumption) (Nat.le_of_ble_eq_true rfl) (by first | decide | omega) ?_
          refine G_E (E2 := va_up Eb 34 (mO ad fa tr (nI n) at1 rr dn wo (nI (rd + 1)))) rfl ?_
          have hCc := hCb.o (fa2 := fa) (tr2 := tr) (at2 := at1) (rr2 := rr) (dn2 := dn) (wo2 := wo) (rd2 := nI (rd + 1)) (n2 := n) m3
          have fc1 := fb1.tr (frM.up (E := Eb) (k := 34) (c := mO ad fa tr (nI n) at1 rr dn wo (nI (rd + 1))) (by omega))
          have z0 := hCc.1
          refine G_aload_n (i := 0) hk dX6_reading_79 rfl rfl ?_
          refine G_get hk fX6_80 dX6_reading_80 (by assumption) (by rfl) (by first | decide | omega) ?_
          refine G_iconst (v := 1) hk dX6_reading_83 (by decide) ?_
          refine G_isub hk dX6_reading_84 ?_
          rw [nI_pred]
          refine G_iret hk dX6_reading_85 ?_
          have hok : bReading n rd x v := ⟨hn, c_14, hv, h8⟩
          refine ⟨by unfold vReading; rw [if_neg hn, if_pos c_14, if_pos hv, if_neg h8], ?_, fc1⟩
          unfold dReading pReading wReading
          rw [bReadingD_t hok, if_pos rfl, if_pos rfl, if_pos rfl]
          refine ⟨_, _, _, _, _, _, _, _, _, _, _, _, _, hCc, by omega, hag, fun q hq => ?_, hso, hsl, hsz⟩
          unfold upd
          by_cases hq2 : q = rd
          · rw [if_pos hq2, if_pos hq2, if_pos hq2, if_pos hq2]; exact ⟨rfl, rfl⟩
          · rw [if_neg hq2, if_neg hq2, if_neg hq2, if_neg hq2]; exact hrd q (by omega)
        · try simp only [gB_ne, gB_eq, Decidable.not_not] at c_43
          have h8 : rd = 8 := hr8.mp (by first | exact c_43 | exact Decidable.not_not.mp c_43)
          refine G_bipush (v := (-4)) hk dX6_reading_46 (by decide) ?_
          refine G_iret hk dX6_reading_48 ?_
          exact ⟨by unfold vReading; rw [if_neg hn, if_pos c_14, if_pos hv, if_pos h8], by unfold dReading pReading wReading; rw [bReadingD_f (fun q => q.2.2.2 h8)]; exact hR, frM.rf⟩
      · try simp only [gB_ne, gB_eq, Decidable.not_not] at c_20
        refine G_iload_n (i := 2) hk dX6_reading_23 rfl rfl ?_
        refine G_iconst (v := 0) hk dX6_reading_24 (by decide) ?_
        refine G_sipush (v := 200) hk dX6_reading_25 (by decide) ?_
        refine G_cSi hk (c_X6_within l V ad E v 0 200) mX6_within sX6_within kX6_43 dX6_reading_28 rfl (by decide) (by decide) rfl (Nat.le_of_ble_eq_true rfl) (fun r_28 E_28 h_28 => ?_)
        obtain ⟨rfl, rfl⟩ := h_28
        refine G_if_ne (tgt := 37) hk dX6_reading_31 (by decide) (fun c_31 => ?_) (fun c_31 => ?_)
        · try simp only [gB_ne, gB_eq, Decidable.not_not] at c_31
          have hv : (0 ≤ v ∧ v ≤ 200) ∨ v = -9 := Or.inl c_31
          refine G_aload_n (i := 0) hk dX6_reading_37 rfl rfl ?_
          refine G_get hk fX6_80 dX6_reading_38 (by assumption) (by rfl) (by first | decide | omega) ?_
          refine G_bipush (v := 8) hk dX6_reading_41 (by decide) ?_
          refine G_icmp_ne (tgt := 49) hk dX6_reading_43 (by decide) (fun c_43 => ?_) (fun c_43 => ?_)
          · try simp only [gB_ne, gB_eq, Decidable.not_not] at c_43
            have h8 : ¬ rd = 8 := fun q => c_43 (hr8.mpr q)
            refine G_aload_n (i := 0) hk dX6_reading_49 rfl rfl ?_
            refine G_get hk fX6_31 dX6_reading_50 (by assumption) (by rfl) (by first | decide | omega) ?_
            refine G_aload_n (i := 0) hk dX6_reading_53 rfl rfl ?_
            refine G_get hk fX6_80 dX6_reading_54 (by assumption) (by rfl) (by first | decide | omega) ?_
            refine G_iload_n (i := 1) hk dX6_reading_57 rfl rfl ?_
            refine G_iastX (j := rd) hk dX6_reading_58 (by assumption) rfl (by omega) (by decide) (by first | decide | omega) ?_
            have hCa := hC.s_p2 (upd p2 rd x)
            have fa1 : frM E _ := frM.up (E := E) (k := 42) (c := gI V 8 (upd p2 rd x)) (by omega)
            generalize va_up E 42 (gI V 8 (upd p2 rd x)) = Ea at hCa fa1 ⊢
            clear m0 g35 g36 g37 g38 g39 g40 g41 g42 g43
            obtain ⟨m0, g35, g36, g37, g38, g39, g40, g41, g42, g43, m3⟩ := id hCa
            refine G_aload_n (i := 0) hk dX6_reading_59 rfl rfl ?_
            refine G_get hk fX6_34 dX6_reading_60 (by assumption) (by rfl) (by first | decide | omega) ?_
            refine G_aload_n (i := 0) hk dX6_reading_63 rfl rfl ?_
            refine G_get hk fX6_80 dX6_reading_64 (by assumption) (by rfl) (by first | decide | omega) ?_
            refine G_iload_n (i := 2) hk dX6_reading_67 rfl rfl ?_
            refine G_iastX (j := rd) hk dX6_reading_68 (by assumption) rfl (by omega) (by decide) (by first | decide | omega) ?_
            have hCb := hCa.s_w2 (upd w2 rd v)
            have fb1 := fa1.tr (frM.up (E := Ea) (k := 43) (c := gI V 8 (upd w2 rd v)) (by omega))
            generalize va_up Ea 43 (gI V 8 (upd w2 rd v)) = Eb at hCb fb1 ⊢
            clear m0 g35 g36 g37 g38 g39 g40 g41 g42 g43
            obtain ⟨m0, g35, g36, g37, g38, g39, g40, g41, g42, g43, m3⟩ := id hCb
            refine G_aload_n (i := 0) hk dX6_reading_69 rfl rfl ?_
            refine G_dup hk dX6_reading_70 rfl ?_
            refine G_get hk fX6_80 dX6_reading_71 (by assumption) (by rfl) (by first | decide | omega) ?_
            refine G_iconst (v := 1) hk dX6_reading_74 (by decide) ?_
            refine G_iadd hk dX6_reading_75 ?_
            rw [nI_i1]
            refine G_put hk fX6_80 iX6_14 dX6_reading_76 (by assumption) (Nat.le_of_ble_eq_true rfl) (by first | decide | omega) ?_
            refine G_E (E2 := va_up Eb 34 (mO ad fa tr (nI n) at1 rr dn wo (nI (rd + 1)))) rfl ?_
            have hCc := hCb.o (fa2 := fa) (tr2 := tr) (at2 := at1) (rr2 := rr) (dn2 := dn) (wo2 := wo) (rd2 := nI (rd + 1)) (n2 := n) m3
            have fc1 := fb1.tr (frM.up (E := Eb) (k := 34) (c := mO ad fa tr (nI n) at1 rr dn wo (nI (rd + 1))) (by omega))
            have z0 := hCc.1
            refine G_aload_n (i := 0) hk dX6_reading_79 rfl rfl ?_
            refine G_get hk fX6_80 dX6_reading_80 (by assumption) (by rfl) (by first | decide | omega) ?_
            refine G_iconst (v := 1) hk dX6_reading_83 (by decide) ?_
            refine G_isub hk dX6_reading_84 ?_
            rw [nI_pred]
            refine G_iret hk dX6_reading_85 ?_
            have hok : bReading n rd x v := ⟨hn, c_14, hv, h8⟩
            refine ⟨by unfold vReading; rw [if_neg hn, if_pos c_14, if_pos hv, if_neg h8], ?_, fc1⟩
            unfold dReading pReading wReading
            rw [bReadingD_t hok, if_pos rfl, if_pos rfl, if_pos rfl]
            refine ⟨_, _, _, _, _, _, _, _, _, _, _, _, _, hCc, by omega, hag, fun q hq => ?_, hso, hsl, hsz⟩
            unfold upd
            by_cases hq2 : q = rd
            · rw [if_pos hq2, if_pos hq2, if_pos hq2, if_pos hq2]; exact ⟨rfl, rfl⟩
            · rw [if_neg hq2, if_neg hq2, if_neg hq2, if_neg hq2]; exact hrd q (by omega)
          · try simp only [gB_ne, gB_eq, Decidable.not_not] at c_43
            have h8 : rd = 8 := hr8.mp (by first | exact c_43 | exact Decidable.not_not.mp c_43)
            refine G_bipush (v := (-4)) hk dX6_reading_46 (by decide) ?_
            refine G_iret hk dX6_reading_48 ?_
            exact ⟨by unfold vReading; rw [if_neg hn, if_pos c_14, if_pos hv, if_pos h8], by unfold dReading pReading wReading; rw [bReadingD_f (fun q => q.2.2.2 h8)]; exact hR, frM.rf⟩
        · try simp only [gB_ne, gB_eq, Decidable.not_not] at c_31
          have hv : ¬ ((0 ≤ v ∧ v ≤ 200) ∨ v = -9) := fun q => q.elim c_31 c_20
          refine G_bipush (v := (-2)) hk dX6_reading_34 (by decide) ?_
          refine G_iret hk dX6_reading_36 ?_
          exact ⟨by unfold vReading; rw [if_neg hn, if_pos c_14, if_neg hv], by unfold dReading pReading wReading; rw [bReadingD_f (fun q => hv q.2.2.1)]; exact hR, frM.rf⟩
  · try simp only [gB_ne, gB_eq, Decidable.not_not] at c_4
    have hn : n = 0 := hn0.mp (by first | exact c_4 | exact Decidable.not_not.mp c_4)
    refine G_bipush (v := (-3)) hk dX6_reading_7 (by decide) ?_
    refine G_iret hk dX6_reading_9 ?_
    exact ⟨by unfold vReading; rw [if_pos hn], by unfold dReading pReading wReading; rw [bReadingD_f (fun q => q.1 hn)]; exact hR, frM.rf⟩

set_option maxHeartbeats 4000000 in
set_option maxRecDepth 100000 in
theorem c_X6_back (l : Launch) (V : gV) (ad : Nat → Nat) (E : Nat → va_E) (n rd : Nat) (R : Nat → Nat → Int32) (rp rw : Nat → Int32) (tr fa : Int32) (la : Nat → Int32) (sz : Nat → Nat) (cl : Nat → Nat → Int32) (hR : mR V ad E (n, R, rd, rp, rw, tr, fa, la, sz, cl)) (ho0 : sOk n R) (k : Int32) : Ct l V ad 44 44 yX6_back cX6_back 2 (some .int) { frames := 1, cells := 0, slots := 0, locals := 22 } [.ref (ad 34), .int k] E (pI ad (fun z E2 => z = vBack rd k ∧ mR V ad E2 (n, R, dBack rd k, rp, rw, tr, fa, la, sz, cl) ∧ frM E E2)) := by
  refine gCt mX6_back (Nat.le_of_ble_eq_true rfl) ?_
  intro K hk
  obtain ⟨at1, rr, dn, wo, so, sl, ce, pa, rz, dl, ke, p2, w2, hC, hrd8, hag, hrd, hso, hsl, hsz⟩ := id hR
  obtain ⟨m0, g35, g36, g37, g38, g39, g40, g41, g42, g43, m3⟩ := id hC
  have hM := hC.k
  have ho : ∀ i, i < n → rOk (pR pa i) := fun i hi => rOk_cw (hag i hi) (ho0 i hi)
  have hn0 : nI n = 0 ↔ n = 0 := neq (b := 0) (by omega) (by omega)
  refine G_iload_n (i := 1) hk dX6_back_0 rfl rfl ?_
  refine G_iconst (v := 0) hk dX6_back_1 (by decide) ?_
  refine G_aload_n (i := 0) hk dX6_back_2 rfl rfl ?_
  refine G_get hk fX6_80 dX6_back_3 (by assumption) (by rfl) (by first | decide | omega) ?_
  refine G_cSi hk (c_X6_within l V ad E k 0 (nI rd)) mX6_within sX6_within kX6_43 dX6_back_6 rfl (by decide) (by decide) rfl (Nat.le_of_ble_eq_true rfl) (fun r_6 E_6 h_6 => ?_)
  obtain ⟨rfl, rfl⟩ := h_6
  refine G_if_ne (tgt := 15) hk dX6_back_9 (by decide) (fun c_9 => ?_) (fun c_9 => ?_)
  · try simp only [gB_ne, gB_eq, Decidable.not_not] at c_9
    obtain ⟨j, hj, rfl⟩ := gIe c_9.1 c_9.2 (by omega)
    have hix : ix (nI j) = j := ix_nI (by omega)
    refine G_aload_n (i := 0) hk dX6_back_15 rfl rfl ?_
    refine G_dup hk dX6_back_16 rfl ?_
    refine G_get hk fX6_80 dX6_back_17 (by assumption) (by rfl) (by first | decide | omega) ?_
    refine G_iload_n (i := 1) hk dX6_back_20 rfl rfl ?_
    refine G_isub hk dX6_back_21 ?_
    rw [pk_sub hj]
    refine G_put hk fX6_80 iX6_14 dX6_back_22 (by assumption) (Nat.le_of_ble_eq_true rfl) (by first | decide | omega) ?_
    refine G_E (E2 := va_up E 34 (mO ad fa tr (nI n) at1 rr dn wo (nI (rd - j)))) rfl ?_
    have hCc := hC.o (fa2 := fa) (tr2 := tr) (at2 := at1) (rr2 := rr) (dn2 := dn) (wo2 := wo) (rd2 := nI (rd - j)) (n2 := n) m3
    have z0 := hCc.1
    refine G_aload_n (i := 0) hk dX6_back_25 rfl rfl ?_
    refine G_get hk fX6_80 dX6_back_26 (by assumption) (by rfl) (by first | decide | omega) ?_
    refine G_iret hk dX6_back_29 ?_
    exact ⟨by unfold vBack; rw [if_pos c_9, hix], by unfold dBack; rw [if_pos c_9, hix]; exact ⟨_, _, _, _, _, _, _, _, _, _, _, _, _, hCc, by omega, hag, fun q hq => hrd q (by omega), hso, hsl, hsz⟩, frM.up (by omega)⟩
  · try simp only [gB_ne, gB_eq, Decidable.not_not] at c_9
    refine G_bipush (v := (-2)) hk dX6_back_12 (by decide) ?_
    refine G_iret hk dX6_back_14 ?_
    exact ⟨by unfold vBack; rw [if_neg c_9], by unfold dBack; rw [if_neg c_9]; exact hR, frM.rf⟩

set_option maxHeartbeats 4000000 in
set_option maxRecDepth 100000 in
theorem c_X6_tell (l : Launch) (V : gV) (ad : Nat → Nat) (E : Nat → va_E) (n rd : Nat) (R : Nat → Nat → Int32) (rp rw : Nat → Int32) (tr fa : Int32) (la : Nat → Int32) (sz : Nat → Nat) (cl : Nat → Nat → Int32) (hR : mR V ad E (n, R, rd, rp, rw, tr, fa, la, sz, cl)) (ho0 : sOk n R) (r : Int32) : Ct l V ad 44 44 yX6_tell cX6_tell 3 (some .int) { frames := 1, cells := 0, slots := 0, locals := 21 } [.ref (ad 34), .int r] E (pI ad (fun v E2 => v = vTell n R r ∧ mR V ad E2 (n, R, rd, rp, rw, tTell n R r tr, fa, la, sz, cl) ∧ frM E E2)) := by
  refine gCt mX6_tell (Nat.le_of_ble_eq_true rfl) ?_
  intro K hk
  obtain ⟨at1, rr, dn, wo, so, sl, ce, pa, rz, dl, ke, p2, w2, hC, hrd8, hag, hrd, hso, hsl, hsz⟩ := id hR
  obtain ⟨m0, g35, g36, g37, g38, g39, g40, g41, g42, g43, m3⟩ := id hC
  have hM := hC.k
  have ho : ∀ i, i < n → rOk (pR pa i) := fun i hi => rOk_cw (hag i hi) (ho0 i hi)
  have hn0 : nI n = 0 ↔ n = 0 := neq (b := 0) (by omega) (by omega)
  refine G_aload_n (i := 0) hk dX6_tell_0 rfl rfl ?_
  refine G_iload_n (i := 1) hk dX6_tell_1 rfl rfl ?_
  refine G_cVi hk (c_X6_isRule l V ad E fa tr at1 rr (nI rd) n pa dn wo dl hM r) mX6_isRule vX6_isRule kX6_116 dX6_tell_2 (by assumption) (by rfl) (by first | decide | omega) rfl (by decide) (by decide) rfl (Nat.le_of_ble_eq_true rfl) (fun r_2 E_2 h_2 => ?_)
  obtain ⟨rfl, rfl⟩ := h_2
  refine G_if_ne (tgt := 10) hk dX6_tell_5 (by decide) (fun c_5 => ?_) (fun c_5 => ?_)
  · try simp only [gB_ne, gB_eq, Decidable.not_not] at c_5
    obtain ⟨j, hj, rfl⟩ := gIx (Int32.not_lt.mpr c_5.1) c_5.2 (by omega)
    have hix : ix (nI j) = j := ix_nI (by omega)
    have haj := hag j hj
    refine G_aload_n (i := 0) hk dX6_tell_10 rfl rfl ?_
    refine G_iload_n (i := 1) hk dX6_tell_11 rfl rfl ?_
    refine G_cVi hk (c_X6_numberOf l V ad E fa tr at1 rr (nI rd) n pa dn wo dl hM j (by omega)) mX6_numberOf vX6_numberOf kX6_54 dX6_tell_12 (by assumption) (by rfl) (by first | decide | omega) rfl (by decide) (by decide) rfl (Nat.le_of_ble_eq_true rfl) (fun r_12 E_12 h_12 => ?_)
    obtain ⟨rfl, rfl⟩ := h_12
    refine G_istore_n (i := 2) hk dX6_tell_15 rfl (by decide) rfl ?_
    refine G_aload_n (i := 0) hk dX6_tell_16 rfl rfl ?_
    refine G_iload_n (i := 1) hk dX6_tell_17 rfl rfl ?_
    refine G_cVi hk (c_X6_kindOf l V ad E fa tr at1 rr (nI rd) n pa dn wo dl hM j (by omega)) mX6_kindOf vX6_kindOf kX6_50 dX6_tell_18 (by assumption) (by rfl) (by first | decide | omega) rfl (by decide) (by decide) rfl (Nat.le_of_ble_eq_true rfl) (fun r_18 E_18 h_18 => ?_)
    obtain ⟨rfl, rfl⟩ := h_18
    by_cases q21_1 : pR pa j 0 = 1
    · skip
      refine G_lookup (off := 27) (tgt := 48) hk dX6_tell_21 (by decide) (by rw [q21_1]; decide) (by decide) ?_
      refine G_aload_n (i := 0) hk dX6_tell_48 rfl rfl ?_
      refine G_iconst (v := 2) hk dX6_tell_49 (by decide) ?_
      refine G_cVv hk (c_X6_begins l V ad E n rd R rp rw (tr) fa la sz cl hR ho0 2) mX6_begins vX6_begins kX6_182 dX6_tell_50 (by assumption) (by rfl) (by first | decide | omega) rfl (by decide) (by decide) rfl (Nat.le_of_ble_eq_true rfl) (fun E_50 h_50 => ?_)
      obtain ⟨hR50, f50⟩ := h_50
      have z50 := hR50.choose_spec.choose_spec.choose_spec.choose_spec.choose_spec.choose_spec.choose_spec.choose_spec.choose_spec.choose_spec.choose_spec.choose_spec.choose_spec.1.1
      refine G_aload_n (i := 0) hk dX6_tell_53 rfl rfl ?_
      refine G_iconst (v := 1) hk dX6_tell_54 (by decide) ?_
      refine G_cVv hk (c_X6_begins l V ad E_50 n rd R rp rw (31 * tr + 2) fa la sz cl hR50 ho0 1) mX6_begins vX6_begins kX6_182 dX6_tell_55 (by assumption) (by rfl) (by first | decide | omega) rfl (by decide) (by decide) rfl (Nat.le_of_ble_eq_true rfl) (fun E_55 h_55 => ?_)
      obtain ⟨hR55, f55⟩ := h_55
      have z55 := hR55.choose_spec.choose_spec.choose_spec.choose_spec.choose_spec.choose_spec.choose_spec.choose_spec.choose_spec.choose_spec.choose_spec.choose_spec.choose_spec.1.1
      refine G_iload_n (i := 2) hk dX6_tell_58 rfl rfl ?_
      refine G_bipush (v := 100) hk dX6_tell_59 (by decide) ?_
      refine G_iadd hk dX6_tell_61 ?_
      refine G_iret hk dX6_tell_62 ?_
      exact ⟨by unfold vTell; rw [hix, if_pos c_5, ← haj 0 (by omega), ← haj 2 (by omega)]; rw [if_pos q21_1], by unfold tTell; rw [hix, if_pos c_5, ← haj 0 (by omega)]; rw [if_pos q21_1]; exact hR55, f50.tr f55⟩
    · skip
      by_cases q21_2 : pR pa j 0 = 2
      · skip
        refine G_lookup (off := 42) (tgt := 63) hk dX6_tell_21 (by decide) (by rw [q21_2]; decide) (by decide) ?_
        refine G_aload_n (i := 0) hk dX6_tell_63 rfl rfl ?_
        refine G_iconst (v := 3) hk dX6_tell_64 (by decide) ?_
        refine G_cVv hk (c_X6_begins l V ad E n rd R rp rw (tr) fa la sz cl hR ho0 3) mX6_begins vX6_begins kX6_182 dX6_tell_65 (by assumption) (by rfl) (by first | decide | omega) rfl (by decide) (by decide) rfl (Nat.le_of_ble_eq_true rfl) (fun E_65 h_65 => ?_)
        obtain ⟨hR65, f65⟩ := h_65
        have z65 := hR65.choose_spec.choose_spec.choose_spec.choose_spec.choose_spec.choose_spec.choose_spec.choose_spec.choose_spec.choose_spec.choose_spec.choose_spec.choose_spec.1.1
        refine G_aload_n (i := 0) hk dX6_tell_68 rfl rfl ?_
        refine G_iconst (v := 2) hk dX6_tell_69 (by decide) ?_
        refine G_cVv hk (c_X6_begins l V ad E_65 n rd R rp rw (31 * tr + 3) fa la sz cl hR65 ho0 2) mX6_begins vX6_begins kX6_182 dX6_tell_70 (by assumption) (by rfl) (by first | decide | omega) rfl (by decide) (by decide) rfl (Nat.le_of_ble_eq_true rfl) (fun E_70 h_70 => ?_)
        obtain ⟨hR70, f70⟩ := h_70
        have z70 := hR70.choose_spec.choose_spec.choose_spec.choose_spec.choose_spec.choose_spec.choose_spec.choose_spec.choose_spec.choose_spec.choose_spec.choose_spec.choose_spec.1.1
        refine G_aload_n (i := 0) hk dX6_tell_73 rfl rfl ?_
        refine G_iconst (v := 1) hk dX6_tell_74 (by decide) ?_
        refine G_cVv hk (c_X6_begins l V ad E_70 n rd R rp rw (31 * (31 * tr + 3) + 2) fa la sz cl hR70 ho0 1) mX6_begins vX6_begins kX6_182 dX6_tell_75 (by assumption) (by rfl) (by first | decide | omega) rfl (by decide) (by decide) rfl (Nat.le_of_ble_eq_true rfl) (fun E_75 h_75 => ?_)
        obtain ⟨hR75, f75⟩ := h_75
        have z75 := hR75.choose_spec.choose_spec.choose_spec.choose_spec.choose_spec.choose_spec.choose_spec.choose_spec.choose_spec.choose_spec.choose_spec.choose_spec.choose_spec.1.1
        refine G_aload_n (i := 0) hk dX6_tell_78 rfl rfl ?_
        refine G_iconst (v := 1) hk dX6_tell_79 (by decide) ?_
        refine G_cVv hk (c_X6_begins l V ad E_75 n rd R rp rw (31 * (31 * (31 * tr + 3) + 2) + 1) fa la sz cl hR75 ho0 1) mX6_begins vX6_begins kX6_182 dX6_tell_80 (by assumption) (by rfl) (by first | decide | omega) rfl (by decide) (by decide) rfl (Nat.le_of_ble_eq_true rfl) (fun E_80 h_80 => ?_)
        obtain ⟨hR80, f80⟩ := h_80
        have z80 := hR80.choose_spec.choose_spec.choose_spec.choose_spec.choose_spec.choose_spec.choose_spec.choose_spec.choose_spec.choose_spec.choose_spec.choose_spec.choose_spec.1.1
        refine G_iconst (v := 2) hk dX6_tell_83 (by decide) ?_
        refine G_iload_n (i := 2) hk dX6_tell_84 rfl rfl ?_
        refine G_imul hk dX6_tell_85 ?_
        refine G_bipush (v := 100) hk dX6_tell_86 (by decide) ?_
        refine G_iadd hk dX6_tell_88 ?_
        refine G_iret hk dX6_tell_89 ?_
        exact ⟨by unfold vTell; rw [hix, if_pos c_5, ← haj 0 (by omega), ← haj 2 (by omega)]; rw [if_neg q21_1, if_pos q21_2, show (2 : Int32) * pR pa j 2 = pR pa j 2 + pR pa j 2 by rw [Int32.mul_comm]; exact i32_two _, Int32.add_assoc, Int32.add_assoc, Int32.add_comm (pR pa j 2) 100], by unfold tTell; rw [hix, if_pos c_5, ← haj 0 (by omega)]; rw [if_neg q21_1, if_pos q21_2]; exact hR80, f65.tr (f70.tr (f75.tr f80))⟩
      · skip
        refine G_lookup (off := 69) (tgt := 90) hk dX6_tell_21 (by decide) (show Op.lookupswitch.offset [(1, 27), (2, 42)] 69 (Int32.toInt (pR pa j 0)) = 69 by rw [lv_osw (k := 1) q21_1 (by decide), lv_osw (k := 2) q21_2 (by decide)]; rfl) (by decide) ?_
        refine G_aload_n (i := 0) hk dX6_tell_90 rfl rfl ?_
        refine G_iconst (v := 1) hk dX6_tell_91 (by decide) ?_
        refine G_cVv hk (c_X6_begins l V ad E n rd R rp rw (tr) fa la sz cl hR ho0 1) mX6_begins vX6_begins kX6_182 dX6_tell_92 (by assumption) (by rfl) (by first | decide | omega) rfl (by decide) (by decide) rfl (Nat.le_of_ble_eq_true rfl) (fun E_92 h_92 => ?_)
        obtain ⟨hR92, f92⟩ := h_92
        have z92 := hR92.choose_spec.choose_spec.choose_spec.choose_spec.choose_spec.choose_spec.choose_spec.choose_spec.choose_spec.choose_spec.choose_spec.choose_spec.choose_spec.1.1
        refine G_iload_n (i := 2) hk dX6_tell_95 rfl rfl ?_
        refine G_iret hk dX6_tell_96 ?_
        exact ⟨by unfold vTell; rw [hix, if_pos c_5, ← haj 0 (by omega), ← haj 2 (by omega)]; rw [if_neg q21_1, if_neg q21_2], by unfold tTell; rw [hix, if_pos c_5, ← haj 0 (by omega)]; rw [if_neg q21_1, if_neg q21_2]; exact hR92, f92⟩
  · try simp only [gB_ne, gB_eq, Decidable.not_not] at c_5
    refine G_iconst (v := (-1)) hk dX6_tell_8 (by decide) ?_
    refine G_iret hk dX6_tell_9 ?_
    exact ⟨by unfold vTell; rw [if_neg c_5], by unfold tTell; rw [if_neg c_5]; exact hR, frM.rf⟩

set_option maxHeartbeats 4000000 in
set_option maxRecDepth 100000 in
theorem c_X6_cite (l : Launch) (V : gV) (ad : Nat → Nat) (E : Nat → va_E) (n rd : Nat) (R : Nat → Nat → Int32) (rp rw : Nat → Int32) (tr fa : Int32) (la : Nat → Int32) (sz : Nat → Nat) (cl : Nat → Nat → Int32) (hR : mR V ad E (n, R, rd, rp, rw, tr, fa, la, sz, cl)) (ho0 : sOk n R) (r : Int32) : Ct l V ad 44 44 yX6_cite cX6_cite 2 (some .int) { frames := 1, cells := 0, slots := 0, locals := 21 } [.ref (ad 34), .int r] E (pI ad (fun v E2 => v = vCite n R r ∧ mR V ad E2 (n, R, rd, rp, rw, tCite n R r tr, fa, la, sz, cl) ∧ frM E E2)) := by
  refine gCt mX6_cite (Nat.le_of_ble_eq_true rfl) ?_
  intro K hk
  obtain ⟨at1, rr, dn, wo, so, sl, ce, pa, rz, dl, ke, p2, w2, hC, hrd8, hag, hrd, hso, hsl, hsz⟩ := id hR
  obtain ⟨m0, g35, g36, g37, g38, g39, g40, g41, g42, g43, m3⟩ := id hC
  have hM := hC.k
  have ho : ∀ i, i < n → rOk (pR pa i) := fun i hi => rOk_cw (hag i hi) (ho0 i hi)
  have hn0 : nI n = 0 ↔ n = 0 := neq (b := 0) (by omega) (by omega)
  refine G_aload_n (i := 0) hk dX6_cite_0 rfl rfl ?_
  refine G_iload_n (i := 1) hk dX6_cite_1 rfl rfl ?_
  refine G_cVi hk (c_X6_isRule l V ad E fa tr at1 rr (nI rd) n pa dn wo dl hM r) mX6_isRule vX6_isRule kX6_116 dX6_cite_2 (by assumption) (by rfl) (by first | decide | omega) rfl (by decide) (by decide) rfl (Nat.le_of_ble_eq_true rfl) (fun r_2 E_2 h_2 => ?_)
  obtain ⟨rfl, rfl⟩ := h_2
  refine G_if_ne (tgt := 10) hk dX6_cite_5 (by decide) (fun c_5 => ?_) (fun c_5 => ?_)
  · try simp only [gB_ne, gB_eq, Decidable.not_not] at c_5
    obtain ⟨j, hj, rfl⟩ := gIx (Int32.not_lt.mpr c_5.1) c_5.2 (by omega)
    have hix : ix (nI j) = j := ix_nI (by omega)
    have haj := hag j hj
    refine G_aload_n (i := 0) hk dX6_cite_10 rfl rfl ?_
    refine G_aload_n (i := 0) hk dX6_cite_11 rfl rfl ?_
    refine G_iload_n (i := 1) hk dX6_cite_12 rfl rfl ?_
    refine G_cVi hk (c_X6_kindOf l V ad E fa tr at1 rr (nI rd) n pa dn wo dl hM j (by omega)) mX6_kindOf vX6_kindOf kX6_50 dX6_cite_13 (by assumption) (by rfl) (by first | decide | omega) rfl (by decide) (by decide) rfl (Nat.le_of_ble_eq_true rfl) (fun r_13 E_13 h_13 => ?_)
    obtain ⟨rfl, rfl⟩ := h_13
    refine G_iconst (v := 2) hk dX6_cite_16 (by decide) ?_
    refine G_icmp_ne (tgt := 24) hk dX6_cite_17 (by decide) (fun c_17 => ?_) (fun c_17 => ?_)
    · try simp only [gB_ne, gB_eq, Decidable.not_not] at c_17
      refine G_iconst (v := 4) hk dX6_cite_24 (by decide) ?_
      refine G_cVv hk (c_X6_begins l V ad E n rd R rp rw (tr) fa la sz cl hR ho0 4) mX6_begins vX6_begins kX6_182 dX6_cite_25 (by assumption) (by rfl) (by first | decide | omega) rfl (by decide) (by decide) rfl (Nat.le_of_ble_eq_true rfl) (fun E_25 h_25 => ?_)
      obtain ⟨hR25, f25⟩ := h_25
      obtain ⟨at1b, rrb, dnb, wob, sob, slb, ceb, pab, rzb, dlb, keb, p2b, w2b, hCb, -, hagb, -⟩ := id hR25
      obtain ⟨z0, -, -, -, z38, -, -, -, -, -, -⟩ := id hCb
      have hajb := hagb j hj
      refine G_aload_n (i := 0) hk dX6_cite_28 rfl rfl ?_
      refine G_iload_n (i := 1) hk dX6_cite_29 rfl rfl ?_
      refine G_cVi hk (c_X6_kindOf l V ad E_25 fa _ at1b rrb (nI rd) n pab dnb wob dlb hCb.k j (by omega)) mX6_kindOf vX6_kindOf kX6_50 dX6_cite_30 (by assumption) (by rfl) (by first | decide | omega) rfl (by decide) (by decide) rfl (Nat.le_of_ble_eq_true rfl) (fun r_30 E_30 h_30 => ?_)
      obtain ⟨rfl, rfl⟩ := h_30
      refine G_iconst (v := 2) hk dX6_cite_33 (by decide) ?_
      have e0 : pR pab j 0 = pR pa j 0 := (hajb 0 (by omega)).trans (haj 0 (by omega)).symm
      refine G_icmp_ne (tgt := 42) hk dX6_cite_34 (by decide) (fun c_34 => ?_) (fun c_34 => ?_)
      · try simp only [gB_ne, gB_eq, Decidable.not_not] at c_34
        refine G_aload_n (i := 0) hk dX6_cite_42 rfl rfl ?_
        refine G_get hk fX6_19 dX6_cite_43 (by assumption) (by rfl) (by first | decide | omega) ?_
        refine G_iconst (v := 5) hk dX6_cite_46 (by decide) ?_
        refine G_iload_n (i := 1) hk dX6_cite_47 rfl rfl ?_
        refine G_imul hk dX6_cite_48 ?_
        rw [nI_5]
        refine G_iconst (v := 3) hk dX6_cite_49 (by decide) ?_
        refine G_iadd hk dX6_cite_50 ?_
        refine G_ialdX (j := (5 * j + 3)) hk dX6_cite_51 (by assumption) (nI_add _ 3) (by omega) (by decide) (by first | decide | omega) ?_
        refine G_iret hk dX6_cite_52 ?_
        exact ⟨by unfold vCite; rw [hix, if_pos c_5, ← haj 0 (by omega), if_neg c_17]; exact hajb 3 (by omega), by unfold tCite; rw [hix, if_pos c_5, ← haj 0 (by omega), if_neg c_17]; exact hR25, f25⟩
      · try simp only [gB_ne, gB_eq, Decidable.not_not] at c_34
        exact absurd (e0.symm.trans (by first | exact c_34 | exact Decidable.not_not.mp c_34)) c_17
    · try simp only [gB_ne, gB_eq, Decidable.not_not] at c_17
      refine G_iconst (v := 5) hk dX6_cite_20 (by decide) ?_
      refine G_goto (tgt := 25) hk dX6_cite_21 (by decide) ?_
      refine G_cVv hk (c_X6_begins l V ad E n rd R rp rw (tr) fa la sz cl hR ho0 5) mX6_begins vX6_begins kX6_182 dX6_cite_25 (by assumption) (by rfl) (by first | decide | omega) rfl (by decide) (by decide) rfl (Nat.le_of_ble_eq_true rfl) (fun E_25 h_25 => ?_)
      obtain ⟨hR25, f25⟩ := h_25
      obtain ⟨at1b, rrb, dnb, wob, sob, slb, ceb, pab, rzb, dlb, keb, p2b, w2b, hCb, -, hagb, -⟩ := id hR25
      obtain ⟨z0, -, -, -, z38, -, -, -, -, -, -⟩ := id hCb
      have hajb := hagb j hj
      refine G_aload_n (i := 0) hk dX6_cite_28 rfl rfl ?_
      refine G_iload_n (i := 1) hk dX6_cite_29 rfl rfl ?_
      refine G_cVi hk (c_X6_kindOf l V ad E_25 fa _ at1b rrb (nI rd) n pab dnb wob dlb hCb.k j (by omega)) mX6_kindOf vX6_kindOf kX6_50 dX6_cite_30 (by assumption) (by rfl) (by first | decide | omega) rfl (by decide) (by decide) rfl (Nat.le_of_ble_eq_true rfl) (fun r_30 E_30 h_30 => ?_)
      obtain ⟨rfl, rfl⟩ := h_30
      refine G_iconst (v := 2) hk dX6_cite_33 (by decide) ?_
      have e0 : pR pab j 0 = pR pa j 0 := (hajb 0 (by omega)).trans (haj 0 (by omega)).symm
      refine G_icmp_ne (tgt := 42) hk dX6_cite_34 (by decide) (fun c_34 => ?_) (fun c_34 => ?_)
      · try simp only [gB_ne, gB_eq, Decidable.not_not] at c_34
        exact absurd (e0.trans (by first | exact c_17 | exact Decidable.not_not.mp c_17)) c_34
      · try simp only [gB_ne, gB_eq, Decidable.not_not] at c_34
        refine G_bipush (v := 60) hk dX6_cite_37 (by decide) ?_
        refine G_goto (tgt := 52) hk dX6_cite_39 (by decide) ?_
        refine G_iret hk dX6_cite_52 ?_
        exact ⟨by unfold vCite; rw [hix, if_pos c_5, ← haj 0 (by omega), if_pos (by first | exact c_17 | exact Decidable.not_not.mp c_17)], by unfold tCite; rw [hix, if_pos c_5, ← haj 0 (by omega), if_pos (by first | exact c_17 | exact Decidable.not_not.mp c_17)]; exact hR25, f25⟩
  · try simp only [gB_ne, gB_eq, Decidable.not_not] at c_5
    refine G_iconst (v := (-1)) hk dX6_cite_8 (by decide) ?_
    refine G_iret hk dX6_cite_9 ?_
    exact ⟨by unfold vCite; rw [if_neg c_5], by unfold tCite; rw [if_neg c_5]; exact hR, frM.rf⟩

set_option maxHeartbeats 4000000 in
set_option maxRecDepth 100000 in
theorem c_X6_as (l : Launch) (V : gV) (ad : Nat → Nat) (E : Nat → va_E) (n rd : Nat) (R : Nat → Nat → Int32) (rp rw : Nat → Int32) (tr fa : Int32) (la : Nat → Int32) (sz : Nat → Nat) (cl : Nat → Nat → Int32) (hR : mR V ad E (n, R, rd, rp, rw, tr, fa, la, sz, cl)) (ho0 : sOk n R) (r k : Int32) : Ct l V ad 44 44 yX6_as cX6_as 3 (some .int) { frames := 1, cells := 0, slots := 0, locals := 22 } [.ref (ad 34), .int r, .int k] E (pI ad (fun v E2 => v = vAs n R r k ∧ mR V ad E2 (n, R, rd, rp, rw, tr, fAs n R r k, la, sz, cl) ∧ frM E E2)) := by
  refine gCt mX6_as (Nat.le_of_ble_eq_true rfl) ?_
  intro K hk
  obtain ⟨at1, rr, dn, wo, so, sl, ce, pa, rz, dl, ke, p2, w2, hC, hrd8, hag, hrd, hso, hsl, hsz⟩ := id hR
  obtain ⟨m0, g35, g36, g37, g38, g39, g40, g41, g42, g43, m3⟩ := id hC
  have hM := hC.k
  have ho : ∀ i, i < n → rOk (pR pa i) := fun i hi => rOk_cw (hag i hi) (ho0 i hi)
  have hn0 : nI n = 0 ↔ n = 0 := neq (b := 0) (by omega) (by omega)
  refine G_aload_n (i := 0) hk dX6_as_0 rfl rfl ?_
  refine G_iconst (v := 0) hk dX6_as_1 (by decide) ?_
  refine G_put hk fX6_37 iX6_0 dX6_as_2 (by assumption) (Nat.le_of_ble_eq_true rfl) (by first | decide | omega) ?_
  refine G_E (E2 := va_up E 34 (mO ad 0 tr (nI n) at1 rr dn wo (nI rd))) rfl ?_
  have hC1 := hC.o (fa2 := 0) (tr2 := tr) (at2 := at1) (rr2 := rr) (dn2 := dn) (wo2 := wo) (rd2 := nI rd) (n2 := n) m3
  have f1 : frM E (va_up E 34 (mO ad 0 tr (nI n) at1 rr dn wo (nI rd))) := frM.up (by omega)
  generalize va_up E 34 (mO ad 0 tr (nI n) at1 rr dn wo (nI rd)) = E1 at hC1 f1 ⊢
  clear m0 g35 g36 g37 g38 g39 g40 g41 g42 g43 hM hC hR
  obtain ⟨m0, g35, g36, g37, g38, g39, g40, g41, g42, g43, m3⟩ := id hC1
  have hM := hC1.k
  have hR1 : mR V ad E1 (n, R, rd, rp, rw, tr, 0, la, sz, cl) := ⟨_, _, _, _, _, _, _, _, _, _, _, _, _, hC1, hrd8, hag, hrd, hso, hsl, hsz⟩
  refine G_aload_n (i := 0) hk dX6_as_5 rfl rfl ?_
  refine G_iload_n (i := 1) hk dX6_as_6 rfl rfl ?_
  refine G_cVi hk (c_X6_isRule l V ad E1 0 tr at1 rr (nI rd) n pa dn wo dl hM r) mX6_isRule vX6_isRule kX6_116 dX6_as_7 (by assumption) (by rfl) (by first | decide | omega) rfl (by decide) (by decide) rfl (Nat.le_of_ble_eq_true rfl) (fun r_7 E_7 h_7 => ?_)
  obtain ⟨rfl, rfl⟩ := h_7
  refine G_if_ne (tgt := 15) hk dX6_as_10 (by decide) (fun c_10 => ?_) (fun c_10 => ?_)
  · try simp only [gB_ne, gB_eq, Decidable.not_not] at c_10
    obtain ⟨j, hj, rfl⟩ := gIx (Int32.not_lt.mpr c_10.1) c_10.2 (by omega)
    have hix : ix (nI j) = j := ix_nI (by omega)
    have haj := hag j hj
    refine G_iload_n (i := 2) hk dX6_as_15 rfl rfl ?_
    refine G_iconst (v := 0) hk dX6_as_16 (by decide) ?_
    refine G_iconst (v := 2) hk dX6_as_17 (by decide) ?_
    refine G_cSi hk (c_X6_within l V ad E1 k 0 2) mX6_within sX6_within kX6_43 dX6_as_18 rfl (by decide) (by decide) rfl (Nat.le_of_ble_eq_true rfl) (fun r_18 E_18 h_18 => ?_)
    obtain ⟨rfl, rfl⟩ := h_18
    refine G_if_ne (tgt := 27) hk dX6_as_21 (by decide) (fun c_21 => ?_) (fun c_21 => ?_)
    · try simp only [gB_ne, gB_eq, Decidable.not_not] at c_21
      refine G_aload_n (i := 0) hk dX6_as_27 rfl rfl ?_
      refine G_iload_n (i := 1) hk dX6_as_28 rfl rfl ?_
      refine G_cVi hk (c_X6_kindOf l V ad E1 0 tr at1 rr (nI rd) n pa dn wo dl hM j (by omega)) mX6_kindOf vX6_kindOf kX6_50 dX6_as_29 (by assumption) (by rfl) (by first | decide | omega) rfl (by decide) (by decide) rfl (Nat.le_of_ble_eq_true rfl) (fun r_29 E_29 h_29 => ?_)
      obtain ⟨rfl, rfl⟩ := h_29
      refine G_iload_n (i := 2) hk dX6_as_32 rfl rfl ?_
      refine G_icmp_lt (tgt := 40) hk dX6_as_33 (by decide) (fun c_33 => ?_) (fun c_33 => ?_)
      · try simp only [gB_ne, gB_eq, Decidable.not_not] at c_33
        have hk2 : ¬ k ≤ R j 0 := by rw [← haj 0 (by omega)]; exact Int32.not_le.mpr c_33
        refine G_aload_n (i := 0) hk dX6_as_40 rfl rfl ?_
        refine G_iconst (v := 2) hk dX6_as_41 (by decide) ?_
        refine G_cVi hk (c_X6_fails l V ad E1 n rd R rp rw tr 0 la sz cl hR1 ho0 2) mX6_fails vX6_fails kX6_68 dX6_as_42 (by assumption) (by rfl) (by first | decide | omega) rfl (by decide) (by decide) rfl (Nat.le_of_ble_eq_true rfl) (fun r_42 E_42 h_42 => ?_)
        obtain ⟨rfl, hRf, xf⟩ := h_42
        refine G_iret hk dX6_as_45 ?_
        exact ⟨by unfold vAs; rw [hix, if_pos c_10, if_pos c_21, if_neg hk2]; rfl, by unfold fAs; rw [hix, if_pos c_10, if_pos c_21, if_neg hk2]; exact hRf, f1.tr xf⟩
      · try simp only [gB_ne, gB_eq, Decidable.not_not] at c_33
        have hk2 : k ≤ R j 0 := by rw [← haj 0 (by omega)]; exact Int32.not_lt.mp c_33
        refine G_iconst (v := 1) hk dX6_as_36 (by decide) ?_
        refine G_goto (tgt := 45) hk dX6_as_37 (by decide) ?_
        refine G_iret hk dX6_as_45 ?_
        exact ⟨by unfold vAs; rw [hix, if_pos c_10, if_pos c_21, if_pos hk2], by unfold fAs; rw [hix, if_pos c_10, if_pos c_21, if_pos hk2]; exact hR1, f1⟩
    · try simp only [gB_ne, gB_eq, Decidable.not_not] at c_21
      refine G_bipush (v := (-2)) hk dX6_as_24 (by decide) ?_
      refine G_iret hk dX6_as_26 ?_
      exact ⟨by unfold vAs; rw [if_pos c_10, if_neg c_21], by unfold fAs; rw [if_pos c_10, if_neg c_21]; exact hR1, f1⟩
  · try simp only [gB_ne, gB_eq, Decidable.not_not] at c_10
    refine G_iconst (v := (-1)) hk dX6_as_13 (by decide) ?_
    refine G_iret hk dX6_as_14 ?_
    exact ⟨by unfold vAs; rw [if_neg c_10], by unfold fAs; rw [if_neg c_10]; exact hR1, f1⟩
