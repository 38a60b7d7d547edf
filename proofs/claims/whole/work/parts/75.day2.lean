set_option maxHeartbeats 4000000 in
set_option maxRecDepth 100000 in
theorem l1_day {l : Launch} {V : gV} {ad : Nat → Nat} {K : gX} (hk : gOk l { frames := 6, cells := 0, slots := 0, locals := 134 } K V cX6_day 12 RX6 (some .int) yX6_day.name) (E : Nat → va_E) (fa tr at1 rr dn wo rd : Int32) (n : Nat) (so sl ce pa rz dl ke p2 w2 : Nat → Int32) (hC : mC V ad E fa tr at1 rr dn wo rd n so sl ce pa rz dl ke p2 w2) (c : Nat → Int32) (s0 m : Nat) (w : Int32) (hm : m ≤ 20) (hs : s0 + 2 * m ≤ 240) (hce : ∀ q, q < 2 * m → ce (s0 + q) = c q) (Z : Int32 → (Nat → va_E) → Prop) (h1 : sAllA c m = false → Z (-2) E) (h2 : (∀ p, p < m → sIsA (c (2 * p)) (c (2 * p + 1)) = true) → G K V 12 (gQ K V 44 0 0 (pI ad Z)) ad 44 0 0 151 [(0, .ref (ad 34)), (4, .int (nI m)), (5, .int w), (7, .int (nI s0))] [] E) : ∀ (k p : Nat), m < p + k → p ≤ m → (∀ q, q < p → sIsA (c (2 * q)) (c (2 * q + 1)) = true) → G K V 12 (gQ K V 44 0 0 (pI ad (Z))) ad 44 0 0 103 [(0, .ref (ad 34)), (4, .int (nI m)), (5, .int w), (7, .int (nI s0)), (8, .int (nI p))] [] E := by
  obtain ⟨m0, g35, g36, g37, g38, g39, g40, g41, g42, g43, m3⟩ := id hC
  have hM := hC.k
  intro k
  induction k with
  | zero => intro p hp; omega
  | succ k ih =>
    intro p hp hpm hq
    refine G_iload hk dX6_day_103 rfl ?_
    refine G_iload hk dX6_day_105 rfl ?_
    refine G_icmp_ge (tgt := 151) hk dX6_day_107 (by decide) (fun c_107 => ?_) (fun c_107 => ?_)
    · try simp only [gB_ne, gB_eq, Decidable.not_not] at c_107
      have hge := (nle (by omega) (by omega)).mp c_107
      exact G_lv (by exact And.intro rfl (And.intro rfl (And.intro rfl (And.intro rfl (trivial))))) (h2 (fun q h => hq q (by omega)))
    · try simp only [gB_ne, gB_eq, Decidable.not_not] at c_107
      have hlt : p < m := Nat.lt_of_not_le (fun z => c_107 ((nle (by omega) (by omega)).mpr z))
      refine G_aload_n (i := 0) hk dX6_day_110 rfl rfl ?_
      refine G_get hk fX6_16 dX6_day_111 (by assumption) (by rfl) (by first | decide | omega) ?_
      refine G_iload hk dX6_day_114 rfl ?_
      refine G_iconst (v := 2) hk dX6_day_116 (by decide) ?_
      refine G_iload hk dX6_day_117 rfl ?_
      refine G_imul hk dX6_day_119 ?_
      rw [nI_2]
      refine G_iadd hk dX6_day_120 ?_
      rw [nI_add]
      refine G_ialdX (j := (s0 + 2 * p)) hk dX6_day_121 (by assumption) rfl (by omega) (by decide) (by first | decide | omega) ?_
      rw [hce (2 * p) (by omega)]
      refine G_aload_n (i := 0) hk dX6_day_122 rfl rfl ?_
      refine G_get hk fX6_16 dX6_day_123 (by assumption) (by rfl) (by first | decide | omega) ?_
      refine G_iload hk dX6_day_126 rfl ?_
      refine G_iconst (v := 2) hk dX6_day_128 (by decide) ?_
      refine G_iload hk dX6_day_129 rfl ?_
      refine G_imul hk dX6_day_131 ?_
      rw [nI_2]
      refine G_iadd hk dX6_day_132 ?_
      rw [nI_add]
      refine G_iconst (v := 1) hk dX6_day_133 (by decide) ?_
      refine G_iadd hk dX6_day_134 ?_
      rw [show nI (s0 + 2 * p) + 1 = nI (s0 + (2 * p + 1)) from nI_i1 _]
      refine G_ialdX (j := (s0 + (2 * p + 1))) hk dX6_day_135 (by assumption) rfl (by omega) (by decide) (by first | decide | omega) ?_
      rw [hce (2 * p + 1) (by omega)]
      refine G_cSi hk (c_X6_isPair l V ad E (c (2 * p)) (c (2 * p + 1))) mX6_isPair sX6_isPair kX6_139 dX6_day_136 rfl (by decide) (by decide) rfl (Nat.le_of_ble_eq_true rfl) (fun r_136 E_136 h_136 => ?_)
      obtain ⟨rfl, rfl⟩ := h_136
      refine G_if_ne (tgt := 145) hk dX6_day_139 (by decide) (fun c_139 => ?_) (fun c_139 => ?_)
      · try simp only [gB_ne, gB_eq, Decidable.not_not] at c_139
        refine G_iinc (v := nI (p + 1)) hk dX6_day_145 rfl (nI_inc p) (by decide) rfl ?_
        refine G_goto (tgt := 103) hk dX6_day_148 (by decide) ?_
        exact G_lv (by exact And.intro rfl (And.intro rfl (And.intro rfl (And.intro rfl (And.intro rfl (trivial)))))) (ih (p + 1) (by omega) (by omega) (fun q h => by
          rcases Nat.lt_or_ge q p with z | z
          · exact hq q z
          · rw [show q = p by omega]; exact c_139))
      · try simp only [gB_ne, gB_eq, Decidable.not_not] at c_139
        refine G_bipush (v := (-2)) hk dX6_day_142 (by decide) ?_
        refine G_iret hk dX6_day_144 ?_
        exact h1 (sAllA_f hlt c_139)

set_option maxHeartbeats 4000000 in
set_option maxRecDepth 100000 in
theorem l2_day {l : Launch} {V : gV} {ad : Nat → Nat} {K : gX} (hk : gOk l { frames := 6, cells := 0, slots := 0, locals := 134 } K V cX6_day 12 RX6 (some .int) yX6_day.name) (E : Nat → va_E) (fa tr at1 rr dn wo rd : Int32) (n : Nat) (so sl ce pa rz dl ke p2 w2 : Nat → Int32) (s0 m : Nat) (w : Int32) (Z : Int32 → (Nat → va_E) → Prop) (h2 : ∀ E2 ke2, mC V ad E2 fa tr at1 rr dn wo rd n so sl ce pa rz dl ke2 p2 w2 → frM E E2 → (∀ x, x < 35 → ke2 x = pa x) → G K V 12 (gQ K V 44 0 0 (pI ad Z)) ad 44 0 0 187 [(0, .ref (ad 34)), (4, .int (nI m)), (5, .int w), (7, .int (nI s0)), (8, .int (nI n))] [] E2) : ∀ (k t : Nat) (E1 : Nat → va_E), 35 < t + k → t ≤ 35 → mC V ad E1 fa tr at1 rr dn wo rd n so sl ce pa rz dl (fun x => if x < t then pa x else ke x) p2 w2 → frM E E1 → G K V 12 (gQ K V 44 0 0 (pI ad (Z))) ad 44 0 0 160 [(0, .ref (ad 34)), (4, .int (nI m)), (5, .int w), (7, .int (nI s0)), (8, .int (nI n)), (9, .int (nI t))] [] E1 := by
  intro k
  induction k with
  | zero => intro t E1 ht; omega
  | succ k ih =>
    intro t E1 ht ht35 hC1 hfr
    obtain ⟨m0, g35, g36, g37, g38, g39, g40, g41, g42, g43, m3⟩ := id hC1
    refine G_iload hk dX6_day_160 rfl ?_
    refine G_bipush (v := 35) hk dX6_day_162 (by decide) ?_
    refine G_icmp_ge (tgt := 187) hk dX6_day_164 (by decide) (fun c_164 => ?_) (fun c_164 => ?_)
    · try simp only [gB_ne, gB_eq, Decidable.not_not] at c_164
      have hge : 35 ≤ t := (nle (a := 35) (by omega) (by omega)).mp c_164
      have hte : t = 35 := by omega
      subst hte
      exact G_lv (by exact And.intro rfl (And.intro rfl (And.intro rfl (And.intro rfl (And.intro rfl (trivial)))))) (h2 E1 _ hC1 hfr (fun x hx => if_pos hx))
    · try simp only [gB_ne, gB_eq, Decidable.not_not] at c_164
      have hlt : t < 35 := Nat.lt_of_not_le (fun q => c_164 ((nle (a := 35) (by omega) (by omega)).mpr q))
      refine G_aload_n (i := 0) hk dX6_day_167 rfl rfl ?_
      refine G_get hk fX6_28 dX6_day_168 (by assumption) (by rfl) (by first | decide | omega) ?_
      refine G_iload hk dX6_day_171 rfl ?_
      refine G_aload_n (i := 0) hk dX6_day_173 rfl rfl ?_
      refine G_get hk fX6_19 dX6_day_174 (by assumption) (by rfl) (by first | decide | omega) ?_
      refine G_iload hk dX6_day_177 rfl ?_
      refine G_ialdX (j := t) hk dX6_day_179 (by assumption) rfl (by omega) (by decide) (by first | decide | omega) ?_
      refine G_iastX (j := t) hk dX6_day_180 (by assumption) rfl (by omega) (by decide) (by first | decide | omega) ?_
      refine G_iinc (v := nI (t + 1)) hk dX6_day_181 rfl (nI_inc t) (by decide) rfl ?_
      refine G_goto (tgt := 160) hk dX6_day_184 (by decide) ?_
      refine G_lv (by exact And.intro rfl (And.intro rfl (And.intro rfl (And.intro rfl (And.intro rfl (And.intro rfl (trivial))))))) (ih (t + 1) _ (by omega) (by omega) ?_ (hfr.tr (frM.up (by omega))))
      have hC2 := hC1.s_ke (upd (fun x => if x < t then pa x else ke x) t (pa t))
      have ef : upd (fun x => if x < t then pa x else ke x) t (pa t) = (fun x => if x < t + 1 then pa x else ke x) := by
        funext x
        unfold upd
        dsimp only
        by_cases hi : x = t
        · rw [if_pos hi, if_pos (by omega), hi]
        · rw [if_neg hi]
          by_cases h7 : x < t
          · rw [if_pos h7, if_pos (by omega)]
          · rw [if_neg h7, if_neg (by omega)]
      rw [← ef]
      exact hC2

set_option maxHeartbeats 4000000 in
set_option maxRecDepth 100000 in
theorem l3_day {l : Launch} {V : gV} {ad : Nat → Nat} {K : gX} (hk : gOk l { frames := 6, cells := 0, slots := 0, locals := 134 } K V cX6_day 12 RX6 (some .int) yX6_day.name) (E : Nat → va_E) (fa tr at1 rr dn wo rd : Int32) (n : Nat) (so sl ce pa rz dl ke p2 w2 : Nat → Int32) (w u z : Int32) : ∀ (k t : Nat) (E1 : Nat → va_E), 35 < t + k → t ≤ 35 → mC V ad E1 fa tr at1 rr dn wo rd n so sl ce (fun x => if x < t then ke x else pa x) rz dl ke p2 w2 → frM E E1 → G K V 12 (gQ K V 44 0 0 (pI ad (fun v E2 => v = (if w = 1 then u else if u = -9 then z else -100 - u) ∧ mC V ad E2 fa tr at1 rr dn wo rd n so sl ce (fun x => if x < 35 then ke x else pa x) rz dl ke p2 w2 ∧ frM E E2))) ad 44 0 0 214 [(0, .ref (ad 34)), (5, .int w), (9, .int u), (10, .int z), (11, .int (nI t))] [] E1 := by
  intro k
  induction k with
  | zero => intro t E1 ht; omega
  | succ k ih =>
    intro t E1 ht ht35 hC1 hfr
    obtain ⟨m0, g35, g36, g37, g38, g39, g40, g41, g42, g43, m3⟩ := id hC1
    refine G_iload hk dX6_day_214 rfl ?_
    refine G_bipush (v := 35) hk dX6_day_216 (by decide) ?_
    refine G_icmp_ge (tgt := 241) hk dX6_day_218 (by decide) (fun c_218 => ?_) (fun c_218 => ?_)
    · try simp only [gB_ne, gB_eq, Decidable.not_not] at c_218
      have hge : 35 ≤ t := (nle (a := 35) (by omega) (by omega)).mp c_218
      have hte : t = 35 := by omega
      subst hte
      refine G_iload hk dX6_day_241 rfl ?_
      refine G_iconst (v := 1) hk dX6_day_243 (by decide) ?_
      refine G_icmp_ne (tgt := 252) hk dX6_day_244 (by decide) (fun c_244 => ?_) (fun c_244 => ?_)
      · try simp only [gB_ne, gB_eq, Decidable.not_not] at c_244
        refine G_iload hk dX6_day_252 rfl ?_
        refine G_bipush (v := (-9)) hk dX6_day_254 (by decide) ?_
        refine G_icmp_ne (tgt := 264) hk dX6_day_256 (by decide) (fun c_256 => ?_) (fun c_256 => ?_)
        · try simp only [gB_ne, gB_eq, Decidable.not_not] at c_256
          refine G_bipush (v := (-100)) hk dX6_day_264 (by decide) ?_
          refine G_iload hk dX6_day_266 rfl ?_
          refine G_isub hk dX6_day_268 ?_
          refine G_iret hk dX6_day_269 ?_
          exact ⟨by rw [if_neg c_244, if_neg c_256], hC1, hfr⟩
        · try simp only [gB_ne, gB_eq, Decidable.not_not] at c_256
          refine G_iload hk dX6_day_259 rfl ?_
          refine G_goto (tgt := 269) hk dX6_day_261 (by decide) ?_
          refine G_iret hk dX6_day_269 ?_
          exact ⟨by rw [if_neg c_244, if_pos (by first | exact c_256 | exact Decidable.not_not.mp c_256)], hC1, hfr⟩
      · try simp only [gB_ne, gB_eq, Decidable.not_not] at c_244
        refine G_iload hk dX6_day_247 rfl ?_
        refine G_goto (tgt := 269) hk dX6_day_249 (by decide) ?_
        refine G_iret hk dX6_day_269 ?_
        exact ⟨by rw [if_pos (by first | exact c_244 | exact Decidable.not_not.mp c_244)], hC1, hfr⟩
    · try simp only [gB_ne, gB_eq, Decidable.not_not] at c_218
      have hlt : t < 35 := Nat.lt_of_not_le (fun q => c_218 ((nle (a := 35) (by omega) (by omega)).mpr q))
      refine G_aload_n (i := 0) hk dX6_day_221 rfl rfl ?_
      refine G_get hk fX6_19 dX6_day_222 (by assumption) (by rfl) (by first | decide | omega) ?_
      refine G_iload hk dX6_day_225 rfl ?_
      refine G_aload_n (i := 0) hk dX6_day_227 rfl rfl ?_
      refine G_get hk fX6_28 dX6_day_228 (by assumption) (by rfl) (by first | decide | omega) ?_
      refine G_iload hk dX6_day_231 rfl ?_
      refine G_ialdX (j := t) hk dX6_day_233 (by assumption) rfl (by omega) (by decide) (by first | decide | omega) ?_
      refine G_iastX (j := t) hk dX6_day_234 (by assumption) rfl (by omega) (by decide) (by first | decide | omega) ?_
      refine G_iinc (v := nI (t + 1)) hk dX6_day_235 rfl (nI_inc t) (by decide) rfl ?_
      refine G_goto (tgt := 214) hk dX6_day_238 (by decide) ?_
      refine G_lv (by exact And.intro rfl (And.intro rfl (And.intro rfl (And.intro rfl (And.intro rfl (trivial)))))) (ih (t + 1) _ (by omega) (by omega) ?_ (hfr.tr (frM.up (by omega))))
      have hC2 := hC1.s_pa (upd (fun x => if x < t then ke x else pa x) t (ke t))
      have ef : upd (fun x => if x < t then ke x else pa x) t (ke t) = (fun x => if x < t + 1 then ke x else pa x) := by
        funext x
        unfold upd
        dsimp only
        by_cases hi : x = t
        · rw [if_pos hi, if_pos (by omega), hi]
        · rw [if_neg hi]
          by_cases h7 : x < t
          · rw [if_pos h7, if_pos (by omega)]
          · rw [if_neg h7, if_neg (by omega)]
      rw [← ef]
      exact hC2

set_option maxHeartbeats 4000000 in
set_option maxRecDepth 100000 in
theorem c_X6_day (l : Launch) (V : gV) (ad : Nat → Nat) (E : Nat → va_E) (n rd : Nat) (R : Nat → Nat → Int32) (rp rw : Nat → Int32) (tr fa : Int32) (la : Nat → Int32) (sz : Nat → Nat) (cl : Nat → Nat → Int32) (hR : mR V ad E (n, R, rd, rp, rw, tr, fa, la, sz, cl)) (ho0 : sOk n R) (hlo : lOk la) (k a i m w : Int32) : Ct l V ad 44 44 yX6_day cX6_day 12 (some .int) { frames := 6, cells := 0, slots := 0, locals := 134 } [.ref (ad 34), .int k, .int a, .int i, .int m, .int w] E (pI ad (fun v E2 => v = vDay n R la sz cl k a i m w ∧ mR V ad E2 (n, R, rd, rp, rw, tr, fDay la sz k a i m w, la, sz, cl) ∧ frM E E2)) := by
  refine gCt mX6_day (Nat.le_of_ble_eq_true rfl) ?_
  intro K hk
  obtain ⟨at1, rr, dn, wo, so, sl, ce, pa, rz, dl, ke, p2, w2, hC, hrd8, hag, hrd, hso, hsl, hsz⟩ := id hR
  obtain ⟨m0, g35, g36, g37, g38, g39, g40, g41, g42, g43, m3⟩ := id hC
  have hM := hC.k
  have ho : ∀ i, i < n → rOk (pR pa i) := fun i hi => rOk_cw (hag i hi) (ho0 i hi)
  have hn0 : nI n = 0 ↔ n = 0 := neq (b := 0) (by omega) (by omega)
  refine G_aload_n (i := 0) hk dX6_day_0 rfl rfl ?_
  refine G_iconst (v := 0) hk dX6_day_1 (by decide) ?_
  refine G_put hk fX6_37 iX6_0 dX6_day_2 (by assumption) (Nat.le_of_ble_eq_true rfl) (by first | decide | omega) ?_
  refine G_E (E2 := va_up E 34 (mO ad 0 tr (nI n) at1 rr dn wo (nI rd))) rfl ?_
  have hC1 := hC.o (fa2 := 0) (tr2 := tr) (at2 := at1) (rr2 := rr) (dn2 := dn) (wo2 := wo) (rd2 := nI rd) (n2 := n) m3
  have f1 : frM E (va_up E 34 (mO ad 0 tr (nI n) at1 rr dn wo (nI rd))) := frM.up (by omega)
  generalize va_up E 34 (mO ad 0 tr (nI n) at1 rr dn wo (nI rd)) = E1 at hC1 f1 ⊢
  clear m0 g35 g36 g37 g38 g39 g40 g41 g42 g43 hM hC hR
  obtain ⟨m0, g35, g36, g37, g38, g39, g40, g41, g42, g43, m3⟩ := id hC1
  have hM := hC1.k
  have hR1 : mR V ad E1 (n, R, rd, rp, rw, tr, 0, la, sz, cl) := ⟨_, _, _, _, _, _, _, _, _, _, _, _, _, hC1, hrd8, hag, hrd, hso, hsl, hsz⟩
  refine G_iload_n (i := 1) hk dX6_day_5 rfl rfl ?_
  refine G_cSi hk (c_X6_isSheet l V ad E1 k) mX6_isSheet sX6_isSheet kX6_57 dX6_day_6 rfl (by decide) (by decide) rfl (Nat.le_of_ble_eq_true rfl) (fun r_6 E_6 h_6 => ?_)
  obtain ⟨rfl, rfl⟩ := h_6
  refine G_if_ne (tgt := 14) hk dX6_day_9 (by decide) (fun c_9 => ?_) (fun c_9 => ?_)
  · try simp only [gB_ne, gB_eq, Decidable.not_not] at c_9
    obtain ⟨j, hj, rfl⟩ := gIe (n := 3) c_9.1 c_9.2 (by omega)
    have hixj : ix (nI j) = j := ix_nI (by omega)
    have soj := so_iff hlo (show j < 4 by omega) (hso j (by omega))
    have szjj := hsz j (by omega)
    refine G_iload_n (i := 2) hk dX6_day_14 rfl rfl ?_
    refine G_cSi hk (c_X6_isSort l V ad E1 a) mX6_isSort sX6_isSort kX6_61 dX6_day_15 rfl (by decide) (by decide) rfl (Nat.le_of_ble_eq_true rfl) (fun r_15 E_15 h_15 => ?_)
    obtain ⟨rfl, rfl⟩ := h_15
    refine G_if_eq (tgt := 54) hk dX6_day_18 (by decide) (fun c_18 => ?_) (fun c_18 => ?_)
    · try simp only [gB_ne, gB_eq, Decidable.not_not] at c_18
      refine G_bipush (v := (-2)) hk dX6_day_54 (by decide) ?_
      refine G_iret hk dX6_day_56 ?_
      exact ⟨by unfold vDay; rw [if_pos c_9, if_neg (fun z => c_18 z.1.1)], by unfold fDay; rw [if_pos c_9, if_neg (fun z => c_18 z.1.1)]; exact hR1, f1⟩
    · try simp only [gB_ne, gB_eq, Decidable.not_not] at c_18
      refine G_iload hk dX6_day_21 rfl ?_
      refine G_iconst (v := 0) hk dX6_day_23 (by decide) ?_
      refine G_bipush (v := 20) hk dX6_day_24 (by decide) ?_
      refine G_cSi hk (c_X6_within l V ad E1 m 0 20) mX6_within sX6_within kX6_43 dX6_day_26 rfl (by decide) (by decide) rfl (Nat.le_of_ble_eq_true rfl) (fun r_26 E_26 h_26 => ?_)
      obtain ⟨rfl, rfl⟩ := h_26
      refine G_if_eq (tgt := 54) hk dX6_day_29 (by decide) (fun c_29 => ?_) (fun c_29 => ?_)
      · try simp only [gB_ne, gB_eq, Decidable.not_not] at c_29
        refine G_bipush (v := (-2)) hk dX6_day_54 (by decide) ?_
        refine G_iret hk dX6_day_56 ?_
        exact ⟨by unfold vDay; rw [if_pos c_9, if_neg (fun z => c_29 z.1.2)], by unfold fDay; rw [if_pos c_9, if_neg (fun z => c_29 z.1.2)]; exact hR1, f1⟩
      · try simp only [gB_ne, gB_eq, Decidable.not_not] at c_29
        obtain ⟨b0, hb0, rfl⟩ := gIe (n := 20) c_29.1 c_29.2 (by omega)
        have hixb : ix (nI b0) = b0 := ix_nI (by omega)
        refine G_iload hk dX6_day_32 rfl ?_
        refine G_iconst (v := 0) hk dX6_day_34 (by decide) ?_
        refine G_iconst (v := 4) hk dX6_day_35 (by decide) ?_
        refine G_cSi hk (c_X6_within l V ad E1 w 0 4) mX6_within sX6_within kX6_43 dX6_day_36 rfl (by decide) (by decide) rfl (Nat.le_of_ble_eq_true rfl) (fun r_36 E_36 h_36 => ?_)
        obtain ⟨rfl, rfl⟩ := h_36
        refine G_if_ne (tgt := 57) hk dX6_day_39 (by decide) (fun c_39 => ?_) (fun c_39 => ?_)
        · try simp only [gB_ne, gB_eq, Decidable.not_not] at c_39
          have hw : (0 ≤ w ∧ w ≤ 4) ∨ (10 ≤ w ∧ w ≤ 35) := Or.inl c_39
          have hall2 := (show ((0 ≤ a ∧ a ≤ 2) ∧ (0 ≤ nI b0 ∧ nI b0 ≤ 20)) ∧ ((0 ≤ w ∧ w ≤ 4) ∨ (10 ≤ w ∧ w ≤ 35)) from ⟨⟨c_18, c_29⟩, hw⟩)
          refine G_aload_n (i := 0) hk dX6_day_57 rfl rfl ?_
          refine G_iload_n (i := 1) hk dX6_day_58 rfl rfl ?_
          refine G_iload_n (i := 2) hk dX6_day_59 rfl rfl ?_
          refine G_iload_n (i := 3) hk dX6_day_60 rfl rfl ?_
          refine G_iconst (v := 2) hk dX6_day_61 (by decide) ?_
          refine G_iload hk dX6_day_62 rfl ?_
          refine G_imul hk dX6_day_64 ?_
          rw [nI_2]
          refine G_cVi hk (c_X6_against l V ad E1 n rd R rp rw tr 0 la sz cl hR1 ho0 hlo j (by omega) a i (nI (2 * b0))) mX6_against vX6_against kX6_64 dX6_day_65 (by assumption) (by rfl) (by first | decide | omega) rfl (by decide) (by decide) rfl (Nat.le_of_ble_eq_true rfl) (fun r_65 E_65 h_65 => ?_)
          obtain ⟨rfl, rfl⟩ := h_65
          refine G_istore hk dX6_day_68 (by decide) rfl ?_
          refine G_iload hk dX6_day_70 rfl ?_
          refine G_if_eq (tgt := 82) hk dX6_day_72 (by decide) (fun c_72 => ?_) (fun c_72 => ?_)
          · try simp only [gB_ne, gB_eq, Decidable.not_not] at c_72
            obtain ⟨hfas, hm0, hhc⟩ := sAg_0 c_72
            have hla := (sFas_0 hfas).1
            obtain ⟨a0, b1, rfl, eb, hab⟩ := sHc_nat szjj hhc
            have hb1 : 2 * b0 = b1 := (neq (by omega) (by omega)).mp eb
            have hixa : ix (nI a0) = a0 := ix_nI (by omega)
            have hce : ∀ q, q < 2 * b0 → ce (60 * j + a0 + q) = (fun p => cl j (a0 + p)) q := fun q hq => by
              rw [Nat.add_assoc]
              exact (hsl j (by omega) hla).2 (a0 + q) (by omega)
            have hff : fDay la sz (nI j) a (nI a0) (nI b0) w = 0 := by
              unfold fDay
              rw [if_pos c_9, if_pos hall2, hixj, if_pos hfas, nI_2, sHcD_t hhc]
              rfl
            refine G_aload_n (i := 0) hk dX6_day_82 rfl rfl ?_
            refine G_get hk fX6_47 dX6_day_83 (by assumption) (by rfl) (by first | decide | omega) ?_
            refine G_if_ne (tgt := 92) hk dX6_day_86 (by decide) (fun c_86 => ?_) (fun c_86 => ?_)
            · try simp only [gB_ne, gB_eq, Decidable.not_not] at c_86
              have hn : ¬ n = 0 := fun q => c_86 (hn0.mpr q)
              refine G_bipush (v := 60) hk dX6_day_92 (by decide) ?_
              refine G_iload_n (i := 1) hk dX6_day_94 rfl rfl ?_
              refine G_imul hk dX6_day_95 ?_
              rw [nI_60]
              refine G_iload_n (i := 3) hk dX6_day_96 rfl rfl ?_
              refine G_iadd hk dX6_day_97 ?_
              rw [nI_add]
              refine G_istore hk dX6_day_98 (by decide) rfl ?_
              refine G_iconst (v := 0) hk dX6_day_100 (by decide) ?_
              refine G_istore hk dX6_day_101 (by decide) rfl ?_
              have hixx := hixa
              refine G_lv (by exact And.intro rfl (And.intro rfl (And.intro rfl (And.intro rfl (And.intro rfl (trivial)))))) (l1_day hk E1 0 tr at1 rr dn wo (nI rd) n so sl ce pa rz dl ke p2 w2 hC1 (fun p => cl j (a0 + p)) (60 * j + a0) b0 w hb0 (by omega) hce _ ?_ ?_ (b0 + 1) 0 (by omega) (by omega) (fun q hq => absurd hq (Nat.not_lt_zero q)))
              · intro hA
                exact ⟨by unfold vDay; rw [if_pos c_9, if_pos hall2, hixj, if_pos hfas, nI_2, sHcD_t hhc, if_pos rfl, if_neg hn, hixa, hixb, hA]; rfl, by rw [hff]; exact hR1, f1⟩
              intro hall
              have hA := sAllA_t (c := (fun p => cl j (a0 + p))) (m := b0) hall
              have hok : dOk n R := ⟨by omega, m3, ho0⟩
              refine G_aload_n (i := 0) hk dX6_day_151 rfl rfl ?_
              refine G_get hk fX6_47 dX6_day_152 (by assumption) (by rfl) (by decide) ?_
              refine G_istore hk dX6_day_155 (by decide) rfl ?_
              refine G_iconst (v := 0) hk dX6_day_157 (by decide) ?_
              refine G_istore hk dX6_day_158 (by decide) rfl ?_
              refine G_lv (by exact And.intro rfl (And.intro rfl (And.intro rfl (And.intro rfl (And.intro rfl (And.intro rfl (trivial))))))) (l2_day hk E1 0 tr at1 rr dn wo (nI rd) n so sl ce pa rz dl ke p2 w2 (60 * j + a0) b0 w _ ?_ 36 0 E1 (by omega) (by omega) (by
                have e : (fun x => if x < 0 then pa x else ke x) = ke := by
                  funext x
                  exact if_neg (by omega)
                rw [e]
                exact hC1) frM.rf)
              intro Ek ke2 hCk fk hke
              refine G_aload_n (i := 0) hk dX6_day_187 rfl rfl ?_
              refine G_iload hk dX6_day_188 rfl ?_
              refine G_iload hk dX6_day_190 rfl ?_
              refine G_cVi hk (c_X6_goDay l V ad Ek 0 tr at1 rr dn wo (nI rd) n so sl ce pa rz dl ke2 p2 w2 hCk R hag hok (fun p => cl j (a0 + p)) (60 * j + a0) b0 hb0 (by omega) hce hall) mX6_goDay vX6_goDay kX6_142 dX6_day_192 hCk.1 (by rfl) (by first | decide | omega) rfl (by decide) (by decide) rfl (Nat.le_of_ble_eq_true rfl) (fun r_192 E_192 h_192 => ?_)
              obtain ⟨rfl, ⟨pan, hCg, agg, okg⟩, fg⟩ := h_192
              have q0 := hCg.1
              refine G_istore hk dX6_day_195 (by decide) rfl ?_
              refine G_aload_n (i := 0) hk dX6_day_197 rfl rfl ?_
              refine G_iload hk dX6_day_198 rfl ?_
              refine G_cVi hk (c_X6_tellDay l V ad E_192 0 tr at1 rr dn wo (nI rd) _ so sl ce pan rz dl ke2 p2 w2 hCg _ agg okg w hw) mX6_tellDay vX6_tellDay kX6_146 dX6_day_200 (by assumption) (by rfl) (by first | decide | omega) rfl (by decide) (by decide) rfl (Nat.le_of_ble_eq_true rfl) (fun r_200 E_200 h_200 => ?_)
              obtain ⟨htd, ⟨dn2, wo2, dl2, hCt⟩, ft⟩ := h_200
              have q1 := hCt.1
              refine G_istore hk dX6_day_203 (by decide) rfl ?_
              refine G_aload_n (i := 0) hk dX6_day_205 rfl rfl ?_
              refine G_iload hk dX6_day_206 rfl ?_
              refine G_put hk fX6_47 iX6_5 dX6_day_208 (by assumption) (Nat.le_of_ble_eq_true rfl) (by first | decide | omega) ?_
              refine G_E (E2 := va_up E_200 34 (mO ad 0 tr (nI n) at1 rr dn2 wo2 (nI rd))) rfl ?_
              have hCr := hCt.o (fa2 := 0) (tr2 := tr) (at2 := at1) (rr2 := rr) (dn2 := dn2) (wo2 := wo2) (rd2 := nI rd) (n2 := n) m3
              have fr1 := (((f1.tr fk).tr fg).tr ft).tr (frM.up (E := E_200) (k := 34) (c := mO ad 0 tr (nI n) at1 rr dn2 wo2 (nI rd)) (by omega))
              generalize va_up E_200 34 (mO ad 0 tr (nI n) at1 rr dn2 wo2 (nI rd)) = Er at hCr fr1 ⊢
              refine G_iconst (v := 0) hk dX6_day_211 (by decide) ?_
              refine G_istore hk dX6_day_212 (by decide) rfl ?_
              have hl := l3_day hk Er 0 tr at1 rr dn2 wo2 (nI rd) n so sl ce pan rz dl2 ke2 p2 w2 w (sPlay (fun p => cl j (a0 + p)) b0 0 n R).1 r_200 36 0 Er (by omega) (by omega) (by
                have e : (fun x => if x < 0 then ke2 x else pan x) = pan := by
                  funext x
                  exact if_neg (by omega)
                rw [e]
                exact hCr) frM.rf
              refine G_lv (by exact And.intro rfl (And.intro rfl (And.intro rfl (And.intro rfl (And.intro rfl (trivial)))))) (G_post hl ?_)
              rintro rr' aa E2 ⟨v, rfl, rfl, rfl, hC2, f4⟩
              refine ⟨_, rfl, rfl, ?_, ?_, fr1.tr f4⟩
              · unfold vDay
                rw [if_pos c_9, if_pos hall2, hixj, if_pos hfas, nI_2, sHcD_t hhc, if_pos rfl, if_neg hn, hixa, hixb, hA, if_pos rfl]
                unfold sDayV
                by_cases h1 : w = 1
                · rw [if_pos h1, if_pos h1]
                · rw [if_neg h1, if_neg h1, htd h1]
              · rw [hff]
                refine ⟨_, _, _, _, _, _, _, _, _, _, _, _, _, hC2, hrd8, fun i hi q hq => ?_, hrd, hso, hsl, hsz⟩
                show (if 5 * i + q < 35 then ke2 (5 * i + q) else pan (5 * i + q)) = _
                rw [if_pos (by omega), hke _ (by omega)]
                exact hag i hi q hq
            · try simp only [gB_ne, gB_eq, Decidable.not_not] at c_86
              have hn : n = 0 := hn0.mp (by first | exact c_86 | exact Decidable.not_not.mp c_86)
              refine G_bipush (v := (-3)) hk dX6_day_89 (by decide) ?_
              refine G_iret hk dX6_day_91 ?_
              exact ⟨by unfold vDay; rw [if_pos c_9, if_pos hall2, hixj, if_pos hfas, nI_2, sHcD_t hhc, if_pos rfl, if_pos hn], by rw [hff]; exact hR1, f1⟩
          · try simp only [gB_ne, gB_eq, Decidable.not_not] at c_72
            refine G_aload_n (i := 0) hk dX6_day_75 rfl rfl ?_
            refine G_iload hk dX6_day_76 rfl ?_
            refine G_cVi hk (c_X6_fails l V ad E1 n rd R rp rw tr 0 la sz cl hR1 ho0 (sAg (la j) (sz j) a i (nI (2 * b0)))) mX6_fails vX6_fails kX6_68 dX6_day_78 (by assumption) (by rfl) (by first | decide | omega) rfl (by decide) (by decide) rfl (Nat.le_of_ble_eq_true rfl) (fun r_78 E_78 h_78 => ?_)
            obtain ⟨rfl, hRf, xf⟩ := h_78
            refine G_iret hk dX6_day_81 ?_
            have hn := sAg_n c_72
            have hm0 : ¬ nI (2 * b0) < 0 := Int32.not_lt.mpr (nI_pos' (by omega))
            refine ⟨?_, ?_, f1.tr xf⟩
            · unfold vDay sAg
              rw [if_pos c_9, if_pos hall2, hixj, nI_2]
              by_cases h1 : sFas (la j) a = 0
              · rw [if_pos h1, if_pos h1, if_neg hm0, sHcD_f (fun z => hn ⟨h1, hm0, z⟩)]; rfl
              · rw [if_neg h1, if_neg h1]
            · have ef : fDay la sz (nI j) a i (nI b0) w = sAg (la j) (sz j) a i (nI (2 * b0)) := by
                unfold fDay sAg
                rw [if_pos c_9, if_pos hall2, hixj, nI_2, if_neg hm0]
              rw [ef]
              exact hRf
        · try simp only [gB_ne, gB_eq, Decidable.not_not] at c_39
          refine G_iload hk dX6_day_42 rfl ?_
          refine G_bipush (v := 10) hk dX6_day_44 (by decide) ?_
          refine G_bipush (v := 35) hk dX6_day_46 (by decide) ?_
          refine G_cSi hk (c_X6_within l V ad E1 w 10 35) mX6_within sX6_within kX6_43 dX6_day_48 rfl (by decide) (by decide) rfl (Nat.le_of_ble_eq_true rfl) (fun r_48 E_48 h_48 => ?_)
          obtain ⟨rfl, rfl⟩ := h_48
          refine G_if_ne (tgt := 57) hk dX6_day_51 (by decide) (fun c_51 => ?_) (fun c_51 => ?_)
          · try simp only [gB_ne, gB_eq, Decidable.not_not] at c_51
            have hw : (0 ≤ w ∧ w ≤ 4) ∨ (10 ≤ w ∧ w ≤ 35) := Or.inr c_51
            have hall2 := (show ((0 ≤ a ∧ a ≤ 2) ∧ (0 ≤ nI b0 ∧ nI b0 ≤ 20)) ∧ ((0 ≤ w ∧ w ≤ 4) ∨ (10 ≤ w ∧ w ≤ 35)) from ⟨⟨c_18, c_29⟩, hw⟩)
            refine G_aload_n (i := 0) hk dX6_day_57 rfl rfl ?_
            refine G_iload_n (i := 1) hk dX6_day_58 rfl rfl ?_
            refine G_iload_n (i := 2) hk dX6_day_59 rfl rfl ?_
            refine G_iload_n (i := 3) hk dX6_day_60 rfl rfl ?_
            refine G_iconst (v := 2) hk dX6_day_61 (by decide) ?_
            refine G_iload hk dX6_day_62 rfl ?_
            refine G_imul hk dX6_day_64 ?_
            rw [nI_2]
            refine G_cVi hk (c_X6_against l V ad E1 n rd R rp rw tr 0 la sz cl hR1 ho0 hlo j (by omega) a i (nI (2 * b0))) mX6_against vX6_against kX6_64 dX6_day_65 (by assumption) (by rfl) (by first | decide | omega) rfl (by decide) (by decide) rfl (Nat.le_of_ble_eq_true rfl) (fun r_65 E_65 h_65 => ?_)
            obtain ⟨rfl, rfl⟩ := h_65
            refine G_istore hk dX6_day_68 (by decide) rfl ?_
            refine G_iload hk dX6_day_70 rfl ?_
            refine G_if_eq (tgt := 82) hk dX6_day_72 (by decide) (fun c_72 => ?_) (fun c_72 => ?_)
            · try simp only [gB_ne, gB_eq, Decidable.not_not] at c_72
              obtain ⟨hfas, hm0, hhc⟩ := sAg_0 c_72
              have hla := (sFas_0 hfas).1
              obtain ⟨a0, b1, rfl, eb, hab⟩ := sHc_nat szjj hhc
              have hb1 : 2 * b0 = b1 := (neq (by omega) (by omega)).mp eb
              have hixa : ix (nI a0) = a0 := ix_nI (by omega)
              have hce : ∀ q, q < 2 * b0 → ce (60 * j + a0 + q) = (fun p => cl j (a0 + p)) q := fun q hq => by
                rw [Nat.add_assoc]
                exact (hsl j (by omega) hla).2 (a0 + q) (by omega)
              have hff : fDay la sz (nI j) a (nI a0) (nI b0) w = 0 := by
                unfold fDay
                rw [if_pos c_9, if_pos hall2, hixj, if_pos hfas, nI_2, sHcD_t hhc]
                rfl
              refine G_aload_n (i := 0) hk dX6_day_82 rfl rfl ?_
              refine G_get hk fX6_47 dX6_day_83 (by assumption) (by rfl) (by first | decide | omega) ?_
              refine G_if_ne (tgt := 92) hk dX6_day_86 (by decide) (fun c_86 => ?_) (fun c_86 => ?_)
              · try simp only [gB_ne, gB_eq, Decidable.not_not] at c_86
                have hn : ¬ n = 0 := fun q => c_86 (hn0.mpr q)
                refine G_bipush (v := 60) hk dX6_day_92 (by decide) ?_
                refine G_iload_n (i := 1) hk dX6_day_94 rfl rfl ?_
                refine G_imul hk dX6_day_95 ?_
                rw [nI_60]
                refine G_iload_n (i := 3) hk dX6_day_96 rfl rfl ?_
                refine G_iadd hk dX6_day_97 ?_
                rw [nI_add]
                refine G_istore hk dX6_day_98 (by decide) rfl ?_
                refine G_iconst (v := 0) hk dX6_day_100 (by decide) ?_
                refine G_istore hk dX6_day_101 (by decide) rfl ?_
                have hixx := hixa
                refine G_lv (by exact And.intro rfl (And.intro rfl (And.intro rfl (And.intro rfl (And.intro rfl (trivial)))))) (l1_day hk E1 0 tr at1 rr dn wo (nI rd) n so sl ce pa rz dl ke p2 w2 hC1 (fun p => cl j (a0 + p)) (60 * j + a0) b0 w hb0 (by omega) hce _ ?_ ?_ (b0 + 1) 0 (by omega) (by omega) (fun q hq => absurd hq (Nat.not_lt_zero q)))
                · intro hA
                  exact ⟨by unfold vDay; rw [if_pos c_9, if_pos hall2, hixj, if_pos hfas, nI_2, sHcD_t hhc, if_pos rfl, if_neg hn, hixa, hixb, hA]; rfl, by rw [hff]; exact hR1, f1⟩
                intro hall
                have hA := sAllA_t (c := (fun p => cl j (a0 + p))) (m := b0) hall
                have hok : dOk n R := ⟨by omega, m3, ho0⟩
                refine G_aload_n (i := 0) hk dX6_day_151 rfl rfl ?_
                refine G_get hk fX6_47 dX6_day_152 (by assumption) (by rfl) (by decide) ?_
                refine G_istore hk dX6_day_155 (by decide) rfl ?_
                refine G_iconst (v := 0) hk dX6_day_157 (by decide) ?_
                refine G_istore hk dX6_day_158 (by decide) rfl ?_
                refine G_lv (by exact And.intro rfl (And.intro rfl (And.intro rfl (And.intro rfl (And.intro rfl (And.intro rfl (trivial))))))) (l2_day hk E1 0 tr at1 rr dn wo (nI rd) n so sl ce pa rz dl ke p2 w2 (60 * j + a0) b0 w _ ?_ 36 0 E1 (by omega) (by omega) (by
                  have e : (fun x => if x < 0 then pa x else ke x) = ke := by
                    funext x
                    exact if_neg (by omega)
                  rw [e]
                  exact hC1) frM.rf)
                intro Ek ke2 hCk fk hke
                refine G_aload_n (i := 0) hk dX6_day_187 rfl rfl ?_
                refine G_iload hk dX6_day_188 rfl ?_
                refine G_iload hk dX6_day_190 rfl ?_
                refine G_cVi hk (c_X6_goDay l V ad Ek 0 tr at1 rr dn wo (nI rd) n so sl ce pa rz dl ke2 p2 w2 hCk R hag hok (fun p => cl j (a0 + p)) (60 * j + a0) b0 hb0 (by omega) hce hall) mX6_goDay vX6_goDay kX6_142 dX6_day_192 hCk.1 (by rfl) (by first | decide | omega) rfl (by decide) (by decide) rfl (Nat.le_of_ble_eq_true rfl) (fun r_192 E_192 h_192 => ?_)
                obtain ⟨rfl, ⟨pan, hCg, agg, okg⟩, fg⟩ := h_192
                have q0 := hCg.1
                refine G_istore hk dX6_day_195 (by decide) rfl ?_
                refine G_aload_n (i := 0) hk dX6_day_197 rfl rfl ?_
                refine G_iload hk dX6_day_198 rfl ?_
                refine G_cVi hk (c_X6_tellDay l V ad E_192 0 tr at1 rr dn wo (nI rd) _ so sl ce pan rz dl ke2 p2 w2 hCg _ agg okg w hw) mX6_tellDay vX6_tellDay kX6_146 dX6_day_200 (by assumption) (by rfl) (by first | decide | omega) rfl (by decide) (by decide) rfl (Nat.le_of_ble_eq_true rfl) (fun r_200 E_200 h_200 => ?_)
                obtain ⟨htd, ⟨dn2, wo2, dl2, hCt⟩, ft⟩ := h_200
                have q1 := hCt.1
                refine G_istore hk dX6_day_203 (by decide) rfl ?_
                refine G_aload_n (i := 0) hk dX6_day_205 rfl rfl ?_
                refine G_iload hk dX6_day_206 rfl ?_
                refine G_put hk fX6_47 iX6_5 dX6_day_208 (by assumption) (Nat.le_of_ble_eq_true rfl) (by first | decide | omega) ?_
                refine G_E (E2 := va_up E_200 34 (mO ad 0 tr (nI n) at1 rr dn2 wo2 (nI rd))) rfl ?_
                have hCr := hCt.o (fa2 := 0) (tr2 := tr) (at2 := at1) (rr2 := rr) (dn2 := dn2) (wo2 := wo2) (rd2 := nI rd) (n2 := n) m3
                have fr1 := (((f1.tr fk).tr fg).tr ft).tr (frM.up (E := E_200) (k := 34) (c := mO ad 0 tr (nI n) at1 rr dn2 wo2 (nI rd)) (by omega))
                generalize va_up E_200 34 (mO ad 0 tr (nI n) at1 rr dn2 wo2 (nI rd)) = Er at hCr fr1 ⊢
                refine G_iconst (v := 0) hk dX6_day_211 (by decide) ?_
                refine G_istore hk dX6_day_212 (by decide) rfl ?_
                have hl := l3_day hk Er 0 tr at1 rr dn2 wo2 (nI rd) n so sl ce pan rz dl2 ke2 p2 w2 w (sPlay (fun p => cl j (a0 + p)) b0 0 n R).1 r_200 36 0 Er (by omega) (by omega) (by
                  have e : (fun x => if x < 0 then ke2 x else pan x) = pan := by
                    funext x
                    exact if_neg (by omega)
                  rw [e]
                  exact hCr) frM.rf
                refine G_lv (by exact And.intro rfl (And.intro rfl (And.intro rfl (And.intro rfl (And.intro rfl (trivial)))))) (G_post hl ?_)
                rintro rr' aa E2 ⟨v, rfl, rfl, rfl, hC2, f4⟩
                refine ⟨_, rfl, rfl, ?_, ?_, fr1.tr f4⟩
                · unfold vDay
                  rw [if_pos c_9, if_pos hall2, hixj, if_pos hfas, nI_2, sHcD_t hhc, if_pos rfl, if_neg hn, hixa, hixb, hA, if_pos rfl]
                  unfold sDayV
                  by_cases h1 : w = 1
                  · rw [if_pos h1, if_pos h1]
                  · rw [if_neg h1, if_neg h1, htd h1]
                · rw [hff]
                  refine ⟨_, _, _, _, _, _, _, _, _, _, _, _, _, hC2, hrd8, fun i hi q hq => ?_, hrd, hso, hsl, hsz⟩
                  show (if 5 * i + q < 35 then ke2 (5 * i + q) else pan (5 * i + q)) = _
                  rw [if_pos (by omega), hke _ (by omega)]
                  exact hag i hi q hq
              · try simp only [gB_ne, gB_eq, Decidable.not_not] at c_86
                have hn : n = 0 := hn0.mp (by first | exact c_86 | exact Decidable.not_not.mp c_86)
                refine G_bipush (v := (-3)) hk dX6_day_89 (by decide) ?_
                refine G_iret hk dX6_day_91 ?_
                exact ⟨by unfold vDay; rw [if_pos c_9, if_pos hall2, hixj, if_pos hfas, nI_2, sHcD_t hhc, if_pos rfl, if_pos hn], by rw [hff]; exact hR1, f1⟩
            · try simp only [gB_ne, gB_eq, Decidable.not_not] at c_72
              refine G_aload_n (i := 0) hk dX6_day_75 rfl rfl ?_
              refine G_iload hk dX6_day_76 rfl ?_
              refine G_cVi hk (c_X6_fails l V ad E1 n rd R rp rw tr 0 la sz cl hR1 ho0 (sAg (la j) (sz j) a i (nI (2 * b0)))) mX6_fails vX6_fails kX6_68 dX6_day_78 (by assumption) (by rfl) (by first | decide | omega) rfl (by decide) (by decide) rfl (Nat.le_of_ble_eq_true rfl) (fun r_78 E_78 h_78 => ?_)
              obtain ⟨rfl, hRf, xf⟩ := h_78
              refine G_iret hk dX6_day_81 ?_
              have hn := sAg_n c_72
              have hm0 : ¬ nI (2 * b0) < 0 := Int32.not_lt.mpr (nI_pos' (by omega))
              refine ⟨?_, ?_, f1.tr xf⟩
              · unfold vDay sAg
                rw [if_pos c_9, if_pos hall2, hixj, nI_2]
                by_cases h1 : sFas (la j) a = 0
                · rw [if_pos h1, if_pos h1, if_neg hm0, sHcD_f (fun z => hn ⟨h1, hm0, z⟩)]; rfl
                · rw [if_neg h1, if_neg h1]
              · have ef : fDay la sz (nI j) a i (nI b0) w = sAg (la j) (sz j) a i (nI (2 * b0)) := by
                  unfold fDay sAg
                  rw [if_pos c_9, if_pos hall2, hixj, nI_2, if_neg hm0]
                rw [ef]
                exact hRf
          · try simp only [gB_ne, gB_eq, Decidable.not_not] at c_51
            refine G_bipush (v := (-2)) hk dX6_day_54 (by decide) ?_
            refine G_iret hk dX6_day_56 ?_
            exact ⟨by unfold vDay; rw [if_pos c_9, if_neg (fun z => z.2.elim c_39 c_51)], by unfold fDay; rw [if_pos c_9, if_neg (fun z => z.2.elim c_39 c_51)]; exact hR1, f1⟩
  · try simp only [gB_ne, gB_eq, Decidable.not_not] at c_9
    refine G_iconst (v := (-1)) hk dX6_day_12 (by decide) ?_
    refine G_iret hk dX6_day_13 ?_
    exact ⟨by unfold vDay; rw [if_neg c_9], by unfold fDay; rw [if_neg c_9]; exact hR1, f1⟩
