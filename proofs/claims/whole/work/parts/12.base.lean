def gB (c : Prop) [Decidable c] : Int32 := if c then 1 else 0
theorem gB_ne {c : Prop} [Decidable c] : (¬ gB c = 0) ↔ c := by
  unfold gB
  split <;> simp [*]
theorem gB_eq {c : Prop} [Decidable c] : gB c = 0 ↔ ¬ c := by
  unfold gB
  split <;> simp [*]
theorem gB_nar (c : Prop) [Decidable c] : narrow .boolean (.int (gB c)) = .int (gB c) := by
  unfold gB
  split <;> rfl
theorem gB_t {c : Prop} [Decidable c] (h : c) : gB c = 1 := if_pos h
theorem gB_f {c : Prop} [Decidable c] (h : ¬ c) : gB c = 0 := if_neg h
theorem gB_c {c d : Prop} [Decidable c] [Decidable d] (h : c ↔ d) : gB c = gB d := by
  by_cases hd : d
  · rw [gB_t hd, gB_t (h.mpr hd)]
  · rw [gB_f hd, gB_f (fun q => hd (h.mp q))]
/-- nothing is changed, the answer is x -/
def pS (E : Nat → va_E) (x : Int32) : Int32 → (Nat → va_E) → Prop := fun v E2 => E = E2 ∧ v = x
theorem va_up_up {α : Type} (f : Nat → α) (k : Nat) (v w : α) : va_up (va_up f k v) k w = va_up f k w := bx_uu f k v w
theorem gIx {i : Int32} {n : Nat} (h0 : ¬ i < 0) (h1 : i < nI n) (hn : n < 2147483648) : ∃ j : Nat, j < n ∧ i = nI j := by
  rcases pk_ix i (n := n) hn with h | h | h
  · exact absurd h h0
  · exact absurd h1 (by rw [Int32.not_lt]; exact h)
  · exact h
section GX
variable {l : Launch} {rm : Room} {K : gX} {V : gV} {cc : ByteArray} {nL : Nat} {own : String} {ret : Option FieldType} {nm : String} {Q : State → Prop} {ad : Nat → Nat} {N cells slots pc : Nat} {lv : List (Nat × Value)} {st : List Value} {E : Nat → va_E}
theorem G_ialdX {k n j : Nat} {f : Nat → Int32} {i : Int32} (hk : gOk l rm K V cc nL own ret nm) (hd : decode cc pc = .ok (.iaload, 1)) (hE : E k = gI V n f) (hi : i = nI j) (hj : j < n) (hn : n < 2147483648) (hN : k < N) (kk : G K V nL Q ad N cells slots (pc + 1) lv (.int (f j) :: st) E) : G K V nL Q ad N cells slots pc lv (.int i :: .ref (ad k) :: st) E := by
  subst hi
  exact G_iald hk hd hE (vp_in_nI hj hn) hN (by rw [nI_clamp (Nat.lt_trans hj hn)]; exact kk)
theorem G_iastX {k n j : Nat} {f : Nat → Int32} {i x : Int32} (hk : gOk l rm K V cc nL own ret nm) (hd : decode cc pc = .ok (.iastore, 1)) (hE : E k = gI V n f) (hi : i = nI j) (hj : j < n) (hn : n < 2147483648) (hN : k < N) (kk : G K V nL Q ad N cells slots (pc + 1) lv st (va_up E k (gI V n (upd f j x)))) : G K V nL Q ad N cells slots pc lv (.int x :: .int i :: .ref (ad k) :: st) E := by
  subst hi
  exact G_iast hk hd hE (vp_in_nI hj hn) hN (by rw [nI_clamp (Nat.lt_trans hj hn)]; exact kk)
theorem G_aaldRlX {k n j a : Nat} {f : Nat → Option Nat} {i : Int32} (hk : gOk l rm K V cc nL own ret nm) (hd : decode cc pc = .ok (.aaload, 1)) (hE : E k = gRl V n f) (hi : i = nI j) (hj : j < n) (hn : n < 2147483648) (hv : f j = some a) (hN : k < N) (kk : G K V nL Q ad N cells slots (pc + 1) lv (.ref a :: st) E) : G K V nL Q ad N cells slots pc lv (.int i :: .ref (ad k) :: st) E := by
  subst hi
  exact G_aaldRl hk hd hE (vp_in_nI hj hn) (by rw [nI_clamp (Nat.lt_trans hj hn)]; exact hv) hN kk
theorem G_aaldRwX {k n j a : Nat} {f : Nat → Option Nat} {i : Int32} (hk : gOk l rm K V cc nL own ret nm) (hd : decode cc pc = .ok (.aaload, 1)) (hE : E k = gRw V n f) (hi : i = nI j) (hj : j < n) (hn : n < 2147483648) (hv : f j = some a) (hN : k < N) (kk : G K V nL Q ad N cells slots (pc + 1) lv (.ref a :: st) E) : G K V nL Q ad N cells slots pc lv (.int i :: .ref (ad k) :: st) E := by
  subst hi
  exact G_aaldRw hk hd hE (vp_in_nI hj hn) (by rw [nI_clamp (Nat.lt_trans hj hn)]; exact hv) hN kk
theorem G_aastRlX {k n j k2 : Nat} {fs : List Value} {f : Nat → Option Nat} {i : Int32} (hk : gOk l rm K V cc nL own ret nm) (hd : decode cc pc = .ok (.aastore, 1)) (hE : E k = gRl V n f) (hi : i = nI j) (hj : j < n) (hn : n < 2147483648) (hN : k < N) (hE2 : E k2 = .inr (3, fs)) (hN2 : k2 < N) (kk : G K V nL Q ad N cells slots (pc + 1) lv st (va_up E k (gRl V n (va_up f j (some (ad k2)))))) : G K V nL Q ad N cells slots pc lv (.ref (ad k2) :: .int i :: .ref (ad k) :: st) E := by
  subst hi
  exact G_aastRl hk hd hE (vp_in_nI hj hn) hN hE2 hN2 (by rw [nI_clamp (Nat.lt_trans hj hn)]; exact kk)
theorem G_aastRwX {k n j k2 : Nat} {fs : List Value} {f : Nat → Option Nat} {i : Int32} (hk : gOk l rm K V cc nL own ret nm) (hd : decode cc pc = .ok (.aastore, 1)) (hE : E k = gRw V n f) (hi : i = nI j) (hj : j < n) (hn : n < 2147483648) (hN : k < N) (hE2 : E k2 = .inr (2, fs)) (hN2 : k2 < N) (kk : G K V nL Q ad N cells slots (pc + 1) lv st (va_up E k (gRw V n (va_up f j (some (ad k2)))))) : G K V nL Q ad N cells slots pc lv (.ref (ad k2) :: .int i :: .ref (ad k) :: st) E := by
  subst hi
  exact G_aastRw hk hd hE (vp_in_nI hj hn) hN hE2 hN2 (by rw [nI_clamp (Nat.lt_trans hj hn)]; exact kk)
/-- a switch by a table: one value of it -/
theorem G_tbl {dflt lo hi : Int} {offs : Array Int} {len : Nat} {x : Int32} {off : Int} {tgt : Nat} (v : Int) (hk : gOk l rm K V cc nL own ret nm) (hd : decode cc pc = .ok (.tableswitch dflt lo hi offs, len)) (hv : x.toInt = v) (h1 : ¬ v < lo) (h2 : ¬ hi < v) (ho : offs[(v - lo).toNat]? = some off) (ht : (pc : Int) + off = (tgt : Int)) (k : G K V nL Q ad N cells slots tgt lv st E) : G K V nL Q ad N cells slots pc lv (.int x :: st) E :=
  G_tableIn hk hd (by rw [hv]; exact h1) (by rw [hv]; exact h2) (by rw [hv]; exact ho) ht k
end GX
theorem iT_0 : (0 : Int32).toInt = 0 := by decide
theorem iT_1 : (1 : Int32).toInt = 1 := by decide
theorem iT_2 : (2 : Int32).toInt = 2 := by decide
theorem iT_3 : (3 : Int32).toInt = 3 := by decide
theorem iT_4 : (4 : Int32).toInt = 4 := by decide
theorem iT_5 : (5 : Int32).toInt = 5 := by decide
theorem iT_6 : (6 : Int32).toInt = 6 := by decide
theorem iT_7 : (7 : Int32).toInt = 7 := by decide
theorem iT_8 : (8 : Int32).toInt = 8 := by decide
theorem iT_9 : (9 : Int32).toInt = 9 := by decide
theorem iT_10 : (10 : Int32).toInt = 10 := by decide
theorem iT_11 : (11 : Int32).toInt = 11 := by decide
theorem iT_12 : (12 : Int32).toInt = 12 := by decide
theorem iT_13 : (13 : Int32).toInt = 13 := by decide
theorem iT_14 : (14 : Int32).toInt = 14 := by decide
theorem iT_15 : (15 : Int32).toInt = 15 := by decide
theorem iT_16 : (16 : Int32).toInt = 16 := by decide
theorem iT_17 : (17 : Int32).toInt = 17 := by decide
theorem iT_18 : (18 : Int32).toInt = 18 := by decide
theorem iT_19 : (19 : Int32).toInt = 19 := by decide
theorem iT_20 : (20 : Int32).toInt = 20 := by decide
theorem iT_21 : (21 : Int32).toInt = 21 := by decide
theorem iT_22 : (22 : Int32).toInt = 22 := by decide
theorem iT_23 : (23 : Int32).toInt = 23 := by decide
theorem iT_24 : (24 : Int32).toInt = 24 := by decide
theorem iT_25 : (25 : Int32).toInt = 25 := by decide
theorem iT_26 : (26 : Int32).toInt = 26 := by decide
theorem iT_27 : (27 : Int32).toInt = 27 := by decide
theorem iT_28 : (28 : Int32).toInt = 28 := by decide
theorem iT_29 : (29 : Int32).toInt = 29 := by decide
theorem iT_30 : (30 : Int32).toInt = 30 := by decide
theorem iT_31 : (31 : Int32).toInt = 31 := by decide
theorem iT_32 : (32 : Int32).toInt = 32 := by decide
theorem iT_33 : (33 : Int32).toInt = 33 := by decide
theorem iT_34 : (34 : Int32).toInt = 34 := by decide
theorem iT_35 : (35 : Int32).toInt = 35 := by decide
theorem iT_36 : (36 : Int32).toInt = 36 := by decide
theorem iT_37 : (37 : Int32).toInt = 37 := by decide
theorem iT_38 : (38 : Int32).toInt = 38 := by decide
theorem iT_39 : (39 : Int32).toInt = 39 := by decide
theorem iT_40 : (40 : Int32).toInt = 40 := by decide
theorem iT_41 : (41 : Int32).toInt = 41 := by decide
theorem iT_42 : (42 : Int32).toInt = 42 := by decide
theorem iT_43 : (43 : Int32).toInt = 43 := by decide
theorem iT_44 : (44 : Int32).toInt = 44 := by decide
theorem iT_45 : (45 : Int32).toInt = 45 := by decide
theorem iT_46 : (46 : Int32).toInt = 46 := by decide
theorem iT_47 : (47 : Int32).toInt = 47 := by decide
theorem iT_48 : (48 : Int32).toInt = 48 := by decide
theorem iT_49 : (49 : Int32).toInt = 49 := by decide
theorem iT_50 : (50 : Int32).toInt = 50 := by decide
theorem iT_51 : (51 : Int32).toInt = 51 := by decide
theorem iT_52 : (52 : Int32).toInt = 52 := by decide
theorem iT_53 : (53 : Int32).toInt = 53 := by decide
theorem iT_54 : (54 : Int32).toInt = 54 := by decide
theorem iT_55 : (55 : Int32).toInt = 55 := by decide
theorem iT_56 : (56 : Int32).toInt = 56 := by decide
theorem iT_57 : (57 : Int32).toInt = 57 := by decide
theorem iT_58 : (58 : Int32).toInt = 58 := by decide
theorem iT_59 : (59 : Int32).toInt = 59 := by decide
theorem iT_60 : (60 : Int32).toInt = 60 := by decide
theorem iT_61 : (61 : Int32).toInt = 61 := by decide
theorem iT_66 : (66 : Int32).toInt = 66 := by decide
theorem iT_68 : (68 : Int32).toInt = 68 := by decide
theorem iT_71 : (71 : Int32).toInt = 71 := by decide
theorem iT_74 : (74 : Int32).toInt = 74 := by decide
theorem iT_80 : (80 : Int32).toInt = 80 := by decide
theorem iT_87 : (87 : Int32).toInt = 87 := by decide
theorem iT_97 : (97 : Int32).toInt = 97 := by decide
theorem iT_100 : (100 : Int32).toInt = 100 := by decide
theorem iT_113 : (113 : Int32).toInt = 113 := by decide
theorem iT_122 : (122 : Int32).toInt = 122 := by decide
theorem iT_200 : (200 : Int32).toInt = 200 := by decide
theorem iT_240 : (240 : Int32).toInt = 240 := by decide
theorem iTm1 : (-1 : Int32).toInt = -1 := by decide
theorem iTm2 : (-2 : Int32).toInt = -2 := by decide
theorem iTm3 : (-3 : Int32).toInt = -3 := by decide
theorem iTm4 : (-4 : Int32).toInt = -4 := by decide
theorem iTm9 : (-9 : Int32).toInt = -9 := by decide
theorem iTm10 : (-10 : Int32).toInt = -10 := by decide
theorem iTm11 : (-11 : Int32).toInt = -11 := by decide
theorem iTm12 : (-12 : Int32).toInt = -12 := by decide
theorem iTm13 : (-13 : Int32).toInt = -13 := by decide
theorem iTm14 : (-14 : Int32).toInt = -14 := by decide
theorem iTm100 : (-100 : Int32).toInt = -100 := by decide
