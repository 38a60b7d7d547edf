/-! THE CLAIM OUT OF ONE WALK OF THE LAW'S BODY. Your part is whole_start (and what it stands on); all else here is the same for every law, but numbers. -/
def R_law : String := "RangeRulesLaw"
def lw_P (b : Addr) (xs : List Int32) (args : Array Value) (s : State) : Prop := args = #[.ref b] ∧ s.IntsAt b xs ∧ xs.length ≤ 3584 ∧ (Jvm.Cond.and given_1 narrow_1).before args s = true
def lw_Q (_ : Array Value) (s : State) (o : Outcome) (t : State) : Prop := o = .returned (some (.int 1)) ∧ Framed s o t [] 600000 7302250
def lw_Z (below : List Frame) (a : Array Value) (s : State) : State → Prop := fun t => ∃ o, t.status = .running ∧ Ended t below o ∧ lw_Q a s o t
/-- the law's own end, with 1 on the stack, nothing written that was there before, its room as the claim has it -/
theorem lw_ret {p : Program} {l : Launch} {e : Env} {s : State} {m : MethodId} {below : List Frame} {meth : Method} {c : Code} {b : Nat} (hx : p.tables.exec = Jvm.exec) (hb : c.code = code) (hr : meth.sig.returnType = ret) (hlocks : meth.locks = false) {pc : Nat} {H : Heap} {ls : Array Slot} (hdg : decode code pc = .ok (.ireturn, 1)) : W p l e room_1 s m #[Value.ref b] below meth c H [] 600000 7302250 (lw_Z below #[Value.ref b] s) (F0 m pc ls [.int 1]) := by
  intro T hT X
  obtain ⟨fs, hret, hrun, hended, hW, hframe⟩ := X.leave (v := some (.int 1)) (hlocks := hlocks) (fun h => by rw [hr] at h; cases h)
  have hmeth' : T.vm.method? m = some meth := X.method'
  refine ⟨T.setFrames fs, ?_, .returned (some (.int 1)), hrun, hended, rfl, ⟨_, rfl⟩, hW, hframe⟩
  jvm_step X.here [X.here.top, hx, hb, hdg, hmeth', hr, ret, narrow_b1]
  (try refine ⟨rfl, ?_⟩); (try refine ⟨rfl, ?_⟩)
  first | (intro acts; rw [hret _ acts rfl rfl rfl]) | rw [hret _ _ rfl rfl rfl]
  exact Steps.refl _
/-- what holds at the law's entry: the machine, the code, the tables' words (any of lw_tbl by 'hts w (by decide +kernel)'), the script of L ints xs at the cell b, what the Statement gives of the start (any of its parts by flat_of_before) -/
def lw_At (p : Program) (s : State) (m : MethodId) (meth : Method) (c : Code) (b L : Nat) (xs : Nat → Int32) : Prop :=
  p.tables.exec = Jvm.exec ∧ c.code = code ∧ meth.sig.returnType = ret ∧ c.maxLocals = 4 ∧ s.vm.findClass R_law = some m.cls ∧ (∀ w ∈ lw_tbl, w.before #[Value.ref b] s = true) ∧ va_X b L xs s s.heap ∧ b < s.heap.size ∧ meth.locks = false ∧ (Jvm.Cond.and given_1 narrow_1).before #[Value.ref b] s = true
theorem ar_of {s : State} {cA : ClassId} {kA : Class} {comp : ClassId} {ty : FieldType} (h1 : s.vm.classes[cA]? = some kA) (h2 : kA.kind = .array comp ty) : ArrOfT s cA ty := fun n z => ⟨(fun k h => by cases h), kA, h1, comp, h2⟩
set_option maxHeartbeats 4000000 in
set_option maxRecDepth 100000 in
theorem whole_start {p : Program} {e : Env} {s : State} {m : MethodId} {below : List Frame} {meth : Method} {c : Code} (l : Launch) (hflags : l.flags = flags0) {b L : Nat} {xs : Nat → Int32} (hL : L ≤ 3584) (C0 : lw_At p s m meth c b L xs) : W p l e room_1 s m #[Value.ref b] below meth c s.heap [] 0 0 (lw_Z below #[Value.ref b] s) (entryFrame m ([Value.ref b] : List Value).toArray 4) := by
  obtain ⟨hx, hb, hr, hml, hown, hts, hX, hbl, hlocks, hgv⟩ := id C0
  obtain ⟨c0, i0, k0⟩ := u_known (C := RX0) (T := TX0) (N := 3) (n := 3) hts (fun w hw => gT_tbl (uX0 w hw)) (hts _ (gT_tbl jiX0))
  obtain ⟨c1, i1, k1⟩ := u_known (C := RX1) (T := TX1) (N := 3) (n := 3) hts (fun w hw => gT_tbl (uX1 w hw)) (hts _ (gT_tbl jiX1))
  obtain ⟨c2, i2, k2⟩ := u_known (C := RX2) (T := TX2) (N := 3) (n := 3) hts (fun w hw => gT_tbl (uX2 w hw)) (hts _ (gT_tbl jiX2))
  obtain ⟨c3, i3, k3⟩ := u_known (C := RX3) (T := TX3) (N := 5) (n := 5) hts (fun w hw => gT_tbl (uX3 w hw)) (hts _ (gT_tbl jiX3))
  obtain ⟨c4, i4, k4⟩ := u_known (C := RX5) (T := TX5) (N := 8) (n := 8) hts (fun w hw => gT_tbl (uX5 w hw)) (hts _ (gT_tbl jiX5))
  obtain ⟨c5, i5, k5⟩ := u_known (C := RX6) (T := TX6) (N := 17) (n := 17) hts (fun w hw => gT_tbl (uX6 w hw)) (hts _ (gT_tbl jiX6))
  obtain ⟨cI, kI, pI0, a1, a2, a3⟩ := Cond.arrayClass_spec (hts _ (gT_tbl ja_int))
  have hoL := hts (.arrayOver (.object RX3)) (List.mem_of_getElem? (i := 70) (by decide +kernel))
  have hoW := hts (.arrayOver (.object RX2)) (List.mem_of_getElem? (i := 142) (by decide +kernel))
  obtain ⟨pW, cW, kW, w1, -, w2, w3, w4⟩ := Cond.arrayOver_spec hoW
  obtain ⟨pL, cL, kL, l1, -, l2, l3, l4⟩ := Cond.arrayOver_spec hoL
  have hK : va_K (fun k => if k = 0 then c0 else if k = 1 then c1 else if k = 2 then c2 else if k = 3 then c3 else if k = 4 then c4 else c5, fun k => if k = 0 then i0 else if k = 1 then i1 else if k = 2 then i2 else if k = 3 then i3 else if k = 4 then i4 else i5) vwCl [(cI, .int), (cW, .object RX2), (cL, .object RX3)] s := by
    refine ⟨fun c q hq => ?_, fun k q hq => ?_⟩
    · match c, hq with
      | 0, hq => cases hq; exact k0
      | 1, hq => cases hq; exact k1
      | 2, hq => cases hq; exact k2
      | 3, hq => cases hq; exact k3
      | 4, hq => cases hq; exact k4
      | 5, hq => cases hq; exact k5
      | c + 6, hq => simp [vwCl] at hq
    · match k, hq with
      | 0, hq => cases hq; exact ⟨ar_of a2 a3, a1⟩
      | 1, hq => cases hq; exact ⟨ar_of w2 w3, kW, pW, w2, w3, w1, w4⟩
      | 2, hq => cases hq; exact ⟨ar_of l2 l3, kL, pL, l2, l3, l1, l4⟩
      | k + 3, hq => simp at hq
  have hns : gNs s := ⟨va_tabs rfl rfl (hts _ (List.mem_of_getElem? (i := 73) (by decide +kernel))), va_tabs rfl rfl (hts _ (List.mem_of_getElem? (i := 92) (by decide +kernel))), va_tabs rfl rfl (hts _ (List.mem_of_getElem? (i := 144) (by decide +kernel))), va_tabs rfl rfl (hts _ (List.mem_of_getElem? (i := 227) (by decide +kernel))), va_AO.of hoL, va_AO.of hoW⟩
  generalize (fun k => if k = 0 then c0 else if k = 1 then c1 else if k = 2 then c2 else if k = 3 then c3 else if k = 4 then c4 else c5 : Nat → ClassId) = dC at hK
  generalize (fun k => if k = 0 then i0 else if k = 1 then i1 else if k = 2 then i2 else if k = 3 then i3 else if k = 4 then i4 else i5 : Nat → Nat → Nat) = dI at hK
  obtain ⟨V, hV⟩ : ∃ V : gV, V = ((dC, dI), (cI, cW, cL), s.heap.size) := ⟨_, rfl⟩
  have hK : va_K V.1 vwCl (gtys V) s := by rw [hV]; exact hK
  have hbs : V.2.2 = s.heap.size := by rw [hV]
  clear hV
  obtain ⟨K, hKe⟩ : ∃ K : gX, K = (p, l, e, room_1, s, m, #[Value.ref b], below, meth, c) := ⟨_, rfl⟩
  have hk : gOk l room_1 K V cL_law 4 RL meth.sig.returnType meth.name := by
    rw [hKe]
    exact ⟨rfl, rfl, hx, hb, hml, hown, fun w hw => hts w (gT_tbl hw), rfl, rfl, hlocks, hK, Nat.le_of_eq hbs, hns⟩
  have hlx : lX K V b L xs := by
    rw [hKe]
    exact ⟨hX, hbl, by rw [hbs]; exact Nat.not_le.mpr hbl⟩
  have hq : ∀ (ad : Nat → Nat) (E2 : Nat → va_E), G K V 4 (lw_Z below #[Value.ref b] s) ad 44 44 786 1057 [(0, .ref b), (1, .ref (ad 0)), (2, .ref (ad 34))] [] E2 := by
    intro ad E2
    refine G_iconst (v := 1) hk dL_law_1057 (by decide) ?_
    rw [hKe]
    intro H locs ls hP hz hS hl
    refine va_forget (fun q hq => by rw [← hbs]; exact hS.2.2 q hq) ?_
    refine W.widen (k := 600000) (n := 7302250) (Nat.le_of_ble_eq_true rfl) (Nat.le_of_ble_eq_true rfl) ?_
    exact lw_ret hx hb hr hlocks dL_law_1058
  have body : ∀ (ad : Nat → Nat) (E : Nat → va_E), G K V 4 (lw_Z below #[Value.ref b] s) ad 0 0 0 0 [(0, .ref b)] [] E := by
    intro ad E
    refine G_new (ci := 4) (fs := [.null, .null, .null, .null, .null, .int 0, .int 0, .int 0]) hk uX5 tyX5 tyX5_ok jlL_7 jiX5 jnX5 rfl (by decide) dL_law_0 (Nat.le_of_ble_eq_true rfl) (Nat.le_of_ble_eq_true rfl) (fun q1 => ?_)
    refine G_dup hk dL_law_3 rfl ?_
    refine G_cI (k := 0) hk (c_X5_init l V _ _ rfl) mX5_init vX5_init rfl kL_9 dL_law_4 rfl ⟨(Nat.le_of_ble_eq_true rfl), (Nat.le_of_ble_eq_true rfl)⟩ ⟨(Nat.le_of_ble_eq_true rfl), (Nat.le_of_ble_eq_true rfl)⟩ rfl (Nat.le_of_ble_eq_true rfl) (fun ad2 E2 h2 => ?_)
    obtain ⟨e0, w5⟩ := h2
    have e0 : ad2 0 = q1 := e0
    subst e0
    refine G_astore_n (i := 1) hk dL_law_7 rfl (by decide) rfl ?_
    refine G_new (ci := 5) (fs := [.int 0, .int 0, .null, .null, .null, .int 0, .null, .int 0, .int 0, .null, .null, .int 0, .int 0, .null, .int 0, .null, .null]) hk uX6 tyX6 tyX6_ok jlL_10 jiX6 jnX6 rfl (by decide) dL_law_8 (Nat.le_of_ble_eq_true rfl) (Nat.le_of_ble_eq_true rfl) (fun q3 => ?_)
    refine G_dup hk dL_law_11 rfl ?_
    refine G_cI (k := 34) hk (c_X6_init l V _ _ rfl) mX6_init vX6_init rfl kL_12 dL_law_12 rfl ⟨(Nat.le_of_ble_eq_true rfl), (Nat.le_of_ble_eq_true rfl)⟩ ⟨(Nat.le_of_ble_eq_true rfl), (Nat.le_of_ble_eq_true rfl)⟩ rfl (Nat.le_of_ble_eq_true rfl) (fun ad4 E4 h4 => ?_)
    obtain ⟨a4, x4, so, hso, m0, g35, g36, g37, g38, g39, g40, g41, g42, g43, m3⟩ := h4
    have e1 : ad4 0 = ad2 0 := a4 0 (by decide)
    have e2 : ad4 34 = q3 := a4 34 (by decide)
    subst e2
    rw [← e1]
    have w6 : W5 V ad4 E4 := w5.mv (fun k hk => (a4 k (by omega)).trans (va_up_ne _ _ (by omega))) (fun k hk => (x4 k hk).trans (va_up_ne _ _ (by omega)))
    clear w5 a4 x4
    refine G_astore_n (i := 2) hk dL_law_15 rfl (by decide) rfl ?_
    refine G_iconst (v := 0) hk dL_law_16 (by decide) ?_
    refine G_istore_n (i := 3) hk dL_law_17 rfl (by decide) rfl ?_
    obtain ⟨h0, ⟨b0, ⟨f1, b1, b2⟩, b3, b4, b5⟩, ⟨d0, ⟨f2, d1, d2⟩, d3, d4, d5⟩, ⟨f3, r1, r2⟩, p1, p2, rws⟩ := w6
    refine G_alike (k := 2) (g := fun i => some (ad4 (1 + 4 + i))) b1 b2 ?_
    refine G_alike (k := 13) (g := fun i => some (ad4 (12 + 4 + i))) ((va_up_ne _ _ (by decide)).trans d1) d2 ?_
    refine G_alike (k := 23) (g := fun i => some (ad4 (26 + 2 * i))) ((va_up_ne _ _ (by decide)).trans ((va_up_ne _ _ (by decide)).trans r1)) r2 ?_
    refine G_lv (by exact And.intro rfl (And.intro rfl (And.intro rfl (And.intro rfl (trivial))))) (law_loop hk hlx hL (hq ad4) (L + 8) 0 _ (by omega) (by omega) ?_)
    refine ⟨0, fun _ => r0, 0, fun _ => 0, fun _ => 0, 0, 0, fun _ => -1, fun _ => 0, fun _ _ => 0, ?_, ?_, fun i hi => absurd hi (Nat.not_lt_zero i), fun s hs => Or.inl rfl⟩
    · refine ⟨h0, ⟨id, b0, rfl, fun i hi => ?_, by decide, fun i hi => hi, fun i j _ _ h => h, by decide⟩, ⟨0, 0, fun _ => 0, b3, b4⟩, ⟨0, id, fun _ => r0, d0, rfl, fun i hi => ?_, by decide, fun i hi => hi, fun i j _ _ h => h, by decide⟩, ⟨0, 0, fun _ => 0, d3, d4⟩, rfl, p1, p2, fun s hs => ⟨?_, ?_, Nat.zero_le 60⟩, Nat.zero_le 8⟩
      · rw [va_up_ne _ _ (show 1 + 4 + id i ≠ 23 by simp only [id]; omega), va_up_ne _ _ (show 1 + 4 + id i ≠ 13 by simp only [id]; omega), va_up_ne _ _ (show 1 + 4 + id i ≠ 2 by simp only [id]; omega)]
        exact b5 i hi
      · rw [va_up_ne _ _ (show 12 + 4 + id i ≠ 23 by simp only [id]; omega), va_up_ne _ _ (show 12 + 4 + id i ≠ 13 by simp only [id]; omega), va_up_ne _ _ (show 12 + 4 + id i ≠ 2 by simp only [id]; omega)]
        exact d5 i hi
      · rw [va_up_ne _ _ (by omega), va_up_ne _ _ (by omega), va_up_ne _ _ (by omega)]
        exact (rws s hs).1
      · rw [va_up_ne _ _ (by omega), va_up_ne _ _ (by omega), va_up_ne _ _ (by omega)]
        exact (rws s hs).2
    · exact ⟨0, 0, 0, 0, so, fun _ => 0, fun _ => 0, fun _ => 0, fun _ => 0, fun _ => 0, fun _ => 0, fun _ => 0, fun _ => 0, ⟨m0, g35, g36, g37, g38, g39, g40, g41, g42, g43, m3⟩, by decide, fun i hi => absurd hi (Nat.not_lt_zero i), fun q hq => absurd hq (Nat.not_lt_zero q), fun s hs => by rw [if_pos rfl]; exact hso s hs, fun s hs hl => absurd rfl hl, fun s hs => Nat.zero_le 60⟩
  have hl := lv_entry ([.ref b]) (n := 4) (Nat.le_of_ble_eq_true rfl)
  rw [lg_entry_eq]
  rw [hKe] at body
  exact body (fun _ => 0) (fun _ => .inr (0, [])) s.heap [] _ (fun k q h => by simp [gwd] at h) ⟨fun i j p q h => by simp [gwd] at h, fun k q h => by simp [gwd] at h⟩ va_S.rf ⟨hl.1, hl.2.1, fun i v hv => hl.2.2 (i, v) (gL_mem _ _ _ hv)⟩
