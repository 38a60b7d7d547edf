/-! the walk's own judgement: a body's machine data as one tuple K; the world: the cells from the address V.2.2 on, by place, as a function E -/
abbrev gX : Type := Program × Launch × Env × Room × State × MethodId × Array Value × List Frame × Method × Code
abbrev gW (K : gX) (H : Heap) (locs : List Loc) (cells slots : Nat) (Q : State → Prop) (g : JFrame) : Prop := W K.1 K.2.1 K.2.2.1 K.2.2.2.1 K.2.2.2.2.1 K.2.2.2.2.2.1 K.2.2.2.2.2.2.1 K.2.2.2.2.2.2.2.1 K.2.2.2.2.2.2.2.2.1 K.2.2.2.2.2.2.2.2.2 H locs cells slots Q g
abbrev gs (K : gX) : State := K.2.2.2.2.1
abbrev gm (K : gX) : MethodId := K.2.2.2.2.2.1
abbrev ga (K : gX) : Array Value := K.2.2.2.2.2.2.1
abbrev gme (K : gX) : Method := K.2.2.2.2.2.2.2.2.1
abbrev gc (K : gX) : Code := K.2.2.2.2.2.2.2.2.2
abbrev gV : Type := va_G × (ClassId × ClassId × ClassId) × Nat
abbrev gtys (V : gV) : List (ClassId × FieldType) := [(V.2.1.1, .int), (V.2.1.2.1, .object RX2), (V.2.1.2.2, .object RX3)]
abbrev gI (V : gV) (n : Nat) (f : Nat → Int32) : va_E := .inl (V.2.1.1, n, .inl f)
abbrev gRw (V : gV) (n : Nat) (f : Nat → Option Nat) : va_E := .inl (V.2.1.2.1, n, .inr (.inr (.inr (.inr f))))
abbrev gRl (V : gV) (n : Nat) (f : Nat → Option Nat) : va_E := .inl (V.2.1.2.2, n, .inr (.inr (.inr (.inr f))))
def gwd (ad : Nat → Nat) (N : Nat) (E : Nat → va_E) : va_W := (List.range N).map (fun k => (ad k, E k))
theorem gwd_get {ad : Nat → Nat} {N k : Nat} {E : Nat → va_E} (h : k < N) : (gwd ad N E)[k]? = some (ad k, E k) := by simp [gwd, h]
theorem gwd_lt {ad : Nat → Nat} {N k : Nat} {E : Nat → va_E} {q : Nat × va_E} (h : (gwd ad N E)[k]? = some q) : k < N ∧ q = (ad k, E k) := by
  have hl := (List.getElem?_eq_some_iff.mp h).1
  simp only [gwd, List.length_map, List.length_range] at hl
  rw [gwd_get hl] at h
  exact ⟨hl, (Option.some.inj h).symm⟩
theorem gwd_set {ad : Nat → Nat} {N k : Nat} {E : Nat → va_E} {e : va_E} (h : k < N) : (gwd ad N E).set k (ad k, e) = gwd ad N (va_up E k e) := by
  apply List.ext_getElem?
  intro i
  by_cases hi : i < N
  · rw [gwd_get hi]
    by_cases hk : i = k
    · subst hk
      rw [List.getElem?_set_self (by simp [gwd]; exact hi), va_up_self]
    · rw [List.getElem?_set_ne (Ne.symm hk), gwd_get hi, va_up_ne _ _ hk]
  · rw [List.getElem?_eq_none (by simp [gwd]; omega), List.getElem?_eq_none (by simp [gwd]; omega)]
theorem gwd_push {ad : Nat → Nat} {N q : Nat} {E : Nat → va_E} {e : va_E} : gwd ad N E ++ [(q, e)] = gwd (va_up ad N q) (N + 1) (va_up E N e) := by
  unfold gwd
  rw [List.range_succ, List.map_append]
  congr 1
  · apply List.map_congr_left
    intro k hk
    have hne := Nat.ne_of_lt (List.mem_range.mp hk)
    rw [va_up_ne _ _ hne, va_up_ne _ _ hne]
  · simp [va_up_self]
/-- what isn't good as a word of a table: links to nest mates, arrays over own classes -/
def gNs (U : State) : Prop := va_Nw (.methodLinkNest RX1 19 yX0_init RX5) U ∧ va_Nw (.methodLinkNest RX1 24 yX3_init RX5) U ∧ va_Nw (.methodLinkNest RX5 34 yX2_init RX5) U ∧ va_Nw (.methodLinkNest RX4 27 yX5_isIn RX5) U ∧ va_AO RX3 U ∧ va_AO RX2 U
theorem gNs.warm {s U : State} (hW : s.WarmedH U.vm) (h : gNs s) : gNs U := ⟨va_Nw.warmM hW h.1, va_Nw.warmM hW h.2.1, va_Nw.warmM hW h.2.2.1, va_Nw.warmM hW h.2.2.2.1, va_AO.moved hW.alike h.2.2.2.2.1, va_AO.moved hW.alike h.2.2.2.2.2⟩
theorem gNs.same {s U : State} (h : gNs s) (e : s.vm = U.vm) : gNs U := ⟨va_Nw.same rfl e h.1, va_Nw.same rfl e h.2.1, va_Nw.same rfl e h.2.2.1, va_Nw.same rfl e h.2.2.2.1, va_AO.moved (e ▸ Vm.Alike.refl s.vm) h.2.2.2.2.1, va_AO.moved (e ▸ Vm.Alike.refl s.vm) h.2.2.2.2.2⟩
/-- what a body knows -/
def gOk (l : Launch) (rm : Room) (K : gX) (V : gV) (cc : ByteArray) (nL : Nat) (own : String) (ret : Option FieldType) (nm : String) : Prop :=
  K.2.1 = l ∧ K.2.2.2.1 = rm ∧ K.1.tables.exec = Jvm.exec ∧ (gc K).code = cc ∧ (gc K).maxLocals = nL ∧ (gs K).vm.findClass own = some (gm K).cls ∧ (∀ w ∈ gT, w.before (ga K) (gs K) = true) ∧ (gme K).sig.returnType = ret ∧ (gme K).name = nm ∧ (gme K).locks = false ∧ va_K V.1 vwCl (gtys V) (gs K) ∧ V.2.2 ≤ (gs K).heap.size ∧ gNs (gs K)
/-- locals: the first pair of a place counts -/
def gL : List (Nat × Value) → Nat → Option Value
  | [], _ => none
  | q :: l, i => if q.1 = i then some q.2 else gL l i
def gDd : List (Nat × Value) → List (Nat × Value)
  | [] => []
  | q :: l => q :: (gDd l).filter (fun r => !(r.1 == q.1))
def gN1 : List (Nat × Value) → Nat → Bool
  | [], _ => true
  | q :: l, i => (!(q.1 + 1 == i) || q.2.category == 1) && gN1 l i
def gN0 : List (Nat × Value) → Nat → Bool
  | [], _ => true
  | q :: l, i => !(q.1 == i) && gN0 l i
theorem gDd_of : ∀ (l : List (Nat × Value)) (q : Nat × Value), q ∈ gDd l → gL l q.1 = some q.2
  | [], q, h => by cases h
  | r :: l, q, h => by
    simp only [gDd, List.mem_cons, List.mem_filter] at h
    rcases h with rfl | ⟨h1, h2⟩
    · simp [gL]
    · have ih := gDd_of l q h1
      have hne : ¬ r.1 = q.1 := by
        intro e
        simp [e] at h2
      simp only [gL, if_neg hne]
      exact ih
theorem gDd_in : ∀ (l : List (Nat × Value)) (i : Nat) (v : Value), gL l i = some v → (i, v) ∈ gDd l
  | [], i, v, h => by cases h
  | r :: l, i, v, h => by
    simp only [gL] at h
    split at h
    · rename_i e
      cases h
      subst e
      simp [gDd]
    · rename_i e
      have ih := gDd_in l i v h
      simp only [gDd, List.mem_cons, List.mem_filter]
      refine Or.inr ⟨ih, ?_⟩
      simp
      exact fun q => e q.symm
theorem gN1_of : ∀ (l : List (Nat × Value)) (i j : Nat) (v : Value), gN1 l i = true → gL l j = some v → j + 1 = i → v.category = 1
  | [], i, j, v, _, h, _ => by cases h
  | r :: l, i, j, v, h1, h2, h3 => by
    simp only [gN1, Bool.and_eq_true] at h1
    simp only [gL] at h2
    split at h2
    · rename_i e
      cases h2
      have h4 := h1.1
      simp [e, h3] at h4
      exact h4
    · exact gN1_of l i j v h1.2 h2 h3
theorem gN0_of : ∀ (l : List (Nat × Value)) (i : Nat), gN0 l i = true → gL l i = none
  | [], i, _ => rfl
  | r :: l, i, h => by
    simp only [gN0, Bool.and_eq_true] at h
    have h1 : ¬ r.1 = i := by
      intro e
      simp [e] at h
    simp only [gL, if_neg h1]
    exact gN0_of l i h.2
def gH (ls : Array Slot) (nL : Nat) (lv : List (Nat × Value)) : Prop := ls.size = nL ∧ lv_wf ls ∧ ∀ (i : Nat) (v : Value), gL lv i = some v → ls[i]? = some (.val v)
theorem gH.has {ls : Array Slot} {nL : Nat} {lv : List (Nat × Value)} (h : gH ls nL lv) : lv_has ls nL (gDd lv) := ⟨h.1, h.2.1, fun q hq => h.2.2 _ _ (gDd_of lv q hq)⟩
theorem gH.of {ls : Array Slot} {nL : Nat} {lv : List (Nat × Value)} (h : lv_has ls nL (gDd lv)) : gH ls nL lv := ⟨h.1, h.2.1, fun i v hv => h.2.2 (i, v) (gDd_in lv i v hv)⟩
theorem gH.of1 {ls : Array Slot} {nL i : Nat} {v : Value} {lv : List (Nat × Value)} (hn : gN1 lv i = true) (h : lv_has ls nL ((i, v) :: (gDd lv).filter (fun q => !(q.1 == i) && !(q.1 + 1 == i && q.2.category == 2)))) : gH ls nL ((i, v) :: lv) := by
  refine ⟨h.1, h.2.1, fun j w hj => ?_⟩
  simp only [gL] at hj
  split at hj
  · rename_i e
    cases hj
    subst e
    exact h.2.2 (i, v) List.mem_cons_self
  · rename_i e
    refine h.2.2 (j, w) (List.mem_cons_of_mem _ (List.mem_filter.mpr ⟨gDd_in lv j w hj, ?_⟩))
    have h1 : ¬ j = i := fun q => e q.symm
    by_cases h2 : j + 1 = i
    · have h3 := gN1_of lv i j w hn hj h2
      simp [h1, h3]
    · simp [h1, h2]
theorem gH.of2 {ls : Array Slot} {nL i : Nat} {v : Value} {lv : List (Nat × Value)} (hn : gN1 lv i = true) (h0 : gN0 lv (i + 1) = true) (h : lv_has ls nL ((i, v) :: (gDd lv).filter (fun q => !(q.1 == i) && (!(q.1 == i + 1) && !(q.1 + 1 == i && q.2.category == 2))))) : gH ls nL ((i, v) :: lv) := by
  refine ⟨h.1, h.2.1, fun j w hj => ?_⟩
  simp only [gL] at hj
  split at hj
  · rename_i e
    cases hj
    subst e
    exact h.2.2 (i, v) List.mem_cons_self
  · rename_i e
    refine h.2.2 (j, w) (List.mem_cons_of_mem _ (List.mem_filter.mpr ⟨gDd_in lv j w hj, ?_⟩))
    have h1 : ¬ j = i := fun q => e q.symm
    have h4 : ¬ j = i + 1 := fun q => by
      subst q
      rw [gN0_of lv _ h0] at hj
      cases hj
    by_cases h2 : j + 1 = i
    · have h3 := gN1_of lv i j w hn hj h2
      simp [h1, h3, h4]
    · simp [h1, h2, h4]
/-- from pc, with these locals, this stack, this world of N cells: the body comes to Q -/
def G (K : gX) (V : gV) (nL : Nat) (Q : State → Prop) (ad : Nat → Nat) (N cells slots pc : Nat) (lv : List (Nat × Value)) (st : List Value) (E : Nat → va_E) : Prop :=
  ∀ (H : Heap) (locs : List Loc) (ls : Array Slot), va_P V.1 vwCl (gwd ad N E) H → va_D (fun q => V.2.2 ≤ q) (gwd ad N E) → va_S (fun q => V.2.2 ≤ q) (gs K).heap H locs → gH ls nL lv → gW K H locs cells slots Q (F0 (gm K) pc ls st)
def gQc (V : gV) (N : Nat) (post : Option Value → (Nat → Nat) → (Nat → va_E) → Prop) : Array Value → State → Outcome → State → Prop := fun _ st oc t =>
  (∃ (r : Option Value) (ad : Nat → Nat) (E : Nat → va_E), oc = .returned r ∧ post r ad E ∧ va_P V.1 vwCl (gwd ad N E) t.heap ∧ va_D (fun q => V.2.2 ≤ q) (gwd ad N E)) ∧ va_F (fun q => V.2.2 ≤ q) st t
def gPc (V : gV) (ad : Nat → Nat) (N : Nat) (as : List Value) (E : Nat → va_E) : Array Value → State → Prop := va_Pc as (fun U => va_P V.1 vwCl (gwd ad N E) U.heap ∧ va_K V.1 vwCl (gtys V) U ∧ va_D (fun q => V.2.2 ≤ q) (gwd ad N E) ∧ V.2.2 ≤ U.heap.size ∧ gNs U)
theorem gL_mem : ∀ (l : List (Nat × Value)) (i : Nat) (v : Value), gL l i = some v → (i, v) ∈ l
  | [], i, v, h => by cases h
  | r :: l, i, v, h => by
    simp only [gL] at h
    split at h
    · rename_i e
      cases h
      subst e
      exact List.mem_cons_self
    · exact List.mem_cons_of_mem _ (gL_mem l i v h)
/-- a method's contract over the whole world -/
def Ct (l : Launch) (V : gV) (ad : Nat → Nat) (N N' : Nat) (y : MethodName) (cc : ByteArray) (maxL : Nat) (ret : Option FieldType) (rm : Room) (as : List Value) (E : Nat → va_E) (post : Option Value → (Nat → Nat) → (Nat → va_E) → Prop) : Prop :=
  Met l y (Cond.code y cc maxL ret :: gT) rm (gPc V ad N as E) (gQc V N' post) rm.cells rm.slots (fun q => V.2.2 ≤ q)
abbrev gQ (K : gX) (V : gV) (N c s : Nat) (post : Option Value → (Nat → Nat) → (Nat → va_E) → Prop) : State → Prop := MQ K.2.2.2.2.2.2.2.1 (gQc V N post) (ga K) (gs K) c s (fun q => V.2.2 ≤ q)
def pI (ad : Nat → Nat) (post : Int32 → (Nat → va_E) → Prop) : Option Value → (Nat → Nat) → (Nat → va_E) → Prop := fun r ad2 E => ∃ v : Int32, r = some (.int v) ∧ ad2 = ad ∧ post v E
def pJ (ad : Nat → Nat) (post : Int64 → (Nat → va_E) → Prop) : Option Value → (Nat → Nat) → (Nat → va_E) → Prop := fun r ad2 E => ∃ v : Int64, r = some (.long v) ∧ ad2 = ad ∧ post v E
def pV (ad : Nat → Nat) (post : (Nat → va_E) → Prop) : Option Value → (Nat → Nat) → (Nat → va_E) → Prop := fun r ad2 E => r = none ∧ ad2 = ad ∧ post E
/-- a maker: the addresses of the old places stay -/
def pN (post : (Nat → Nat) → (Nat → va_E) → Prop) : Option Value → (Nat → Nat) → (Nat → va_E) → Prop := fun r ad2 E => r = none ∧ post ad2 E
theorem gCt {l : Launch} {V : gV} {ad : Nat → Nat} {N N' : Nat} {y : MethodName} {cc : ByteArray} {maxL n : Nat} {ret : Option FieldType} {rm : Room} {as : List Value} {E : Nat → va_E} {post : Option Value → (Nat → Nat) → (Nat → va_E) → Prop} (hm : gMeth y cc maxL ret n) (hsl : (lg_sl as).length ≤ maxL)
    (body : ∀ K : gX, gOk l rm K V cc maxL y.cls ret y.name → G K V maxL (gQ K V N' rm.cells rm.slots post) ad N 0 0 0 (lv_args 0 as) [] E) : Ct l V ad N N' y cc maxL ret rm as E post := by
  refine Met.ofW (cc := cc) (maxL := maxL) (ret := ret) hm.2.2.2 rfl ?_
  intro p e s m args below meth c s₁ B hml hv
  obtain ⟨rfl, hP, hK, hz, hbs, hns⟩ := hv
  have hts := atoms_spec (ws := Cond.code y cc maxL ret :: gT) B.pre
  have hl := lv_entry as (n := maxL) hsl
  rw [lg_entry_eq]
  exact body (p, l, e, rm, s, m, as.toArray, below, meth, c) ⟨rfl, rfl, B.exec, B.bytes, hml, findClass_of_methodNamed B.named, fun w hw => hts w (List.mem_cons_of_mem _ hw), B.returns, (name_of_methodNamed B.named B.method).1, B.notSynchronized, hK, hbs, hns⟩ s.heap [] _ hP hz va_S.rf ⟨hl.1, hl.2.1, fun i v hv => hl.2.2 (i, v) (gL_mem _ _ _ hv)⟩

section GEE
variable {l : Launch} {rm : Room} {K : gX} {V : gV} {cc : ByteArray} {nL : Nat} {own : String} {ret : Option FieldType} {nm : String} {Q : State → Prop} {ad : Nat → Nat} {N cells slots pc : Nat} {lv : List (Nat × Value)} {st : List Value} {E : Nat → va_E}

theorem G_iconst (hk : gOk l rm K V cc nL own ret nm) {n : Int} {v : Int32} (hd : decode cc pc = .ok (.iconst n, 1)) (hv : Int32.ofInt n = v)
    (k : G K V nL Q ad N cells slots (pc + 1) lv (.int v :: st) E) : G K V nL Q ad N cells slots pc lv st E := by
  obtain ⟨hl0, hR, hx, hb, hml, hown, hts, hr, hnm, hlk, hK, hbs, hns⟩ := hk
  intro H locs ls hP hz hS hl
  exact lv_iconst hx hb hd hv (k H locs ls hP hz hS hl)
theorem G_bipush (hk : gOk l rm K V cc nL own ret nm) {n : Int} {v : Int32} (hd : decode cc pc = .ok (.bipush n, 2)) (hv : (Int8.ofInt n).toInt32 = v)
    (k : G K V nL Q ad N cells slots (pc + 2) lv (.int v :: st) E) : G K V nL Q ad N cells slots pc lv st E := by
  obtain ⟨hl0, hR, hx, hb, hml, hown, hts, hr, hnm, hlk, hK, hbs, hns⟩ := hk
  intro H locs ls hP hz hS hl
  exact lv_bipush hx hb hd hv (k H locs ls hP hz hS hl)
theorem G_sipush (hk : gOk l rm K V cc nL own ret nm) {n : Int} {v : Int32} (hd : decode cc pc = .ok (.sipush n, 3)) (hv : (Int16.ofInt n).toInt32 = v)
    (k : G K V nL Q ad N cells slots (pc + 3) lv (.int v :: st) E) : G K V nL Q ad N cells slots pc lv st E := by
  obtain ⟨hl0, hR, hx, hb, hml, hown, hts, hr, hnm, hlk, hK, hbs, hns⟩ := hk
  intro H locs ls hP hz hS hl
  exact lv_sipush hx hb hd hv (k H locs ls hP hz hS hl)
theorem G_lconst (hk : gOk l rm K V cc nL own ret nm) {n : Fin 2} {v : Int64} (hd : decode cc pc = .ok (.lconst n, 1)) (hv : Int64.ofNat (n : Nat) = v)
    (k : G K V nL Q ad N cells slots (pc + 1) lv (.long v :: st) E) : G K V nL Q ad N cells slots pc lv st E := by
  obtain ⟨hl0, hR, hx, hb, hml, hown, hts, hr, hnm, hlk, hK, hbs, hns⟩ := hk
  intro H locs ls hP hz hS hl
  exact lv_lconst hx hb hd hv (k H locs ls hP hz hS hl)
theorem G_ldc2 (hk : gOk l rm K V cc nL own ret nm) {index : Nat} {v : Int64} (hc : Jvm.Cond.constantLong own index v ∈ gT) (hd : decode cc pc = .ok (.ldc2_w index, 3))
    (k : G K V nL Q ad N cells slots (pc + 3) lv (.long v :: st) E) : G K V nL Q ad N cells slots pc lv st E := by
  obtain ⟨hl0, hR, hx, hb, hml, hown, hts, hr, hnm, hlk, hK, hbs, hns⟩ := hk
  intro H locs ls hP hz hS hl
  exact lv_ldc2 hx hb hown (hts _ hc) hd (k H locs ls hP hz hS hl)
theorem G_iload_n (hk : gOk l rm K V cc nL own ret nm) {j : Fin 4} {i : Nat} {x : Int32} (hd : decode cc pc = .ok (.iload_n j, 1)) (hi : (j : Nat) = i) (hv : gL lv i = some (.int x))
    (k : G K V nL Q ad N cells slots (pc + 1) lv (.int x :: st) E) : G K V nL Q ad N cells slots pc lv st E := by
  obtain ⟨hl0, hR, hx, hb, hml, hown, hts, hr, hnm, hlk, hK, hbs, hns⟩ := hk
  intro H locs ls hP hz hS hl
  exact lv_iload_n hx hb hd hi (hl.2.2 _ _ hv) (k H locs ls hP hz hS hl)
theorem G_iload (hk : gOk l rm K V cc nL own ret nm) {i : Nat} {x : Int32} (hd : decode cc pc = .ok (.iload i, 2)) (hv : gL lv i = some (.int x))
    (k : G K V nL Q ad N cells slots (pc + 2) lv (.int x :: st) E) : G K V nL Q ad N cells slots pc lv st E := by
  obtain ⟨hl0, hR, hx, hb, hml, hown, hts, hr, hnm, hlk, hK, hbs, hns⟩ := hk
  intro H locs ls hP hz hS hl
  exact lv_iload hx hb hd (hl.2.2 _ _ hv) (k H locs ls hP hz hS hl)
theorem G_lload_n (hk : gOk l rm K V cc nL own ret nm) {j : Fin 4} {i : Nat} {x : Int64} (hd : decode cc pc = .ok (.lload_n j, 1)) (hi : (j : Nat) = i) (hv : gL lv i = some (.long x))
    (k : G K V nL Q ad N cells slots (pc + 1) lv (.long x :: st) E) : G K V nL Q ad N cells slots pc lv st E := by
  obtain ⟨hl0, hR, hx, hb, hml, hown, hts, hr, hnm, hlk, hK, hbs, hns⟩ := hk
  intro H locs ls hP hz hS hl
  exact lv_lload_n hx hb hd hi (hl.2.2 _ _ hv) (k H locs ls hP hz hS hl)
theorem G_lload (hk : gOk l rm K V cc nL own ret nm) {i : Nat} {x : Int64} (hd : decode cc pc = .ok (.lload i, 2)) (hv : gL lv i = some (.long x))
    (k : G K V nL Q ad N cells slots (pc + 2) lv (.long x :: st) E) : G K V nL Q ad N cells slots pc lv st E := by
  obtain ⟨hl0, hR, hx, hb, hml, hown, hts, hr, hnm, hlk, hK, hbs, hns⟩ := hk
  intro H locs ls hP hz hS hl
  exact lv_lload hx hb hd (hl.2.2 _ _ hv) (k H locs ls hP hz hS hl)
theorem G_aload_n (hk : gOk l rm K V cc nL own ret nm) {j : Fin 4} {i : Nat} {x : Nat} (hd : decode cc pc = .ok (.aload_n j, 1)) (hi : (j : Nat) = i) (hv : gL lv i = some (.ref x))
    (k : G K V nL Q ad N cells slots (pc + 1) lv (.ref x :: st) E) : G K V nL Q ad N cells slots pc lv st E := by
  obtain ⟨hl0, hR, hx, hb, hml, hown, hts, hr, hnm, hlk, hK, hbs, hns⟩ := hk
  intro H locs ls hP hz hS hl
  exact lv_aload_n hx hb hd hi (hl.2.2 _ _ hv) (k H locs ls hP hz hS hl)
theorem G_aload (hk : gOk l rm K V cc nL own ret nm) {i : Nat} {x : Nat} (hd : decode cc pc = .ok (.aload i, 2)) (hv : gL lv i = some (.ref x))
    (k : G K V nL Q ad N cells slots (pc + 2) lv (.ref x :: st) E) : G K V nL Q ad N cells slots pc lv st E := by
  obtain ⟨hl0, hR, hx, hb, hml, hown, hts, hr, hnm, hlk, hK, hbs, hns⟩ := hk
  intro H locs ls hP hz hS hl
  exact lv_aload hx hb hd (hl.2.2 _ _ hv) (k H locs ls hP hz hS hl)
theorem G_istore_n (hk : gOk l rm K V cc nL own ret nm) {j : Fin 4} {i : Nat} {x : Int32} (hd : decode cc pc = .ok (.istore_n j, 1)) (hi : (j : Nat) = i) (hn : i < nL) (h1 : gN1 lv i = true)
    (k : G K V nL Q ad N cells slots (pc + 1) ((i, .int x) :: lv) st E) : G K V nL Q ad N cells slots pc lv (.int x :: st) E := by
  obtain ⟨hl0, hR, hx, hb, hml, hown, hts, hr, hnm, hlk, hK, hbs, hns⟩ := hk
  intro H locs ls hP hz hS hl
  exact lv_istore_n hx hb hd hi hl.has hn rfl (fun ls1 hl1 => k H locs ls1 hP hz hS (gH.of1 h1 hl1))
theorem G_istore (hk : gOk l rm K V cc nL own ret nm) {i : Nat} {x : Int32} (hd : decode cc pc = .ok (.istore i, 2)) (hn : i < nL) (h1 : gN1 lv i = true)
    (k : G K V nL Q ad N cells slots (pc + 2) ((i, .int x) :: lv) st E) : G K V nL Q ad N cells slots pc lv (.int x :: st) E := by
  obtain ⟨hl0, hR, hx, hb, hml, hown, hts, hr, hnm, hlk, hK, hbs, hns⟩ := hk
  intro H locs ls hP hz hS hl
  exact lv_istore hx hb hd hl.has hn rfl (fun ls1 hl1 => k H locs ls1 hP hz hS (gH.of1 h1 hl1))
theorem G_astore_n (hk : gOk l rm K V cc nL own ret nm) {j : Fin 4} {i : Nat} {x : Nat} (hd : decode cc pc = .ok (.astore_n j, 1)) (hi : (j : Nat) = i) (hn : i < nL) (h1 : gN1 lv i = true)
    (k : G K V nL Q ad N cells slots (pc + 1) ((i, .ref x) :: lv) st E) : G K V nL Q ad N cells slots pc lv (.ref x :: st) E := by
  obtain ⟨hl0, hR, hx, hb, hml, hown, hts, hr, hnm, hlk, hK, hbs, hns⟩ := hk
  intro H locs ls hP hz hS hl
  exact lv_astore_n hx hb hd hi hl.has hn rfl (fun ls1 hl1 => k H locs ls1 hP hz hS (gH.of1 h1 hl1))
theorem G_astore (hk : gOk l rm K V cc nL own ret nm) {i : Nat} {x : Nat} (hd : decode cc pc = .ok (.astore i, 2)) (hn : i < nL) (h1 : gN1 lv i = true)
    (k : G K V nL Q ad N cells slots (pc + 2) ((i, .ref x) :: lv) st E) : G K V nL Q ad N cells slots pc lv (.ref x :: st) E := by
  obtain ⟨hl0, hR, hx, hb, hml, hown, hts, hr, hnm, hlk, hK, hbs, hns⟩ := hk
  intro H locs ls hP hz hS hl
  exact lv_astore hx hb hd hl.has hn rfl (fun ls1 hl1 => k H locs ls1 hP hz hS (gH.of1 h1 hl1))
theorem G_lstore (hk : gOk l rm K V cc nL own ret nm) {i : Nat} {x : Int64} (hd : decode cc pc = .ok (.lstore i, 2)) (hn : i + 1 < nL) (h1 : gN1 lv i = true) (h0 : gN0 lv (i + 1) = true)
    (k : G K V nL Q ad N cells slots (pc + 2) ((i, .long x) :: lv) st E) : G K V nL Q ad N cells slots pc lv (.long x :: st) E := by
  obtain ⟨hl0, hR, hx, hb, hml, hown, hts, hr, hnm, hlk, hK, hbs, hns⟩ := hk
  intro H locs ls hP hz hS hl
  exact lv_lstore hx hb hd hl.has hn rfl (fun ls1 hl1 => k H locs ls1 hP hz hS (gH.of2 h1 h0 hl1))
theorem gDd_k {lv : List (Nat × Value)} {i : Nat} {v : Value} (h : gL lv i = some v) : ∃ k : Nat, (gDd lv)[k]? = some (i, v) := List.getElem?_of_mem (gDd_in lv i v h)
theorem G_iinc (hk : gOk l rm K V cc nL own ret nm) {i : Nat} {n : Int} {x v : Int32} (hd : decode cc pc = .ok (.iinc i n, 3)) (hg : gL lv i = some (.int x)) (hv : x + Int32.ofInt n = v) (hn : i < nL) (h1 : gN1 lv i = true)
    (k : G K V nL Q ad N cells slots (pc + 3) ((i, .int v) :: lv) st E) : G K V nL Q ad N cells slots pc lv st E := by
  obtain ⟨hl0, hR, hx, hb, hml, hown, hts, hr, hnm, hlk, hK, hbs, hns⟩ := hk
  intro H locs ls hP hz hS hl
  obtain ⟨j, hj⟩ := gDd_k hg
  exact lv_iinc hx hb hd hl.has hj hv hn rfl (fun ls1 hl1 => k H locs ls1 hP hz hS (gH.of1 h1 hl1))
theorem G_iadd (hk : gOk l rm K V cc nL own ret nm) {x y : Int32} (hd : decode cc pc = .ok (.iadd, 1))
    (k : G K V nL Q ad N cells slots (pc + 1) lv (.int (x + y) :: st) E) : G K V nL Q ad N cells slots pc lv (.int y :: .int x :: st) E := by
  obtain ⟨hl0, hR, hx, hb, hml, hown, hts, hr, hnm, hlk, hK, hbs, hns⟩ := hk
  intro H locs ls hP hz hS hl
  exact lv_iadd hx hb hd (k H locs ls hP hz hS hl)
theorem G_isub (hk : gOk l rm K V cc nL own ret nm) {x y : Int32} (hd : decode cc pc = .ok (.isub, 1))
    (k : G K V nL Q ad N cells slots (pc + 1) lv (.int (x - y) :: st) E) : G K V nL Q ad N cells slots pc lv (.int y :: .int x :: st) E := by
  obtain ⟨hl0, hR, hx, hb, hml, hown, hts, hr, hnm, hlk, hK, hbs, hns⟩ := hk
  intro H locs ls hP hz hS hl
  exact lv_isub hx hb hd (k H locs ls hP hz hS hl)
theorem G_imul (hk : gOk l rm K V cc nL own ret nm) {x y : Int32} (hd : decode cc pc = .ok (.imul, 1))
    (k : G K V nL Q ad N cells slots (pc + 1) lv (.int (x * y) :: st) E) : G K V nL Q ad N cells slots pc lv (.int y :: .int x :: st) E := by
  obtain ⟨hl0, hR, hx, hb, hml, hown, hts, hr, hnm, hlk, hK, hbs, hns⟩ := hk
  intro H locs ls hP hz hS hl
  exact lv_imul hx hb hd (k H locs ls hP hz hS hl)
theorem G_iand (hk : gOk l rm K V cc nL own ret nm) {x y : Int32} (hd : decode cc pc = .ok (.iand, 1))
    (k : G K V nL Q ad N cells slots (pc + 1) lv (.int (x &&& y) :: st) E) : G K V nL Q ad N cells slots pc lv (.int y :: .int x :: st) E := by
  obtain ⟨hl0, hR, hx, hb, hml, hown, hts, hr, hnm, hlk, hK, hbs, hns⟩ := hk
  intro H locs ls hP hz hS hl
  exact lv_iand hx hb hd (k H locs ls hP hz hS hl)
theorem G_ior (hk : gOk l rm K V cc nL own ret nm) {x y : Int32} (hd : decode cc pc = .ok (.ior, 1))
    (k : G K V nL Q ad N cells slots (pc + 1) lv (.int (x ||| y) :: st) E) : G K V nL Q ad N cells slots pc lv (.int y :: .int x :: st) E := by
  obtain ⟨hl0, hR, hx, hb, hml, hown, hts, hr, hnm, hlk, hK, hbs, hns⟩ := hk
  intro H locs ls hP hz hS hl
  exact lv_ior hx hb hd (k H locs ls hP hz hS hl)
theorem G_idiv (hk : gOk l rm K V cc nL own ret nm) {x y : Int32} (hd : decode cc pc = .ok (.idiv, 1)) (hne : ¬ y = 0)
    (k : G K V nL Q ad N cells slots (pc + 1) lv (.int (x / y) :: st) E) : G K V nL Q ad N cells slots pc lv (.int y :: .int x :: st) E := by
  obtain ⟨hl0, hR, hx, hb, hml, hown, hts, hr, hnm, hlk, hK, hbs, hns⟩ := hk
  intro H locs ls hP hz hS hl
  exact lv_idiv hx hb hd hne (k H locs ls hP hz hS hl)
theorem G_irem (hk : gOk l rm K V cc nL own ret nm) {x y : Int32} (hd : decode cc pc = .ok (.irem, 1)) (hne : ¬ y = 0)
    (k : G K V nL Q ad N cells slots (pc + 1) lv (.int (x - x / y * y) :: st) E) : G K V nL Q ad N cells slots pc lv (.int y :: .int x :: st) E := by
  obtain ⟨hl0, hR, hx, hb, hml, hown, hts, hr, hnm, hlk, hK, hbs, hns⟩ := hk
  intro H locs ls hP hz hS hl
  exact lv_irem hx hb hd hne (k H locs ls hP hz hS hl)
theorem G_ldiv (hk : gOk l rm K V cc nL own ret nm) {x y : Int64} (hd : decode cc pc = .ok (.ldiv, 1)) (hne : ¬ y = 0)
    (k : G K V nL Q ad N cells slots (pc + 1) lv (.long (x / y) :: st) E) : G K V nL Q ad N cells slots pc lv (.long y :: .long x :: st) E := by
  obtain ⟨hl0, hR, hx, hb, hml, hown, hts, hr, hnm, hlk, hK, hbs, hns⟩ := hk
  intro H locs ls hP hz hS hl
  exact lv_ldiv hx hb hd hne (k H locs ls hP hz hS hl)
theorem G_lrem (hk : gOk l rm K V cc nL own ret nm) {x y : Int64} (hd : decode cc pc = .ok (.lrem, 1)) (hne : ¬ y = 0)
    (k : G K V nL Q ad N cells slots (pc + 1) lv (.long (x - x / y * y) :: st) E) : G K V nL Q ad N cells slots pc lv (.long y :: .long x :: st) E := by
  obtain ⟨hl0, hR, hx, hb, hml, hown, hts, hr, hnm, hlk, hK, hbs, hns⟩ := hk
  intro H locs ls hP hz hS hl
  exact lv_lrem hx hb hd hne (k H locs ls hP hz hS hl)
theorem G_ishl (hk : gOk l rm K V cc nL own ret nm) {x y : Int32} (hd : decode cc pc = .ok (.ishl, 1))
    (k : G K V nL Q ad N cells slots (pc + 1) lv (.int (x <<< (y &&& 31)) :: st) E) : G K V nL Q ad N cells slots pc lv (.int y :: .int x :: st) E := by
  obtain ⟨hl0, hR, hx, hb, hml, hown, hts, hr, hnm, hlk, hK, hbs, hns⟩ := hk
  intro H locs ls hP hz hS hl
  exact lv_ishl hx hb hd (k H locs ls hP hz hS hl)
theorem G_lcmp (hk : gOk l rm K V cc nL own ret nm) {x y : Int64} (hd : decode cc pc = .ok (.lcmp, 1))
    (k : G K V nL Q ad N cells slots (pc + 1) lv (.int (lg_cmp x y) :: st) E) : G K V nL Q ad N cells slots pc lv (.long y :: .long x :: st) E := by
  obtain ⟨hl0, hR, hx, hb, hml, hown, hts, hr, hnm, hlk, hK, hbs, hns⟩ := hk
  intro H locs ls hP hz hS hl
  exact W.lcmp hx hb hd (k H locs ls hP hz hS hl)
theorem G_i2l (hk : gOk l rm K V cc nL own ret nm) {x : Int32} (hd : decode cc pc = .ok (.i2l, 1))
    (k : G K V nL Q ad N cells slots (pc + 1) lv (.long x.toInt64 :: st) E) : G K V nL Q ad N cells slots pc lv (.int x :: st) E := by
  obtain ⟨hl0, hR, hx, hb, hml, hown, hts, hr, hnm, hlk, hK, hbs, hns⟩ := hk
  intro H locs ls hP hz hS hl
  exact lv_i2l hx hb hd rfl (k H locs ls hP hz hS hl)
theorem G_i2b (hk : gOk l rm K V cc nL own ret nm) {x : Int32} (hd : decode cc pc = .ok (.i2b, 1))
    (k : G K V nL Q ad N cells slots (pc + 1) lv (.int x.toInt8.toInt32 :: st) E) : G K V nL Q ad N cells slots pc lv (.int x :: st) E := by
  obtain ⟨hl0, hR, hx, hb, hml, hown, hts, hr, hnm, hlk, hK, hbs, hns⟩ := hk
  intro H locs ls hP hz hS hl
  exact lv_i2b hx hb hd rfl (k H locs ls hP hz hS hl)
theorem G_i2s (hk : gOk l rm K V cc nL own ret nm) {x : Int32} (hd : decode cc pc = .ok (.i2s, 1))
    (k : G K V nL Q ad N cells slots (pc + 1) lv (.int x.toInt16.toInt32 :: st) E) : G K V nL Q ad N cells slots pc lv (.int x :: st) E := by
  obtain ⟨hl0, hR, hx, hb, hml, hown, hts, hr, hnm, hlk, hK, hbs, hns⟩ := hk
  intro H locs ls hP hz hS hl
  exact lv_i2s hx hb hd rfl (k H locs ls hP hz hS hl)
theorem G_dup (hk : gOk l rm K V cc nL own ret nm) {v : Value} (hd : decode cc pc = .ok (.dup, 1)) (hc : v.category = 1)
    (k : G K V nL Q ad N cells slots (pc + 1) lv (v :: v :: st) E) : G K V nL Q ad N cells slots pc lv (v :: st) E := by
  obtain ⟨hl0, hR, hx, hb, hml, hown, hts, hr, hnm, hlk, hK, hbs, hns⟩ := hk
  intro H locs ls hP hz hS hl
  exact lv_dup hx hb hd hc (k H locs ls hP hz hS hl)
theorem G_if_eq (hk : gOk l rm K V cc nL own ret nm) {x : Int32} {off : Int} {tgt : Nat} (hd : decode cc pc = .ok (.ifCond .eq off, 3)) (ht : (pc : Int) + off = (tgt : Int))
    (kt : x = 0 → G K V nL Q ad N cells slots tgt lv st E) (kf : ¬ x = 0 → G K V nL Q ad N cells slots (pc + 3) lv st E) : G K V nL Q ad N cells slots pc lv (.int x :: st) E := by
  obtain ⟨hl0, hR, hx, hb, hml, hown, hts, hr, hnm, hlk, hK, hbs, hns⟩ := hk
  intro H locs ls hP hz hS hl
  exact lv_if_eq hx hb hd ht (fun q => kt q H locs ls hP hz hS hl) (fun q => kf q H locs ls hP hz hS hl)
theorem G_icmp_eq (hk : gOk l rm K V cc nL own ret nm) {x y : Int32} {off : Int} {tgt : Nat} (hd : decode cc pc = .ok (.if_icmp .eq off, 3)) (ht : (pc : Int) + off = (tgt : Int))
    (kt : x = y → G K V nL Q ad N cells slots tgt lv st E) (kf : ¬ x = y → G K V nL Q ad N cells slots (pc + 3) lv st E) : G K V nL Q ad N cells slots pc lv (.int y :: .int x :: st) E := by
  obtain ⟨hl0, hR, hx, hb, hml, hown, hts, hr, hnm, hlk, hK, hbs, hns⟩ := hk
  intro H locs ls hP hz hS hl
  exact lv_icmp_eq hx hb hd ht (fun q => kt q H locs ls hP hz hS hl) (fun q => kf q H locs ls hP hz hS hl)
theorem G_if_ne (hk : gOk l rm K V cc nL own ret nm) {x : Int32} {off : Int} {tgt : Nat} (hd : decode cc pc = .ok (.ifCond .ne off, 3)) (ht : (pc : Int) + off = (tgt : Int))
    (kt : ¬ x = 0 → G K V nL Q ad N cells slots tgt lv st E) (kf : x = 0 → G K V nL Q ad N cells slots (pc + 3) lv st E) : G K V nL Q ad N cells slots pc lv (.int x :: st) E := by
  obtain ⟨hl0, hR, hx, hb, hml, hown, hts, hr, hnm, hlk, hK, hbs, hns⟩ := hk
  intro H locs ls hP hz hS hl
  exact lv_if_ne hx hb hd ht (fun q => kt q H locs ls hP hz hS hl) (fun q => kf q H locs ls hP hz hS hl)
theorem G_icmp_ne (hk : gOk l rm K V cc nL own ret nm) {x y : Int32} {off : Int} {tgt : Nat} (hd : decode cc pc = .ok (.if_icmp .ne off, 3)) (ht : (pc : Int) + off = (tgt : Int))
    (kt : ¬ x = y → G K V nL Q ad N cells slots tgt lv st E) (kf : x = y → G K V nL Q ad N cells slots (pc + 3) lv st E) : G K V nL Q ad N cells slots pc lv (.int y :: .int x :: st) E := by
  obtain ⟨hl0, hR, hx, hb, hml, hown, hts, hr, hnm, hlk, hK, hbs, hns⟩ := hk
  intro H locs ls hP hz hS hl
  exact lv_icmp_ne hx hb hd ht (fun q => kt q H locs ls hP hz hS hl) (fun q => kf q H locs ls hP hz hS hl)
theorem G_if_lt (hk : gOk l rm K V cc nL own ret nm) {x : Int32} {off : Int} {tgt : Nat} (hd : decode cc pc = .ok (.ifCond .lt off, 3)) (ht : (pc : Int) + off = (tgt : Int))
    (kt : x < 0 → G K V nL Q ad N cells slots tgt lv st E) (kf : ¬ x < 0 → G K V nL Q ad N cells slots (pc + 3) lv st E) : G K V nL Q ad N cells slots pc lv (.int x :: st) E := by
  obtain ⟨hl0, hR, hx, hb, hml, hown, hts, hr, hnm, hlk, hK, hbs, hns⟩ := hk
  intro H locs ls hP hz hS hl
  exact lv_if_lt hx hb hd ht (fun q => kt q H locs ls hP hz hS hl) (fun q => kf q H locs ls hP hz hS hl)
theorem G_icmp_lt (hk : gOk l rm K V cc nL own ret nm) {x y : Int32} {off : Int} {tgt : Nat} (hd : decode cc pc = .ok (.if_icmp .lt off, 3)) (ht : (pc : Int) + off = (tgt : Int))
    (kt : x < y → G K V nL Q ad N cells slots tgt lv st E) (kf : ¬ x < y → G K V nL Q ad N cells slots (pc + 3) lv st E) : G K V nL Q ad N cells slots pc lv (.int y :: .int x :: st) E := by
  obtain ⟨hl0, hR, hx, hb, hml, hown, hts, hr, hnm, hlk, hK, hbs, hns⟩ := hk
  intro H locs ls hP hz hS hl
  exact lv_icmp_lt hx hb hd ht (fun q => kt q H locs ls hP hz hS hl) (fun q => kf q H locs ls hP hz hS hl)
theorem G_if_ge (hk : gOk l rm K V cc nL own ret nm) {x : Int32} {off : Int} {tgt : Nat} (hd : decode cc pc = .ok (.ifCond .ge off, 3)) (ht : (pc : Int) + off = (tgt : Int))
    (kt : 0 ≤ x → G K V nL Q ad N cells slots tgt lv st E) (kf : ¬ 0 ≤ x → G K V nL Q ad N cells slots (pc + 3) lv st E) : G K V nL Q ad N cells slots pc lv (.int x :: st) E := by
  obtain ⟨hl0, hR, hx, hb, hml, hown, hts, hr, hnm, hlk, hK, hbs, hns⟩ := hk
  intro H locs ls hP hz hS hl
  exact lv_if_ge hx hb hd ht (fun q => kt q H locs ls hP hz hS hl) (fun q => kf q H locs ls hP hz hS hl)
theorem G_icmp_ge (hk : gOk l rm K V cc nL own ret nm) {x y : Int32} {off : Int} {tgt : Nat} (hd : decode cc pc = .ok (.if_icmp .ge off, 3)) (ht : (pc : Int) + off = (tgt : Int))
    (kt : y ≤ x → G K V nL Q ad N cells slots tgt lv st E) (kf : ¬ y ≤ x → G K V nL Q ad N cells slots (pc + 3) lv st E) : G K V nL Q ad N cells slots pc lv (.int y :: .int x :: st) E := by
  obtain ⟨hl0, hR, hx, hb, hml, hown, hts, hr, hnm, hlk, hK, hbs, hns⟩ := hk
  intro H locs ls hP hz hS hl
  exact lv_icmp_ge hx hb hd ht (fun q => kt q H locs ls hP hz hS hl) (fun q => kf q H locs ls hP hz hS hl)
theorem G_if_gt (hk : gOk l rm K V cc nL own ret nm) {x : Int32} {off : Int} {tgt : Nat} (hd : decode cc pc = .ok (.ifCond .gt off, 3)) (ht : (pc : Int) + off = (tgt : Int))
    (kt : 0 < x → G K V nL Q ad N cells slots tgt lv st E) (kf : ¬ 0 < x → G K V nL Q ad N cells slots (pc + 3) lv st E) : G K V nL Q ad N cells slots pc lv (.int x :: st) E := by
  obtain ⟨hl0, hR, hx, hb, hml, hown, hts, hr, hnm, hlk, hK, hbs, hns⟩ := hk
  intro H locs ls hP hz hS hl
  exact lv_if_gt hx hb hd ht (fun q => kt q H locs ls hP hz hS hl) (fun q => kf q H locs ls hP hz hS hl)
theorem G_icmp_gt (hk : gOk l rm K V cc nL own ret nm) {x y : Int32} {off : Int} {tgt : Nat} (hd : decode cc pc = .ok (.if_icmp .gt off, 3)) (ht : (pc : Int) + off = (tgt : Int))
    (kt : y < x → G K V nL Q ad N cells slots tgt lv st E) (kf : ¬ y < x → G K V nL Q ad N cells slots (pc + 3) lv st E) : G K V nL Q ad N cells slots pc lv (.int y :: .int x :: st) E := by
  obtain ⟨hl0, hR, hx, hb, hml, hown, hts, hr, hnm, hlk, hK, hbs, hns⟩ := hk
  intro H locs ls hP hz hS hl
  exact lv_icmp_gt hx hb hd ht (fun q => kt q H locs ls hP hz hS hl) (fun q => kf q H locs ls hP hz hS hl)
theorem G_if_le (hk : gOk l rm K V cc nL own ret nm) {x : Int32} {off : Int} {tgt : Nat} (hd : decode cc pc = .ok (.ifCond .le off, 3)) (ht : (pc : Int) + off = (tgt : Int))
    (kt : x ≤ 0 → G K V nL Q ad N cells slots tgt lv st E) (kf : ¬ x ≤ 0 → G K V nL Q ad N cells slots (pc + 3) lv st E) : G K V nL Q ad N cells slots pc lv (.int x :: st) E := by
  obtain ⟨hl0, hR, hx, hb, hml, hown, hts, hr, hnm, hlk, hK, hbs, hns⟩ := hk
  intro H locs ls hP hz hS hl
  exact lv_if_le hx hb hd ht (fun q => kt q H locs ls hP hz hS hl) (fun q => kf q H locs ls hP hz hS hl)
theorem G_icmp_le (hk : gOk l rm K V cc nL own ret nm) {x y : Int32} {off : Int} {tgt : Nat} (hd : decode cc pc = .ok (.if_icmp .le off, 3)) (ht : (pc : Int) + off = (tgt : Int))
    (kt : x ≤ y → G K V nL Q ad N cells slots tgt lv st E) (kf : ¬ x ≤ y → G K V nL Q ad N cells slots (pc + 3) lv st E) : G K V nL Q ad N cells slots pc lv (.int y :: .int x :: st) E := by
  obtain ⟨hl0, hR, hx, hb, hml, hown, hts, hr, hnm, hlk, hK, hbs, hns⟩ := hk
  intro H locs ls hP hz hS hl
  exact lv_icmp_le hx hb hd ht (fun q => kt q H locs ls hP hz hS hl) (fun q => kf q H locs ls hP hz hS hl)
theorem G_goto (hk : gOk l rm K V cc nL own ret nm) {off : Int} {tgt : Nat} (hd : decode cc pc = .ok (.goto off, 3)) (ht : (pc : Int) + off = (tgt : Int))
    (k : G K V nL Q ad N cells slots tgt lv st E) : G K V nL Q ad N cells slots pc lv st E := by
  obtain ⟨hl0, hR, hx, hb, hml, hown, hts, hr, hnm, hlk, hK, hbs, hns⟩ := hk
  intro H locs ls hP hz hS hl
  exact lv_goto hx hb hd ht (k H locs ls hP hz hS hl)
theorem G_tableOut (hk : gOk l rm K V cc nL own ret nm) {dflt lo hi : Int} {offs : Array Int} {len : Nat} {x : Int32} {tgt : Nat} (hd : decode cc pc = .ok (.tableswitch dflt lo hi offs, len)) (h : x.toInt < lo ∨ hi < x.toInt) (ht : (pc : Int) + dflt = (tgt : Int))
    (k : G K V nL Q ad N cells slots tgt lv st E) : G K V nL Q ad N cells slots pc lv (.int x :: st) E := by
  obtain ⟨hl0, hR, hx, hb, hml, hown, hts, hr, hnm, hlk, hK, hbs, hns⟩ := hk
  intro H locs ls hP hz hS hl
  exact lv_tableOut hx hb hd h ht (k H locs ls hP hz hS hl)
theorem G_tableIn (hk : gOk l rm K V cc nL own ret nm) {dflt lo hi : Int} {offs : Array Int} {len : Nat} {x : Int32} {off : Int} {tgt : Nat} (hd : decode cc pc = .ok (.tableswitch dflt lo hi offs, len)) (h1 : ¬ x.toInt < lo) (h2 : ¬ hi < x.toInt) (ho : offs[(x.toInt - lo).toNat]? = some off) (ht : (pc : Int) + off = (tgt : Int))
    (k : G K V nL Q ad N cells slots tgt lv st E) : G K V nL Q ad N cells slots pc lv (.int x :: st) E := by
  obtain ⟨hl0, hR, hx, hb, hml, hown, hts, hr, hnm, hlk, hK, hbs, hns⟩ := hk
  intro H locs ls hP hz hS hl
  exact lv_tableIn hx hb hd h1 h2 ho ht (k H locs ls hP hz hS hl)
theorem G_lookup (hk : gOk l rm K V cc nL own ret nm) {dflt : Int} {ps : Array (Int × Int)} {len : Nat} {x : Int32} {off : Int} {tgt : Nat} (hd : decode cc pc = .ok (.lookupswitch dflt ps, len)) (hp : (ps.toList.zip (ps.toList.drop 1)).all (fun (a, next) => a.1 < next.1) = true) (ho : Op.lookupswitch.offset ps.toList dflt x.toInt = off) (ht : (pc : Int) + off = (tgt : Int))
    (k : G K V nL Q ad N cells slots tgt lv st E) : G K V nL Q ad N cells slots pc lv (.int x :: st) E := by
  obtain ⟨hl0, hR, hx, hb, hml, hown, hts, hr, hnm, hlk, hK, hbs, hns⟩ := hk
  intro H locs ls hP hz hS hl
  exact lv_lookup hx hb hd hp ho ht (k H locs ls hP hz hS hl)
theorem G_get (hk : gOk l rm K V cc nL own ret nm) {idx ci j k : Nat} {fs : List Value} {v : Value} (hf : gFld own idx ci j) (hd : decode cc pc = .ok (.getfield idx, 3)) (hE : E k = .inr (ci, fs)) (hv : fs[j]? = some v) (hN : k < N)
    (kk : G K V nL Q ad N cells slots (pc + 3) lv (v :: st) E) : G K V nL Q ad N cells slots pc lv (.ref (ad k) :: st) E := by
  obtain ⟨hl0, hR, hx, hb, hml, hown, hts, hr, hnm, hlk, hK, hbs, hns⟩ := hk
  intro H locs ls hP hz hS hl
  obtain ⟨⟨C, T, n⟩, hq, hj, hli, hin⟩ := hf
  exact va_get (ci := ci) hx hb hts hin hown hK hP k (by rw [gwd_get hN, hE]) hq j hj (hts _ hli) (fun _ h => h) hv hd (kk H locs ls hP hz hS hl)
theorem G_put (hk : gOk l rm K V cc nL own ret nm) {idx ci j k : Nat} {fs : List Value} {x : Int32} (hf : gFld own idx ci j) (hi : gInt ci j) (hd : decode cc pc = .ok (.putfield idx, 3)) (hE : E k = .inr (ci, fs)) (hlen : j < fs.length) (hN : k < N)
    (kk : G K V nL Q ad N cells slots (pc + 3) lv st (va_up E k (.inr (ci, fs.set j (.int x))))) : G K V nL Q ad N cells slots pc lv (.int x :: .ref (ad k) :: st) E := by
  obtain ⟨hl0, hR, hx, hb, hml, hown, hts, hr, hnm, hlk, hK, hbs, hns⟩ := hk
  intro H locs ls hP hz hS hl
  obtain ⟨⟨C, T, n⟩, hq, hj, hli, hin⟩ := hf
  obtain ⟨q2, ty, hq2, hj2, hty, hnm2, hfin, hpd⟩ := hi
  cases hq.symm.trans hq2
  refine va_put (ci := ci) (v := .int x) (ty := .int) hx hb hts hin ty hty hnm2 hown hK hP hz hS k (by rw [gwd_get hN, hE]) hq j hj (hts _ hli) (fun _ h => h) hfin hpd rfl rfl hlen hd (fun H1 locs1 hP1 hD1 hS1 => ?_)
  rw [gwd_set hN] at hP1 hD1
  exact kk H1 locs1 ls hP1 hD1 hS1 hl
theorem G_putF (hk : gOk l rm K V cc nL own ret nm) {idx ci j k a : Nat} {fs : List Value} {ty1 : FieldType} (hin0 : nm = "<init>") (hf : gFld own idx ci j) (hi : gFin ci j ty1) (hd : decode cc pc = .ok (.putfield idx, 3)) (hE : E k = .inr (ci, fs)) (hc : (vwCl[ci]?).map (fun q => q.1) = some own) (hn : narrow ty1 (.ref a) = .ref a) (hfit : fits ty1 (.ref a) = true) (hlen : j < fs.length) (hN : k < N)
    (kk : G K V nL Q ad N cells slots (pc + 3) lv st (va_up E k (.inr (ci, fs.set j (.ref a))))) : G K V nL Q ad N cells slots pc lv (.ref a :: .ref (ad k) :: st) E := by
  obtain ⟨hl0, hR, hx, hb, hml, hown, hts, hr, hnm, hlk, hK, hbs, hns⟩ := hk
  intro H locs ls hP hz hS hl
  obtain ⟨⟨C, T, n⟩, hq, hj, hli, hin⟩ := hf
  obtain ⟨q2, ty, hq2, hj2, hty, hnm2, hfin, hdc, hpd⟩ := hi
  cases hq.symm.trans hq2
  rw [hq] at hc
  cases hc
  refine va_putF (ci := ci) (v := .ref a) (ty := ty1) hx hb hts hin ty hty hnm2 hown hK hP hz hS k (by rw [gwd_get hN, hE]) hq j hj (hts _ hli) (fun _ h => h) hfin (hnm.trans hin0) hdc hpd hn hfit hlen hd (fun H1 locs1 hP1 hD1 hS1 => ?_)
  rw [gwd_set hN] at hP1 hD1
  exact kk H1 locs1 ls hP1 hD1 hS1 hl
theorem G_iald (hk : gOk l rm K V cc nL own ret nm) {k n : Nat} {f : Nat → Int32} {i : Int32} (hd : decode cc pc = .ok (.iaload, 1)) (hE : E k = gI V n f) (hin : vp_in i n) (hN : k < N)
    (kk : G K V nL Q ad N cells slots (pc + 1) lv (.int (f i.toNatClampNeg) :: st) E) : G K V nL Q ad N cells slots pc lv (.int i :: .ref (ad k) :: st) E := by
  obtain ⟨hl0, hR, hx, hb, hml, hown, hts, hr, hnm, hlk, hK, hbs, hns⟩ := hk
  intro H locs ls hP hz hS hl
  exact va_iald hx hb hK hP k 0 (by rw [gwd_get hN, hE]) rfl hin hd (kk H locs ls hP hz hS hl)
theorem G_iast (hk : gOk l rm K V cc nL own ret nm) {k n : Nat} {f : Nat → Int32} {i x : Int32} (hd : decode cc pc = .ok (.iastore, 1)) (hE : E k = gI V n f) (hin : vp_in i n) (hN : k < N)
    (kk : G K V nL Q ad N cells slots (pc + 1) lv st (va_up E k (gI V n (upd f i.toNatClampNeg x)))) : G K V nL Q ad N cells slots pc lv (.int x :: .int i :: .ref (ad k) :: st) E := by
  obtain ⟨hl0, hR, hx, hb, hml, hown, hts, hr, hnm, hlk, hK, hbs, hns⟩ := hk
  intro H locs ls hP hz hS hl
  refine va_iast hx hb hK hP hz hS k 0 (by rw [gwd_get hN, hE]) rfl hin hd (fun H1 locs1 hP1 hD1 hS1 => ?_)
  rw [gwd_set hN] at hP1 hD1
  exact kk H1 locs1 ls hP1 hD1 hS1 hl
theorem G_aaldRl (hk : gOk l rm K V cc nL own ret nm) {k n a : Nat} {f : Nat → Option Nat} {i : Int32} (hd : decode cc pc = .ok (.aaload, 1)) (hE : E k = gRl V n f) (hin : vp_in i n) (hv : f i.toNatClampNeg = some a) (hN : k < N)
    (kk : G K V nL Q ad N cells slots (pc + 1) lv (.ref a :: st) E) : G K V nL Q ad N cells slots pc lv (.int i :: .ref (ad k) :: st) E := by
  obtain ⟨hl0, hR, hx, hb, hml, hown, hts, hr, hnm, hlk, hK, hbs, hns⟩ := hk
  intro H locs ls hP hz hS hl
  refine va_aldq hx hb hK hP k 2 (by rw [gwd_get hN, hE]) rfl hin hd ?_
  rw [hv]
  exact kk H locs ls hP hz hS hl
theorem G_aastRl (hk : gOk l rm K V cc nL own ret nm) {k n k2 : Nat} {fs : List Value} {f : Nat → Option Nat} {i : Int32} (hd : decode cc pc = .ok (.aastore, 1)) (hE : E k = gRl V n f) (hin : vp_in i n) (hN : k < N) (hE2 : E k2 = .inr (3, fs)) (hN2 : k2 < N)
    (kk : G K V nL Q ad N cells slots (pc + 1) lv st (va_up E k (gRl V n (va_up f i.toNatClampNeg (some (ad k2)))))) : G K V nL Q ad N cells slots pc lv (.ref (ad k2) :: .int i :: .ref (ad k) :: st) E := by
  obtain ⟨hl0, hR, hx, hb, hml, hown, hts, hr, hnm, hlk, hK, hbs, hns⟩ := hk
  intro H locs ls hP hz hS hl
  refine va_astq hx hb hK hP hz hS k 2 k2 3 (by rw [gwd_get hN, hE]) rfl (by rw [gwd_get hN2, hE2]) rfl hin hd (fun H1 locs1 hP1 hD1 hS1 => ?_)
  rw [gwd_set hN] at hP1 hD1
  exact kk H1 locs1 ls hP1 hD1 hS1 hl
theorem G_aaldRw (hk : gOk l rm K V cc nL own ret nm) {k n a : Nat} {f : Nat → Option Nat} {i : Int32} (hd : decode cc pc = .ok (.aaload, 1)) (hE : E k = gRw V n f) (hin : vp_in i n) (hv : f i.toNatClampNeg = some a) (hN : k < N)
    (kk : G K V nL Q ad N cells slots (pc + 1) lv (.ref a :: st) E) : G K V nL Q ad N cells slots pc lv (.int i :: .ref (ad k) :: st) E := by
  obtain ⟨hl0, hR, hx, hb, hml, hown, hts, hr, hnm, hlk, hK, hbs, hns⟩ := hk
  intro H locs ls hP hz hS hl
  refine va_aldq hx hb hK hP k 1 (by rw [gwd_get hN, hE]) rfl hin hd ?_
  rw [hv]
  exact kk H locs ls hP hz hS hl
theorem G_aastRw (hk : gOk l rm K V cc nL own ret nm) {k n k2 : Nat} {fs : List Value} {f : Nat → Option Nat} {i : Int32} (hd : decode cc pc = .ok (.aastore, 1)) (hE : E k = gRw V n f) (hin : vp_in i n) (hN : k < N) (hE2 : E k2 = .inr (2, fs)) (hN2 : k2 < N)
    (kk : G K V nL Q ad N cells slots (pc + 1) lv st (va_up E k (gRw V n (va_up f i.toNatClampNeg (some (ad k2)))))) : G K V nL Q ad N cells slots pc lv (.ref (ad k2) :: .int i :: .ref (ad k) :: st) E := by
  obtain ⟨hl0, hR, hx, hb, hml, hown, hts, hr, hnm, hlk, hK, hbs, hns⟩ := hk
  intro H locs ls hP hz hS hl
  refine va_astq hx hb hK hP hz hS k 1 k2 2 (by rw [gwd_get hN, hE]) rfl (by rw [gwd_get hN2, hE2]) rfl hin hd (fun H1 locs1 hP1 hD1 hS1 => ?_)
  rw [gwd_set hN] at hP1 hD1
  exact kk H1 locs1 ls hP1 hD1 hS1 hl
theorem G_alen (hk : gOk l rm K V cc nL own ret nm) {k n : Nat} {f : Nat → Int32} {v : Int32} (hd : decode cc pc = .ok (.arraylength, 1)) (hE : E k = gI V n f) (hv : Int32.ofNat n = v) (hN : k < N)
    (kk : G K V nL Q ad N cells slots (pc + 1) lv (.int v :: st) E) : G K V nL Q ad N cells slots pc lv (.ref (ad k) :: st) E := by
  obtain ⟨hl0, hR, hx, hb, hml, hown, hts, hr, hnm, hlk, hK, hbs, hns⟩ := hk
  intro H locs ls hP hz hS hl
  exact va_alen hx hb hK hP k 0 (by rw [gwd_get hN, hE]) rfl hv hd (kk H locs ls hP hz hS hl)
end GEE
