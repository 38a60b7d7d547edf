/-! making: objects, arrays, constructors -/
section GNEW
variable {l : Launch} {rm : Room} {K : gX} {V : gV} {cc : ByteArray} {nL : Nat} {own : String} {ret : Option FieldType} {nm : String} {Q : State → Prop} {ad : Nat → Nat} {N N' cells slots pc : Nat} {lv : List (Nat × Value)} {st rest : List Value} {E : Nat → va_E}
theorem G_objI {idx a : Nat} (hk : gOk l rm K V cc nL own ret nm) (hlk : Cond.methodLink own idx Lib.objectInit ∈ gT) (hd : decode cc pc = .ok (.invokespecial idx, 3)) (hf : 1 ≤ rm.frames) (hlo : (st.map fun v => v.category).sum + 12 ≤ rm.locals)
    (kk : G K V nL Q ad N cells slots (pc + 3) lv st E) : G K V nL Q ad N cells slots pc lv (.ref a :: st) E := by
  obtain ⟨rfl, rfl, hx, hb, hml, hown, hts, hr, hnm, hlk2, hK, hbs, hns⟩ := hk
  intro H locs ls hP hz hS hl
  refine W.objInit hx hb hown (hts _ hlk) (hts _ oInit.2) (hts _ oInit.1) rfl (by rw [hml]; exact hl.1) rfl hd hf ?_ ?_
  · show 2 * 0 + _ + 12 ≤ _
    omega
  · exact kk H locs ls hP hz hS hl
theorem G_newI {n : Int32} {M : Nat} (hk : gOk l rm K V cc nL own ret nm) (hd : decode cc pc = .ok (.newarray .int, 2)) (hn : ¬ n < 0) (hM : n.toNatClampNeg = M) (hb4 : M * 4 ≤ 536870912) (hcells : cells + 1 ≤ rm.cells) (hslots : slots + M ≤ rm.slots)
    (kk : ∀ q : Nat, G K V nL Q (va_up ad N q) (N + 1) (cells + 1) (slots + M) (pc + 2) lv (.ref q :: st) (va_up E N (gI V M (fun _ => 0)))) : G K V nL Q ad N cells slots pc lv (.int n :: st) E := by
  obtain ⟨rfl, rfl, hx, hb, hml, hown, hts, hr, hnm, hlk2, hK, hbs, hns⟩ := hk
  intro H locs ls hP hz hS hl
  refine va_newa (atype := .int) (ty := .int) (a0 := (M, .inl (fun _ => 0))) hx hb (hts _ ja_int) rfl hK hP hz hS (fun q hq => Nat.le_trans hbs hq) (fun cA => rfl) hn hM hb4 hcells hslots hd ?_
  intro q cA H1 hK1 hP1 hD1 hS1
  have e1 : (gs K).vm.findClass ("[" ++ FieldType.int.toString) = some V.2.1.1 := (hK.2 0 _ rfl).2
  have e2 : (gs K).vm.findClass ("[" ++ FieldType.int.toString) = some cA := (hK1.2 3 (cA, .int) rfl).2
  have e : cA = V.2.1.1 := Option.some.inj (e2.symm.trans e1)
  subst e
  rw [gwd_push] at hP1 hD1
  exact kk q H1 locs ls hP1 hD1 hS1 hl
theorem G_newRl {n : Int32} {M idx : Nat} (hk : gOk l rm K V cc nL own ret nm) (hlk : Cond.classLink own idx RX3 ∈ gT) (hd : decode cc pc = .ok (.anewarray idx, 3)) (hn : ¬ n < 0) (hM : n.toNatClampNeg = M) (hb4 : M * 4 ≤ 536870912) (hcells : cells + 1 ≤ rm.cells) (hslots : slots + M ≤ rm.slots)
    (kk : ∀ q : Nat, G K V nL Q (va_up ad N q) (N + 1) (cells + 1) (slots + M) (pc + 3) lv (.ref q :: st) (va_up E N (gRl V M (fun _ => none)))) : G K V nL Q ad N cells slots pc lv (.int n :: st) E := by
  obtain ⟨rfl, rfl, hx, hb, hml, hown, hts, hr, hnm, hlk2, hK, hbs, hns⟩ := hk
  intro H locs ls hP hz hS hl
  refine va_newq hx hb hown (hts _ hlk) hns.2.2.2.2.1 hK hP hz hS (fun q hq => Nat.le_trans hbs hq) hn hM hb4 hcells hslots hd ?_
  intro q cA H1 hK1 hP1 hD1 hS1
  obtain ⟨-, -, -, -, -, e1⟩ := (hK.2 2 _ rfl).2
  obtain ⟨-, -, -, -, -, e2⟩ := (hK1.2 3 (cA, .object RX3) rfl).2
  have e : cA = V.2.1.2.2 := Option.some.inj (e2.symm.trans e1)
  subst e
  rw [gwd_push] at hP1 hD1
  exact kk q H1 locs ls hP1 hD1 hS1 hl
theorem G_newRw {n : Int32} {M idx : Nat} (hk : gOk l rm K V cc nL own ret nm) (hlk : Cond.classLink own idx RX2 ∈ gT) (hd : decode cc pc = .ok (.anewarray idx, 3)) (hn : ¬ n < 0) (hM : n.toNatClampNeg = M) (hb4 : M * 4 ≤ 536870912) (hcells : cells + 1 ≤ rm.cells) (hslots : slots + M ≤ rm.slots)
    (kk : ∀ q : Nat, G K V nL Q (va_up ad N q) (N + 1) (cells + 1) (slots + M) (pc + 3) lv (.ref q :: st) (va_up E N (gRw V M (fun _ => none)))) : G K V nL Q ad N cells slots pc lv (.int n :: st) E := by
  obtain ⟨rfl, rfl, hx, hb, hml, hown, hts, hr, hnm, hlk2, hK, hbs, hns⟩ := hk
  intro H locs ls hP hz hS hl
  refine va_newq hx hb hown (hts _ hlk) hns.2.2.2.2.2 hK hP hz hS (fun q hq => Nat.le_trans hbs hq) hn hM hb4 hcells hslots hd ?_
  intro q cA H1 hK1 hP1 hD1 hS1
  obtain ⟨-, -, -, -, -, e1⟩ := (hK.2 1 _ rfl).2
  obtain ⟨-, -, -, -, -, e2⟩ := (hK1.2 3 (cA, .object RX2) rfl).2
  have e : cA = V.2.1.2.1 := Option.some.inj (e2.symm.trans e1)
  subst e
  rw [gwd_push] at hP1 hD1
  exact kk q H1 locs ls hP1 hD1 hS1 hl
theorem G_new {C : String} {T : u_T} {n ci idx : Nat} {fs : List Value} (hk : gOk l rm K V cc nL own ret nm) (hin : ∀ w ∈ u_ws C T n, w ∈ gT) (ty : Nat → FieldType) (hty : ∀ k, k < n → parseFieldDescriptor (T k).2.2.1 = some (ty k)) (hcl : Cond.classLink own idx C ∈ gT) (hinst : Cond.instantiable C n ∈ gT) (hini : Cond.initialized C ∈ gT) (hc : vwCl[ci]? = some (C, T, n)) (hfs : ∀ j, j < n → defaultValue (ty j) = vp_V fs j) (hd : decode cc pc = .ok (.new idx, 3)) (hcells : cells + 1 ≤ rm.cells) (hslots : slots + n ≤ rm.slots)
    (kk : ∀ q : Nat, G K V nL Q (va_up ad N q) (N + 1) (cells + 1) (slots + n) (pc + 3) lv (.ref q :: st) (va_up E N (.inr (ci, fs)))) : G K V nL Q ad N cells slots pc lv st E := by
  obtain ⟨rfl, rfl, hx, hb, hml, hown, hts, hr, hnm, hlk2, hK, hbs, hns⟩ := hk
  intro H locs ls hP hz hS hl
  refine va_new hx hb hts hin ty hty hown (hts _ hcl) (hts _ hinst) (hts _ hini) hK hP hz hS (fun q hq => Nat.le_trans hbs hq) hc hfs hcells hslots hd ?_
  intro q H1 hP1 hD1 hS1
  rw [gwd_push] at hP1 hD1
  exact kk q H1 locs ls hP1 hD1 hS1 hl
theorem G_cI {y : MethodName} {cy : ByteArray} {mL n idx k : Nat} {rmy : Room} {As : List Value} {post : (Nat → Nat) → (Nat → va_E) → Prop} (hk : gOk l rm K V cc nL own ret nm)
    (hM : Ct l V ad N N' y cy mL none rmy (.ref (ad k) :: As) E (pN post)) (hm : gMeth y cy mL none n) (hi : Cond.instanceMethod y ∈ gT) (hy : y.name = "<init>") (hlk : Cond.methodLink own idx y ∈ gT) (hd : decode cc pc = .ok (.invokespecial idx, 3)) (hlen : As.length = n) (hR : rmy.frames + 1 ≤ rm.frames ∧ 8 + (mL + 11) + rmy.locals ≤ rm.locals) (hcs : cells + rmy.cells ≤ rm.cells ∧ slots + rmy.slots ≤ rm.slots) (hst : st = As.reverse ++ .ref (ad k) :: rest) (hw : (rest.map fun v => v.category).sum ≤ 8)
    (kk : ∀ (ad2 : Nat → Nat) (E2 : Nat → va_E), post ad2 E2 → G K V nL Q ad2 N' (cells + rmy.cells) (slots + rmy.slots) (pc + 3) lv rest E2) : G K V nL Q ad N cells slots pc lv st E := by
  refine G_callI hk hM hm hi hy hlk hd hlen hR hcs hst hw ?_
  rintro r ad2 E2 ⟨rfl, hp⟩
  exact kk ad2 E2 hp
theorem G_cIN {y : MethodName} {cy : ByteArray} {mL n idx k : Nat} {rmy : Room} {As : List Value} {host : String} {post : (Nat → Nat) → (Nat → va_E) → Prop} (hk : gOk l rm K V cc nL own ret nm)
    (hM : Ct l V ad N N' y cy mL none rmy (.ref (ad k) :: As) E (pN post)) (hm : gMeth y cy mL none n) (hi : Cond.instanceMethod y ∈ gT) (hy : y.name = "<init>") (hlk : gNs (gs K) → va_Nw (.methodLinkNest own idx y host) (gs K)) (hd : decode cc pc = .ok (.invokespecial idx, 3)) (hlen : As.length = n) (hR : rmy.frames + 1 ≤ rm.frames ∧ 8 + (mL + 11) + rmy.locals ≤ rm.locals) (hcs : cells + rmy.cells ≤ rm.cells ∧ slots + rmy.slots ≤ rm.slots) (hst : st = As.reverse ++ .ref (ad k) :: rest) (hw : (rest.map fun v => v.category).sum ≤ 8)
    (kk : ∀ (ad2 : Nat → Nat) (E2 : Nat → va_E), post ad2 E2 → G K V nL Q ad2 N' (cells + rmy.cells) (slots + rmy.slots) (pc + 3) lv rest E2) : G K V nL Q ad N cells slots pc lv st E := by
  refine G_callIN hk hM hm hi hy hlk hd hlen hR hcs hst hw ?_
  rintro r ad2 E2 ⟨rfl, hp⟩
  exact kk ad2 E2 hp
/-- an array's elements, by another function that says the same -/
theorem arrV_eq {cA : ClassId} {n : Nat} {f g : Nat → Value} (h : ∀ i, i < n → f i = g i) : arrV cA n f = arrV cA n g := by
  unfold arrV
  congr 1
  congr 1
  funext j
  exact h j.val j.isLt
theorem G_alike {k n : Nat} {cA : ClassId} {f g : Nat → Option Nat} (hE : E k = .inl (cA, n, .inr (.inr (.inr (.inr f))))) (h : ∀ i, i < n → f i = g i) (kk : G K V nL Q ad N cells slots pc lv st (va_up E k (.inl (cA, n, .inr (.inr (.inr (.inr g))))))) : G K V nL Q ad N cells slots pc lv st E := by
  intro H locs ls hP hz hS hl
  refine kk H locs ls ?_ ?_ hS hl
  · intro i q hq
    obtain ⟨hi, rfl⟩ := gwd_lt hq
    have q0 := hP i _ (gwd_get hi)
    by_cases hik : i = k
    · subst hik
      rw [hE] at q0
      rw [va_up_self]
      have q1 : H[ad i]? = some (vp_cell cA (n, .inr (.inr (.inr (.inr f))))) := q0
      show H[ad i]? = some (vp_cell cA (n, .inr (.inr (.inr (.inr g)))))
      rw [q1, vp_cell_q, vp_cell_q]
      congr 1
      exact arrV_eq (fun j hj => by rw [h j hj])
    · rw [va_up_ne _ _ hik]
      exact q0
  · refine ⟨fun i j p q hp hq e => ?_, fun i q hq => ?_⟩
    · obtain ⟨hi, rfl⟩ := gwd_lt hp
      obtain ⟨hj, rfl⟩ := gwd_lt hq
      exact hz.1 i j _ _ (gwd_get hi) (gwd_get hj) e
    · obtain ⟨hi, rfl⟩ := gwd_lt hq
      exact hz.2 i (ad i, E i) (gwd_get hi)
end GNEW
def r0 : Nat → Int32 := fun j => if j = 2 then 1 else 0
def bk0 (V : gV) (ad : Nat → Nat) (E : Nat → va_E) (bb : Nat) : Prop :=
  E bb = .inr (1, [.ref (ad (bb + 1)), .ref (ad (bb + 2)), .int 0]) ∧ (∃ f, E (bb + 1) = gRl V 7 f ∧ ∀ i, i < 7 → f i = some (ad (bb + 4 + i))) ∧ E (bb + 2) = .inr (0, [.ref (ad (bb + 3)), .int 0, .int 0]) ∧ E (bb + 3) = gI V 8 (fun _ => 0) ∧ ∀ i, i < 7 → E (bb + 4 + i) = rC r0
theorem bk0.mv {V : gV} {ad ad2 : Nat → Nat} {E E2 : Nat → va_E} {bb : Nat} (h : bk0 V ad E bb) (ha : ∀ k, bb ≤ k → k ≤ bb + 10 → ad2 k = ad k) (hx : ∀ k, bb ≤ k → k ≤ bb + 10 → E2 k = E k) : bk0 V ad2 E2 bb := by
  obtain ⟨h0, ⟨f, h1, h2⟩, h3, h4, h5⟩ := h
  refine ⟨?_, ⟨f, (hx _ (by omega) (by omega)).trans h1, fun i hi => ?_⟩, ?_, (hx _ (by omega) (by omega)).trans h4, fun i hi => (hx _ (by omega) (by omega)).trans (h5 i hi)⟩
  · rw [hx _ (by omega) (by omega), ha _ (by omega) (by omega), ha _ (by omega) (by omega)]; exact h0
  · rw [ha _ (by omega) (by omega)]; exact h2 i hi
  · rw [hx _ (by omega) (by omega), ha _ (by omega) (by omega)]; exact h3
def W5 (V : gV) (ad : Nat → Nat) (E : Nat → va_E) : Prop :=
  E 0 = oC ad 0 0 0 ∧ bk0 V ad E 1 ∧ bk0 V ad E 12 ∧ (∃ f, E 23 = gRw V 4 f ∧ ∀ i, i < 4 → f i = some (ad (26 + 2 * i))) ∧ E 24 = gI V 8 (fun _ => 0) ∧ E 25 = gI V 8 (fun _ => 0) ∧ ∀ s, s < 4 → E (26 + 2 * s) = wC ad (26 + 2 * s) (-1) 0 ∧ E (26 + 2 * s + 1) = gI V 60 (fun _ => 0)
theorem W5.mv {V : gV} {ad ad2 : Nat → Nat} {E E2 : Nat → va_E} (h : W5 V ad E) (ha : ∀ k, k < 34 → ad2 k = ad k) (hx : ∀ k, k < 34 → E2 k = E k) : W5 V ad2 E2 := by
  obtain ⟨h0, h1, h2, ⟨f, h3, h4⟩, h5, h6, h7⟩ := h
  refine ⟨?_, h1.mv (fun k a b => ha k (by omega)) (fun k a b => hx k (by omega)), h2.mv (fun k a b => ha k (by omega)) (fun k a b => hx k (by omega)), ⟨f, (hx _ (by omega)).trans h3, fun i hi => ?_⟩, (hx _ (by omega)).trans h5, (hx _ (by omega)).trans h6, fun s hs => ⟨?_, (hx _ (by omega)).trans (h7 s hs).2⟩⟩
  · rw [hx _ (by omega), h0]
    unfold oC
    rw [ha 1 (by omega), ha 12 (by omega), ha 23 (by omega), ha 24 (by omega), ha 25 (by omega)]
  · rw [ha _ (by omega)]; exact h4 i hi
  · rw [hx _ (by omega), (h7 s hs).1]
    unfold wC
    rw [ha _ (by omega)]
