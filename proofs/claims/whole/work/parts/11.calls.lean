section GRET
variable {l : Launch} {rm : Room} {K : gX} {V : gV} {cc : ByteArray} {nL : Nat} {own : String} {ret : Option FieldType} {nm : String} {Q : State → Prop} {ad : Nat → Nat} {N N' cells slots pc : Nat} {lv : List (Nat × Value)} {st rest : List Value} {E : Nat → va_E}
theorem G_iret (hk : gOk l rm K V cc nL own (some .int) nm) {post : Int32 → (Nat → va_E) → Prop} {v : Int32} (hd : decode cc pc = .ok (.ireturn, 1)) (hp : post v E) : G K V nL (gQ K V N cells slots (pI ad post)) ad N cells slots pc lv [.int v] E := by
  obtain ⟨hl0, hR, hx, hb, hml, hown, hts, hr, hnm, hlk, hK, hbs, hns⟩ := hk
  intro H locs ls hP hz hS hl
  exact W.iret hx hb hr (fun t ht hW => ⟨⟨_, ad, E, rfl, ⟨v, rfl, rfl, hp⟩, by rw [ht]; exact hP, hz⟩, hS.F ht⟩) hS.2.2 hd hlk
theorem G_zret (hk : gOk l rm K V cc nL own (some .boolean) nm) {post : Int32 → (Nat → va_E) → Prop} {v : Int32} (hd : decode cc pc = .ok (.ireturn, 1)) (hn : narrow .boolean (.int v) = .int v) (hp : post v E) : G K V nL (gQ K V N cells slots (pI ad post)) ad N cells slots pc lv [.int v] E := by
  obtain ⟨hl0, hR, hx, hb, hml, hown, hts, hr, hnm, hlk, hK, hbs, hns⟩ := hk
  intro H locs ls hP hz hS hl
  exact W.zret hx hb hr hn (fun t ht hW => ⟨⟨_, ad, E, rfl, ⟨v, rfl, rfl, hp⟩, by rw [ht]; exact hP, hz⟩, hS.F ht⟩) hS.2.2 hd hlk
theorem G_lret (hk : gOk l rm K V cc nL own (some .long) nm) {post : Int64 → (Nat → va_E) → Prop} {v : Int64} (hd : decode cc pc = .ok (.lreturn, 1)) (hp : post v E) : G K V nL (gQ K V N cells slots (pJ ad post)) ad N cells slots pc lv [.long v] E := by
  obtain ⟨hl0, hR, hx, hb, hml, hown, hts, hr, hnm, hlk, hK, hbs, hns⟩ := hk
  intro H locs ls hP hz hS hl
  exact W.lret hx hb hr (fun t ht hW => ⟨⟨_, ad, E, rfl, ⟨v, rfl, rfl, hp⟩, by rw [ht]; exact hP, hz⟩, hS.F ht⟩) hS.2.2 hd hlk
theorem G_vret (hk : gOk l rm K V cc nL own none nm) {post : (Nat → va_E) → Prop} (hd : decode cc pc = .ok (.return_, 1)) (hp : post E) : G K V nL (gQ K V N cells slots (pV ad post)) ad N cells slots pc lv [] E := by
  obtain ⟨hl0, hR, hx, hb, hml, hown, hts, hr, hnm, hlk, hK, hbs, hns⟩ := hk
  intro H locs ls hP hz hS hl
  exact W.vret hx hb hr (fun t ht hW => ⟨⟨_, ad, E, rfl, ⟨rfl, rfl, hp⟩, by rw [ht]; exact hP, hz⟩, hS.F ht⟩) hS.2.2 hd hlk
theorem G_nret (hk : gOk l rm K V cc nL own none nm) {post : (Nat → Nat) → (Nat → va_E) → Prop} (hd : decode cc pc = .ok (.return_, 1)) (hp : post ad E) : G K V nL (gQ K V N cells slots (pN post)) ad N cells slots pc lv [] E := by
  obtain ⟨hl0, hR, hx, hb, hml, hown, hts, hr, hnm, hlk, hK, hbs, hns⟩ := hk
  intro H locs ls hP hz hS hl
  exact W.vret hx hb hr (fun t ht hW => ⟨⟨_, ad, E, rfl, ⟨rfl, hp⟩, by rw [ht]; exact hP, hz⟩, hS.F ht⟩) hS.2.2 hd hlk
theorem gFB {as : List Value} : FrameBlind (gPc V ad N as E) := fun a U g mk q => by
  obtain ⟨q0, qP, qK, qD, qb, qn⟩ := q
  exact ⟨q0, qP, va_K.moved (u := U) (U := U.calling g mk a) (Vm.Alike.refl U.vm) qK, qD, qb, gNs.same qn rfl⟩
theorem gRun {H : Heap} {locs : List Loc} {ls : Array Slot} {st0 : List Value} {a : Array Value} {mc ms : Nat} {post : Option Value → (Nat → Nat) → (Nat → va_E) → Prop}
    (hr : va_Run K.1 K.2.1 K.2.2.1 K.2.2.2.1 K.2.2.2.2.1 K.2.2.2.2.2.1 K.2.2.2.2.2.2.1 K.2.2.2.2.2.2.2.1 K.2.2.2.2.2.2.2.2.1 K.2.2.2.2.2.2.2.2.2 H locs cells slots mc ms (F0 (gm K) pc ls st0) rest (gQc V N' post a) (fun q => V.2.2 ≤ q)) (hS : va_S (fun q => V.2.2 ≤ q) (gs K).heap H locs)
    (kk : ∀ (r : Option Value) (ad2 : Nat → Nat) (E2 : Nat → va_E) (H1 : Heap) (locs1 : List Loc), post r ad2 E2 → va_P V.1 vwCl (gwd ad2 N' E2) H1 → va_D (fun q => V.2.2 ≤ q) (gwd ad2 N' E2) → va_S (fun q => V.2.2 ≤ q) (gs K).heap H1 locs1 → gW K H1 locs1 (cells + mc) (slots + ms) Q (F0 (gm K) (pc + 3) ls (r.toList ++ rest))) : gW K H locs cells slots Q (F0 (gm K) pc ls st0) := by
  intro T hT X
  obtain ⟨v, st₀, t, T', L, h0, X', hL, e1, e2, ⟨⟨r, ad2, E2, hv, hp, hb, hd⟩, hz, hk⟩, stp⟩ := hr T hT X
  cases hv
  rw [h0] at hz hk
  obtain ⟨t2, a1, b1⟩ := kk v ad2 E2 T'.heap (locs ++ L) hp (by rw [e1]; exact hb) hd ⟨Nat.le_trans hS.1 (by rw [e1]; exact hz), fun q h1 h2 => by rw [e1, hk q (Nat.lt_of_lt_of_le h1 hS.1) h2]; exact hS.2.1 q h1 h2, fun q hq => (List.mem_append.mp hq).elim (hS.2.2 q) (hL q)⟩ T' rfl X'
  exact ⟨t2, stp t2 a1, b1⟩
theorem gGood {w : Cond} (h : w ∈ gT) : GoodIn gT (w :: gT) := fun u hu => by
  have h1 : u ∈ gT := (List.mem_cons.mp hu).elim (fun e => e ▸ h) id
  exact ⟨h1, gT_good h1⟩
theorem gCB {y : MethodName} {cy : ByteArray} {mL n idx : Nat} {ry : Option FieldType} {rmy : Room} (hk : gOk l rm K V cc nL own ret nm) (hm : gMeth y cy mL ry n) (hlk : Cond.methodLink own idx y ∈ gT) (hR : rmy.frames + 1 ≤ rm.frames ∧ 8 + (mL + 11) + rmy.locals ≤ rm.locals) :
    CallB K.2.2.2.1 (gs K) (ga K) own idx y cy mL ry (Cond.code y cy mL ry :: gT) rmy rmy.cells rmy.slots n := by
  obtain ⟨hl0, rfl, hx, hb, hml, hown, hts, hr, hnm, hlk2, hK, hbs, hns⟩ := hk
  exact callB_of n hts (gGood hm.1) rfl rfl rfl (hts _ hm.2.1) (hts _ hlk) hm.2.2.1 hR
/-- a call of an object's method -/
theorem G_callV {y : MethodName} {cy : ByteArray} {mL n idx k ci : Nat} {ry : Option FieldType} {rmy : Room} {As fs : List Value} {post : Option Value → (Nat → Nat) → (Nat → va_E) → Prop} (hk : gOk l rm K V cc nL own ret nm)
    (hM : Ct l V ad N N' y cy mL ry rmy (.ref (ad k) :: As) E post) (hm : gMeth y cy mL ry n) (hi : gInst y) (hlk : Cond.methodLink own idx y ∈ gT) (hd : decode cc pc = .ok (.invokevirtual idx, 3)) (hE : E k = .inr (ci, fs)) (hc : (vwCl[ci]?).map (fun q => q.1) = some y.cls) (hN : k < N) (hlen : As.length = n) (hR : rmy.frames + 1 ≤ rm.frames ∧ 8 + (mL + 11) + rmy.locals ≤ rm.locals) (hcs : cells + rmy.cells ≤ rm.cells ∧ slots + rmy.slots ≤ rm.slots) (hst : st = As.reverse ++ .ref (ad k) :: rest) (hw : (rest.map fun v => v.category).sum ≤ 8)
    (kk : ∀ (r : Option Value) (ad2 : Nat → Nat) (E2 : Nat → va_E), post r ad2 E2 → G K V nL Q ad2 N' (cells + rmy.cells) (slots + rmy.slots) (pc + 3) lv (r.toList ++ rest) E2) : G K V nL Q ad N cells slots pc lv st E := by
  have hcb := gCB (idx := idx) hk hm hlk hR
  obtain ⟨rfl, rfl, hx, hb, hml, hown, hts, hr, hnm, hlk2, hK, hbs, hns⟩ := hk
  subst hst
  intro H locs ls hP hz hS hl
  obtain ⟨q, hq, hq1⟩ := Option.map_eq_some_iff.mp hc
  obtain ⟨cell, c1, c2, c3⟩ := va_recv hK hP (ci := ci) (q0 := k) (a := ad k) (fs := fs) hq (by rw [gwd_get hN, hE])
  refine gRun (va_runV (As := As) (rest := rest) ⟨hx, hb, hml, hown, hts⟩ hM ⟨hcb, hts _ hi.1, hts _ hi.2⟩ ⟨gFB, ⟨cell, c1, c2, by rw [← hq1]; exact c3⟩, fun U hU hW => ⟨rfl, by rw [hU]; exact hP, va_K.moved hW.alike hK, hz, by rw [hU]; exact Nat.le_trans hbs hS.1, gNs.warm hW hns⟩⟩ rfl hlen hl.1 rfl (lv_room hw) hd hcs) hS (fun r ad2 E2 H1 locs1 hp hP1 hD1 hS1 => kk r ad2 E2 hp H1 locs1 ls hP1 hD1 hS1 hl)
theorem G_callS {y : MethodName} {cy : ByteArray} {mL n idx : Nat} {ry : Option FieldType} {rmy : Room} {As : List Value} {post : Option Value → (Nat → Nat) → (Nat → va_E) → Prop} (hk : gOk l rm K V cc nL own ret nm)
    (hM : Ct l V ad N N' y cy mL ry rmy As E post) (hm : gMeth y cy mL ry n) (hi : Cond.static y ∈ gT) (hlk : Cond.methodLink own idx y ∈ gT) (hd : decode cc pc = .ok (.invokestatic idx, 3)) (hlen : As.length = n) (hR : rmy.frames + 1 ≤ rm.frames ∧ 8 + (mL + 11) + rmy.locals ≤ rm.locals) (hcs : cells + rmy.cells ≤ rm.cells ∧ slots + rmy.slots ≤ rm.slots) (hst : st = As.reverse ++ rest) (hw : (rest.map fun v => v.category).sum ≤ 8)
    (kk : ∀ (r : Option Value) (ad2 : Nat → Nat) (E2 : Nat → va_E), post r ad2 E2 → G K V nL Q ad2 N' (cells + rmy.cells) (slots + rmy.slots) (pc + 3) lv (r.toList ++ rest) E2) : G K V nL Q ad N cells slots pc lv st E := by
  have hcb := gCB (idx := idx) hk hm hlk hR
  obtain ⟨rfl, rfl, hx, hb, hml, hown, hts, hr, hnm, hlk2, hK, hbs, hns⟩ := hk
  subst hst
  intro H locs ls hP hz hS hl
  refine gRun (va_runS (As := As) (rest := rest) ⟨hx, hb, hml, hown, hts⟩ hM ⟨hcb, hts _ hi⟩ ⟨gFB, fun U hU hW => ⟨rfl, by rw [hU]; exact hP, va_K.moved hW.alike hK, hz, by rw [hU]; exact Nat.le_trans hbs hS.1, gNs.warm hW hns⟩⟩ rfl hlen hl.1 rfl (lv_room hw) hd hcs) hS (fun r ad2 E2 H1 locs1 hp hP1 hD1 hS1 => kk r ad2 E2 hp H1 locs1 ls hP1 hD1 hS1 hl)
/-- a nest mate's private static method -/
theorem G_callSN {y : MethodName} {cy : ByteArray} {mL n idx : Nat} {ry : Option FieldType} {rmy : Room} {As : List Value} {host : String} {post : Option Value → (Nat → Nat) → (Nat → va_E) → Prop} (hk : gOk l rm K V cc nL own ret nm)
    (hM : Ct l V ad N N' y cy mL ry rmy As E post) (hm : gMeth y cy mL ry n) (hi : Cond.static y ∈ gT) (hlk : gNs (gs K) → va_Nw (.methodLinkNest own idx y host) (gs K)) (hd : decode cc pc = .ok (.invokestatic idx, 3)) (hlen : As.length = n) (hR : rmy.frames + 1 ≤ rm.frames ∧ 8 + (mL + 11) + rmy.locals ≤ rm.locals) (hcs : cells + rmy.cells ≤ rm.cells ∧ slots + rmy.slots ≤ rm.slots) (hst : st = As.reverse ++ rest) (hw : (rest.map fun v => v.category).sum ≤ 8)
    (kk : ∀ (r : Option Value) (ad2 : Nat → Nat) (E2 : Nat → va_E), post r ad2 E2 → G K V nL Q ad2 N' (cells + rmy.cells) (slots + rmy.slots) (pc + 3) lv (r.toList ++ rest) E2) : G K V nL Q ad N cells slots pc lv st E := by
  obtain ⟨rfl, rfl, hx, hb, hml, hown, hts, hr, hnm, hlk2, hK, hbs, hns⟩ := hk
  subst hst
  intro H locs ls hP hz hS hl
  refine gRun (va_runSN (As := As) (rest := rest) ⟨hx, hb, hml, hown, hts⟩ hM ⟨va_cnB n hts (gGood hm.1) rfl rfl rfl (hlk hns) (hts _ hm.2.1) hm.2.2.1 hR, hts _ hi, trivial⟩ ⟨gFB, fun U hU hW => ⟨rfl, by rw [hU]; exact hP, va_K.moved hW.alike hK, hz, by rw [hU]; exact Nat.le_trans hbs hS.1, gNs.warm hW hns⟩⟩ rfl hlen hl.1 rfl (lv_room hw) hd hcs) hS (fun r ad2 E2 H1 locs1 hp hP1 hD1 hS1 => kk r ad2 E2 hp H1 locs1 ls hP1 hD1 hS1 hl)
/-- a constructor of another class; of a nest mate's private one -/
theorem G_callI {y : MethodName} {cy : ByteArray} {mL n idx k : Nat} {rmy : Room} {As : List Value} {post : Option Value → (Nat → Nat) → (Nat → va_E) → Prop} (hk : gOk l rm K V cc nL own ret nm)
    (hM : Ct l V ad N N' y cy mL none rmy (.ref (ad k) :: As) E post) (hm : gMeth y cy mL none n) (hi : Cond.instanceMethod y ∈ gT) (hy : y.name = "<init>") (hlk : Cond.methodLink own idx y ∈ gT) (hd : decode cc pc = .ok (.invokespecial idx, 3)) (hlen : As.length = n) (hR : rmy.frames + 1 ≤ rm.frames ∧ 8 + (mL + 11) + rmy.locals ≤ rm.locals) (hcs : cells + rmy.cells ≤ rm.cells ∧ slots + rmy.slots ≤ rm.slots) (hst : st = As.reverse ++ .ref (ad k) :: rest) (hw : (rest.map fun v => v.category).sum ≤ 8)
    (kk : ∀ (r : Option Value) (ad2 : Nat → Nat) (E2 : Nat → va_E), post r ad2 E2 → G K V nL Q ad2 N' (cells + rmy.cells) (slots + rmy.slots) (pc + 3) lv (r.toList ++ rest) E2) : G K V nL Q ad N cells slots pc lv st E := by
  have hcb := gCB (idx := idx) hk hm hlk hR
  obtain ⟨rfl, rfl, hx, hb, hml, hown, hts, hr, hnm, hlk2, hK, hbs, hns⟩ := hk
  subst hst
  intro H locs ls hP hz hS hl
  refine gRun (va_runI (As := As) (rest := rest) ⟨hx, hb, hml, hown, hts⟩ hM ⟨hcb, hy, hts _ hi⟩ ⟨gFB, fun U hU hW => ⟨rfl, by rw [hU]; exact hP, va_K.moved hW.alike hK, hz, by rw [hU]; exact Nat.le_trans hbs hS.1, gNs.warm hW hns⟩⟩ rfl hlen hl.1 rfl (lv_room hw) hd hcs) hS (fun r ad2 E2 H1 locs1 hp hP1 hD1 hS1 => kk r ad2 E2 hp H1 locs1 ls hP1 hD1 hS1 hl)
theorem G_callIN {y : MethodName} {cy : ByteArray} {mL n idx k : Nat} {rmy : Room} {As : List Value} {host : String} {post : Option Value → (Nat → Nat) → (Nat → va_E) → Prop} (hk : gOk l rm K V cc nL own ret nm)
    (hM : Ct l V ad N N' y cy mL none rmy (.ref (ad k) :: As) E post) (hm : gMeth y cy mL none n) (hi : Cond.instanceMethod y ∈ gT) (hy : y.name = "<init>") (hlk : gNs (gs K) → va_Nw (.methodLinkNest own idx y host) (gs K)) (hd : decode cc pc = .ok (.invokespecial idx, 3)) (hlen : As.length = n) (hR : rmy.frames + 1 ≤ rm.frames ∧ 8 + (mL + 11) + rmy.locals ≤ rm.locals) (hcs : cells + rmy.cells ≤ rm.cells ∧ slots + rmy.slots ≤ rm.slots) (hst : st = As.reverse ++ .ref (ad k) :: rest) (hw : (rest.map fun v => v.category).sum ≤ 8)
    (kk : ∀ (r : Option Value) (ad2 : Nat → Nat) (E2 : Nat → va_E), post r ad2 E2 → G K V nL Q ad2 N' (cells + rmy.cells) (slots + rmy.slots) (pc + 3) lv (r.toList ++ rest) E2) : G K V nL Q ad N cells slots pc lv st E := by
  obtain ⟨rfl, rfl, hx, hb, hml, hown, hts, hr, hnm, hlk2, hK, hbs, hns⟩ := hk
  subst hst
  intro H locs ls hP hz hS hl
  refine gRun (va_runIN (As := As) (rest := rest) ⟨hx, hb, hml, hown, hts⟩ hM ⟨va_cnB n hts (gGood hm.1) rfl rfl rfl (hlk hns) (hts _ hm.2.1) hm.2.2.1 hR, hy, hts _ hi⟩ ⟨gFB, fun U hU hW => ⟨rfl, by rw [hU]; exact hP, va_K.moved hW.alike hK, hz, by rw [hU]; exact Nat.le_trans hbs hS.1, gNs.warm hW hns⟩⟩ rfl hlen hl.1 rfl (lv_room hw) hd hcs) hS (fun r ad2 E2 H1 locs1 hp hP1 hD1 hS1 => kk r ad2 E2 hp H1 locs1 ls hP1 hD1 hS1 hl)
/-! the calls as walks use them: nothing is made -/
theorem G_cVi {y : MethodName} {cy : ByteArray} {mL n idx k ci fr lo : Nat} {ry : Option FieldType} {As fs : List Value} {post : Int32 → (Nat → va_E) → Prop} (hk : gOk l rm K V cc nL own ret nm)
    (hM : Ct l V ad N N y cy mL ry { frames := fr, cells := 0, slots := 0, locals := lo } (.ref (ad k) :: As) E (pI ad post)) (hm : gMeth y cy mL ry n) (hi : gInst y) (hlk : Cond.methodLink own idx y ∈ gT) (hd : decode cc pc = .ok (.invokevirtual idx, 3)) (hE : E k = .inr (ci, fs)) (hc : (vwCl[ci]?).map (fun q => q.1) = some y.cls) (hN : k < N) (hlen : As.length = n) (hR : fr + 1 ≤ rm.frames ∧ 8 + (mL + 11) + lo ≤ rm.locals) (hcs : cells ≤ rm.cells ∧ slots ≤ rm.slots) (hst : st = As.reverse ++ .ref (ad k) :: rest) (hw : (rest.map fun v => v.category).sum ≤ 8)
    (kk : ∀ (v : Int32) (E2 : Nat → va_E), post v E2 → G K V nL Q ad N cells slots (pc + 3) lv (.int v :: rest) E2) : G K V nL Q ad N cells slots pc lv st E := by
  refine G_callV hk hM hm hi hlk hd hE hc hN hlen hR hcs hst hw ?_
  rintro r ad2 E2 ⟨v, rfl, rfl, hp⟩
  exact kk v E2 hp
theorem G_cVl {y : MethodName} {cy : ByteArray} {mL n idx k ci fr lo : Nat} {ry : Option FieldType} {As fs : List Value} {post : Int64 → (Nat → va_E) → Prop} (hk : gOk l rm K V cc nL own ret nm)
    (hM : Ct l V ad N N y cy mL ry { frames := fr, cells := 0, slots := 0, locals := lo } (.ref (ad k) :: As) E (pJ ad post)) (hm : gMeth y cy mL ry n) (hi : gInst y) (hlk : Cond.methodLink own idx y ∈ gT) (hd : decode cc pc = .ok (.invokevirtual idx, 3)) (hE : E k = .inr (ci, fs)) (hc : (vwCl[ci]?).map (fun q => q.1) = some y.cls) (hN : k < N) (hlen : As.length = n) (hR : fr + 1 ≤ rm.frames ∧ 8 + (mL + 11) + lo ≤ rm.locals) (hcs : cells ≤ rm.cells ∧ slots ≤ rm.slots) (hst : st = As.reverse ++ .ref (ad k) :: rest) (hw : (rest.map fun v => v.category).sum ≤ 8)
    (kk : ∀ (v : Int64) (E2 : Nat → va_E), post v E2 → G K V nL Q ad N cells slots (pc + 3) lv (.long v :: rest) E2) : G K V nL Q ad N cells slots pc lv st E := by
  refine G_callV hk hM hm hi hlk hd hE hc hN hlen hR hcs hst hw ?_
  rintro r ad2 E2 ⟨v, rfl, rfl, hp⟩
  exact kk v E2 hp
theorem G_cVv {y : MethodName} {cy : ByteArray} {mL n idx k ci fr lo : Nat} {ry : Option FieldType} {As fs : List Value} {post : (Nat → va_E) → Prop} (hk : gOk l rm K V cc nL own ret nm)
    (hM : Ct l V ad N N y cy mL ry { frames := fr, cells := 0, slots := 0, locals := lo } (.ref (ad k) :: As) E (pV ad post)) (hm : gMeth y cy mL ry n) (hi : gInst y) (hlk : Cond.methodLink own idx y ∈ gT) (hd : decode cc pc = .ok (.invokevirtual idx, 3)) (hE : E k = .inr (ci, fs)) (hc : (vwCl[ci]?).map (fun q => q.1) = some y.cls) (hN : k < N) (hlen : As.length = n) (hR : fr + 1 ≤ rm.frames ∧ 8 + (mL + 11) + lo ≤ rm.locals) (hcs : cells ≤ rm.cells ∧ slots ≤ rm.slots) (hst : st = As.reverse ++ .ref (ad k) :: rest) (hw : (rest.map fun v => v.category).sum ≤ 8)
    (kk : ∀ (E2 : Nat → va_E), post E2 → G K V nL Q ad N cells slots (pc + 3) lv rest E2) : G K V nL Q ad N cells slots pc lv st E := by
  refine G_callV hk hM hm hi hlk hd hE hc hN hlen hR hcs hst hw ?_
  rintro r ad2 E2 ⟨rfl, rfl, hp⟩
  exact kk E2 hp
theorem G_cSi {y : MethodName} {cy : ByteArray} {mL n idx fr lo : Nat} {ry : Option FieldType} {As : List Value} {post : Int32 → (Nat → va_E) → Prop} (hk : gOk l rm K V cc nL own ret nm)
    (hM : Ct l V ad N N y cy mL ry { frames := fr, cells := 0, slots := 0, locals := lo } As E (pI ad post)) (hm : gMeth y cy mL ry n) (hi : Cond.static y ∈ gT) (hlk : Cond.methodLink own idx y ∈ gT) (hd : decode cc pc = .ok (.invokestatic idx, 3)) (hlen : As.length = n) (hR : fr + 1 ≤ rm.frames ∧ 8 + (mL + 11) + lo ≤ rm.locals) (hcs : cells ≤ rm.cells ∧ slots ≤ rm.slots) (hst : st = As.reverse ++ rest) (hw : (rest.map fun v => v.category).sum ≤ 8)
    (kk : ∀ (v : Int32) (E2 : Nat → va_E), post v E2 → G K V nL Q ad N cells slots (pc + 3) lv (.int v :: rest) E2) : G K V nL Q ad N cells slots pc lv st E := by
  refine G_callS hk hM hm hi hlk hd hlen hR hcs hst hw ?_
  rintro r ad2 E2 ⟨v, rfl, rfl, hp⟩
  exact kk v E2 hp
theorem G_cSl {y : MethodName} {cy : ByteArray} {mL n idx fr lo : Nat} {ry : Option FieldType} {As : List Value} {post : Int64 → (Nat → va_E) → Prop} (hk : gOk l rm K V cc nL own ret nm)
    (hM : Ct l V ad N N y cy mL ry { frames := fr, cells := 0, slots := 0, locals := lo } As E (pJ ad post)) (hm : gMeth y cy mL ry n) (hi : Cond.static y ∈ gT) (hlk : Cond.methodLink own idx y ∈ gT) (hd : decode cc pc = .ok (.invokestatic idx, 3)) (hlen : As.length = n) (hR : fr + 1 ≤ rm.frames ∧ 8 + (mL + 11) + lo ≤ rm.locals) (hcs : cells ≤ rm.cells ∧ slots ≤ rm.slots) (hst : st = As.reverse ++ rest) (hw : (rest.map fun v => v.category).sum ≤ 8)
    (kk : ∀ (v : Int64) (E2 : Nat → va_E), post v E2 → G K V nL Q ad N cells slots (pc + 3) lv (.long v :: rest) E2) : G K V nL Q ad N cells slots pc lv st E := by
  refine G_callS hk hM hm hi hlk hd hlen hR hcs hst hw ?_
  rintro r ad2 E2 ⟨v, rfl, rfl, hp⟩
  exact kk v E2 hp
theorem G_cSv {y : MethodName} {cy : ByteArray} {mL n idx fr lo : Nat} {ry : Option FieldType} {As : List Value} {post : (Nat → va_E) → Prop} (hk : gOk l rm K V cc nL own ret nm)
    (hM : Ct l V ad N N y cy mL ry { frames := fr, cells := 0, slots := 0, locals := lo } As E (pV ad post)) (hm : gMeth y cy mL ry n) (hi : Cond.static y ∈ gT) (hlk : Cond.methodLink own idx y ∈ gT) (hd : decode cc pc = .ok (.invokestatic idx, 3)) (hlen : As.length = n) (hR : fr + 1 ≤ rm.frames ∧ 8 + (mL + 11) + lo ≤ rm.locals) (hcs : cells ≤ rm.cells ∧ slots ≤ rm.slots) (hst : st = As.reverse ++ rest) (hw : (rest.map fun v => v.category).sum ≤ 8)
    (kk : ∀ (E2 : Nat → va_E), post E2 → G K V nL Q ad N cells slots (pc + 3) lv rest E2) : G K V nL Q ad N cells slots pc lv st E := by
  refine G_callS hk hM hm hi hlk hd hlen hR hcs hst hw ?_
  rintro r ad2 E2 ⟨rfl, rfl, hp⟩
  exact kk E2 hp
theorem G_cSNi {y : MethodName} {cy : ByteArray} {mL n idx fr lo : Nat} {ry : Option FieldType} {As : List Value} {host : String} {post : Int32 → (Nat → va_E) → Prop} (hk : gOk l rm K V cc nL own ret nm)
    (hM : Ct l V ad N N y cy mL ry { frames := fr, cells := 0, slots := 0, locals := lo } As E (pI ad post)) (hm : gMeth y cy mL ry n) (hi : Cond.static y ∈ gT) (hlk : gNs (gs K) → va_Nw (.methodLinkNest own idx y host) (gs K)) (hd : decode cc pc = .ok (.invokestatic idx, 3)) (hlen : As.length = n) (hR : fr + 1 ≤ rm.frames ∧ 8 + (mL + 11) + lo ≤ rm.locals) (hcs : cells ≤ rm.cells ∧ slots ≤ rm.slots) (hst : st = As.reverse ++ rest) (hw : (rest.map fun v => v.category).sum ≤ 8)
    (kk : ∀ (v : Int32) (E2 : Nat → va_E), post v E2 → G K V nL Q ad N cells slots (pc + 3) lv (.int v :: rest) E2) : G K V nL Q ad N cells slots pc lv st E := by
  refine G_callSN hk hM hm hi hlk hd hlen hR hcs hst hw ?_
  rintro r ad2 E2 ⟨v, rfl, rfl, hp⟩
  exact kk v E2 hp
/-- fewer locals -/
def gSub : List (Nat × Value) → List (Nat × Value) → Prop
  | [], _ => True
  | q :: l1, l2 => gL l2 q.1 = some q.2 ∧ gSub l1 l2
theorem gSub_of : ∀ (l1 l2 : List (Nat × Value)), gSub l1 l2 → ∀ (i : Nat) (v : Value), gL l1 i = some v → gL l2 i = some v
  | [], _, _, i, v, h => by cases h
  | q :: l1, l2, h, i, v, hv => by
    simp only [gL] at hv
    split at hv
    · rename_i e
      cases hv
      rw [← e]
      exact h.1
    · exact gSub_of l1 l2 h.2 i v hv
theorem G_lv {lv2 : List (Nat × Value)} (h : gSub lv2 lv) (k : G K V nL Q ad N cells slots pc lv2 st E) : G K V nL Q ad N cells slots pc lv st E := fun H locs ls hP hz hS hl => k H locs ls hP hz hS ⟨hl.1, hl.2.1, fun i v hv => hl.2.2 i v (gSub_of lv2 lv h i v hv)⟩
theorem G_E {E2 : Nat → va_E} (h : E = E2) (k : G K V nL Q ad N cells slots pc lv st E2) : G K V nL Q ad N cells slots pc lv st E := h ▸ k
end GRET
