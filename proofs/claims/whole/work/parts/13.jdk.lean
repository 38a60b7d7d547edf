theorem jw_max : Cond.static Lib.Math.max.name ∈ gT ∧ Cond.initialized "java/lang/Math" ∈ gT ∧ Cond.code Lib.Math.max.name Lib.Math.max.code 2 (some .int) ∈ gT := ⟨gT_at 440 (by decide +kernel) (by decide +kernel), gT_at 53 (by decide +kernel) (by decide +kernel), gT_at 441 (by decide +kernel) (by decide +kernel)⟩
theorem jw_min : Cond.static Lib.Math.min.name ∈ gT ∧ Cond.initialized "java/lang/Math" ∈ gT ∧ Cond.code Lib.Math.min.name Lib.Math.min.code 2 (some .int) ∈ gT := ⟨gT_at 232 (by decide +kernel) (by decide +kernel), gT_at 53 (by decide +kernel) (by decide +kernel), gT_at 233 (by decide +kernel) (by decide +kernel)⟩
theorem jw_copy : Cond.native arraycopyName ∈ gT ∧ Cond.static arraycopyName ∈ gT ∧ Cond.initialized "java/lang/System" ∈ gT := ⟨gT_at 483 (by decide +kernel) (by decide +kernel), gT_at 482 (by decide +kernel) (by decide +kernel), gT_at 54 (by decide +kernel) (by decide +kernel)⟩
theorem jlL_7 : Cond.classLink RL 7 RX5 ∈ gT := gT_at 55 (by decide +kernel) (by decide +kernel)
theorem jiX5 : Cond.instantiable RX5 8 ∈ gT := gT_at 56 (by decide +kernel) (by decide +kernel)
theorem jlX5_9 : Cond.classLink RX5 9 RX1 ∈ gT := gT_at 63 (by decide +kernel) (by decide +kernel)
theorem jiX1 : Cond.instantiable RX1 3 ∈ gT := gT_at 64 (by decide +kernel) (by decide +kernel)
theorem jlX1_9 : Cond.classLink RX1 9 RX3 ∈ gT := gT_at 69 (by decide +kernel) (by decide +kernel)
theorem jlX1_17 : Cond.classLink RX1 17 RX0 ∈ gT := gT_at 71 (by decide +kernel) (by decide +kernel)
theorem jiX0 : Cond.instantiable RX0 3 ∈ gT := gT_at 72 (by decide +kernel) (by decide +kernel)
theorem ja_int : Cond.arrayClass .int ∈ gT := gT_at 90 (by decide +kernel) (by decide +kernel)
theorem jiX3 : Cond.instantiable RX3 5 ∈ gT := gT_at 91 (by decide +kernel) (by decide +kernel)
theorem jlX5_21 : Cond.classLink RX5 21 RX2 ∈ gT := gT_at 141 (by decide +kernel) (by decide +kernel)
theorem jiX2 : Cond.instantiable RX2 3 ∈ gT := gT_at 143 (by decide +kernel) (by decide +kernel)
theorem jkX4_31 : Cond.methodLink RX4 31 Lib.Math.min.name ∈ gT := gT_at 231 (by decide +kernel) (by decide +kernel)
theorem jcX5_186 : Cond.constantLong RX5 186 (-9223372036854775808 : Int64) ∈ gT := gT_at 434 (by decide +kernel) (by decide +kernel)
theorem jkX5_245 : Cond.methodLink RX5 245 Lib.Math.max.name ∈ gT := gT_at 439 (by decide +kernel) (by decide +kernel)
theorem jkX2_22 : Cond.methodLink RX2 22 Lib.Math.min.name ∈ gT := gT_at 450 (by decide +kernel) (by decide +kernel)
theorem jkX2_28 : Cond.methodLink RX2 28 Lib.Math.max.name ∈ gT := gT_at 451 (by decide +kernel) (by decide +kernel)
theorem jkX5_217 : Cond.methodLink RX5 217 arraycopyName ∈ gT := gT_at 481 (by decide +kernel) (by decide +kernel)
theorem jlL_10 : Cond.classLink RL 10 RX6 ∈ gT := gT_at 532 (by decide +kernel) (by decide +kernel)
theorem jiX6 : Cond.instantiable RX6 17 ∈ gT := gT_at 533 (by decide +kernel) (by decide +kernel)
theorem jcX6_41 : Cond.constantLong RX6 41 (-9223372036854775808 : Int64) ∈ gT := gT_at 777 (by decide +kernel) (by decide +kernel)
theorem jcX6_169 : Cond.constantLong RX6 169 (26 : Int64) ∈ gT := gT_at 778 (by decide +kernel) (by decide +kernel)
theorem jnX0 : Cond.initialized RX0 ∈ gT := gT_at 48 (by decide +kernel) (by decide +kernel)
theorem jnX1 : Cond.initialized RX1 ∈ gT := gT_at 47 (by decide +kernel) (by decide +kernel)
theorem jnX2 : Cond.initialized RX2 ∈ gT := gT_at 50 (by decide +kernel) (by decide +kernel)
theorem jnX3 : Cond.initialized RX3 ∈ gT := gT_at 49 (by decide +kernel) (by decide +kernel)
theorem jnX5 : Cond.initialized RX5 ∈ gT := gT_at 46 (by decide +kernel) (by decide +kernel)
theorem jnX6 : Cond.initialized RX6 ∈ gT := gT_at 51 (by decide +kernel) (by decide +kernel)
section GJ
variable {l : Launch} {rm : Room} {K : gX} {V : gV} {cc : ByteArray} {nL : Nat} {own : String} {ret : Option FieldType} {nm : String} {Q : State → Prop} {ad : Nat → Nat} {N cells slots pc : Nat} {lv : List (Nat × Value)} {st : List Value} {E : Nat → va_E}
theorem G_mmax (hk : gOk l rm K V cc nL own ret nm) {idx : Nat} {x y : Int32} (hlk : Cond.methodLink own idx Lib.Math.max.name ∈ gT) (hd : decode cc pc = .ok (.invokestatic idx, 3)) (hw : (st.map fun v => v.category).sum + 13 ≤ rm.locals) (hf : 1 ≤ rm.frames) (hcs : cells ≤ rm.cells ∧ slots ≤ rm.slots) (kk : G K V nL Q ad N cells slots (pc + 3) lv (.int (if x < y then y else x) :: st) E) : G K V nL Q ad N cells slots pc lv (.int y :: .int x :: st) E := by
  obtain ⟨rfl, rfl, hx, hb, hml, hown, hts, hr, hnm, hlk2, hK, hbs, hns⟩ := hk
  intro H locs ls hP hz hS hl
  exact va_mmax hx hb (hml.trans hl.1.symm) hown (hts _ hlk) (hts _ jw_max.1) (hts _ jw_max.2.1) (hts _ jw_max.2.2) hf hw hcs.1 hcs.2 hd (kk H locs ls hP hz hS hl)
theorem G_mmin (hk : gOk l rm K V cc nL own ret nm) {idx : Nat} {x y : Int32} (hlk : Cond.methodLink own idx Lib.Math.min.name ∈ gT) (hd : decode cc pc = .ok (.invokestatic idx, 3)) (hw : (st.map fun v => v.category).sum + 13 ≤ rm.locals) (hf : 1 ≤ rm.frames) (hcs : cells ≤ rm.cells ∧ slots ≤ rm.slots) (kk : G K V nL Q ad N cells slots (pc + 3) lv (.int (if y < x then y else x) :: st) E) : G K V nL Q ad N cells slots pc lv (.int y :: .int x :: st) E := by
  obtain ⟨rfl, rfl, hx, hb, hml, hown, hts, hr, hnm, hlk2, hK, hbs, hns⟩ := hk
  intro H locs ls hP hz hS hl
  exact va_mmin hx hb (hml.trans hl.1.symm) hown (hts _ hlk) (hts _ jw_min.1) (hts _ jw_min.2.1) (hts _ jw_min.2.2) hf hw hcs.1 hcs.2 hd (kk H locs ls hP hz hS hl)
theorem G_copyi (hk : gOk l rm K V cc nL own ret nm) {idx k0 k1 n0 n1 : Nat} {f g : Nat → Int32} {sp dp n : Int32} (hlk : Cond.methodLink own idx arraycopyName ∈ gT) (hd : decode cc pc = .ok (.invokestatic idx, 3)) (hE0 : E k0 = gI V n0 f) (hE1 : E k1 = gI V n1 g) (h1 : ¬ sp < 0) (h2 : ¬ dp < 0) (h3 : ¬ n < 0) (h4 : sp.toNatClampNeg + n.toNatClampNeg ≤ n0) (h5 : dp.toNatClampNeg + n.toNatClampNeg ≤ n1) (hN0 : k0 < N) (hN1 : k1 < N) (hw : (st.map fun v => v.category).sum + (nativeFrameWords "java/lang/System" "arraycopy" 5 + 11) ≤ rm.locals) (hf : 1 ≤ rm.frames) (kk : G K V nL Q ad N cells slots (pc + 3) lv st (va_up E k1 (gI V n1 (va_cpy f g sp.toNatClampNeg dp.toNatClampNeg n.toNatClampNeg)))) : G K V nL Q ad N cells slots pc lv (.int n :: .int dp :: .ref (ad k1) :: .int sp :: .ref (ad k0) :: st) E := by
  obtain ⟨rfl, rfl, hx, hb, hml, hown, hts, hr, hnm, hlk2, hK, hbs, hns⟩ := hk
  intro H locs ls hP hz hS hl
  refine va_copyi hx hb (hml.trans hl.1.symm) hown (hts _ hlk) (hts _ jw_copy.1) (hts _ jw_copy.2.1) (hts _ jw_copy.2.2) hK hP hz hS k0 k1 0 0 (ty := .int) (by rw [gwd_get hN0, hE0]) (by rw [gwd_get hN1, hE1]) rfl rfl rfl h1 h2 h3 h4 h5 (fun i _ => rfl) hf hw hd (fun H1 locs1 hP1 hD1 hS1 => ?_)
  rw [gwd_set hN1] at hP1 hD1
  exact kk H1 locs1 ls hP1 hD1 hS1 hl
end GJ
