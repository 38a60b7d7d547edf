set_option maxHeartbeats 4000000 in
set_option maxRecDepth 100000 in
theorem la_rules {l : Launch} {K : gX} {V : gV} {ad : Nat → Nat} {rt : Option FieldType} {nm : String} {Q : State → Prop} {b L : Nat} {xs : Nat → Int32} (hk : gOk l room_1 K V cL_law 4 RL rt nm) (hX : lX K V b L xs) (hL : L ≤ 3584) {j : Nat} (hj : j + 7 ≤ L) (hend : ∀ E2, lI V ad E2 → G K V 4 Q ad 44 44 786 1051 [(0, .ref b), (1, .ref (ad 0)), (2, .ref (ad 34)), (3, .int (nI j))] [] E2) {E : Nat → va_E} (hI : lI V ad E) : G K V 4 Q ad 44 44 786 156 [(0, .ref b), (1, .ref (ad 0)), (2, .ref (ad 34)), (3, .int (nI j))] [] E := by
  obtain ⟨n, R, rd, rp, rw, tr, fa, la, sz, cl, hC, hR, ho, hlo⟩ := hI
  refine G_aload_n (i := 1) hk dL_law_156 rfl rfl ?_
  refine G_aload_n (i := 0) hk dL_law_157 rfl rfl ?_
  refine G_iload_n (i := 3) hk dL_law_158 rfl rfl ?_
  refine G_iconst (v := 1) hk dL_law_159 (by decide) ?_
  refine G_iadd hk dL_law_160 ?_
  refine G_sld (j := j + 1) hk hX dL_law_161 (nI_add j 1) (by omega) (by omega) ?_
  refine G_aload_n (i := 0) hk dL_law_162 rfl rfl ?_
  refine G_iload_n (i := 3) hk dL_law_163 rfl rfl ?_
  refine G_iconst (v := 2) hk dL_law_164 (by decide) ?_
  refine G_iadd hk dL_law_165 ?_
  refine G_sld (j := j + 2) hk hX dL_law_166 (nI_add j 2) (by omega) (by omega) ?_
  refine G_aload_n (i := 0) hk dL_law_167 rfl rfl ?_
  refine G_iload_n (i := 3) hk dL_law_168 rfl rfl ?_
  refine G_iconst (v := 3) hk dL_law_169 (by decide) ?_
  refine G_iadd hk dL_law_170 ?_
  refine G_sld (j := j + 3) hk hX dL_law_171 (nI_add j 3) (by omega) (by omega) ?_
  refine G_aload_n (i := 0) hk dL_law_172 rfl rfl ?_
  refine G_iload_n (i := 3) hk dL_law_173 rfl rfl ?_
  refine G_iconst (v := 4) hk dL_law_174 (by decide) ?_
  refine G_iadd hk dL_law_175 ?_
  refine G_sld (j := j + 4) hk hX dL_law_176 (nI_add j 4) (by omega) (by omega) ?_
  refine G_cVi hk (c_X5_rules l V ad E n rd R rp rw tr fa la sz cl hC (xs (j + 1)) (xs (j + 2)) (xs (j + 3)) (xs (j + 4))) mX5_rules vX5_rules kL_13 dL_law_177 hC.1 (by rfl) (by first | decide | omega) rfl (by decide) (by decide) rfl (Nat.le_of_ble_eq_true rfl) (fun r_177 E_177 h_177 => ?_)
  obtain ⟨rfl, ⟨R2, hC1, hRe⟩, f1⟩ := h_177
  have hR1 := hR.eqv f1
  obtain ⟨at1, rr, dn, wo, so, sl, ce, pa, rz, dl, ke, p2, w2, hM, -⟩ := id hR1
  have m0 := hM.1
  refine G_aload_n (i := 2) hk dL_law_180 rfl rfl ?_
  refine G_aload_n (i := 0) hk dL_law_181 rfl rfl ?_
  refine G_iload_n (i := 3) hk dL_law_182 rfl rfl ?_
  refine G_iconst (v := 1) hk dL_law_183 (by decide) ?_
  refine G_iadd hk dL_law_184 ?_
  refine G_sld (j := j + 1) hk hX dL_law_185 (nI_add j 1) (by omega) (by omega) ?_
  refine G_aload_n (i := 0) hk dL_law_186 rfl rfl ?_
  refine G_iload_n (i := 3) hk dL_law_187 rfl rfl ?_
  refine G_iconst (v := 2) hk dL_law_188 (by decide) ?_
  refine G_iadd hk dL_law_189 ?_
  refine G_sld (j := j + 2) hk hX dL_law_190 (nI_add j 2) (by omega) (by omega) ?_
  refine G_aload_n (i := 0) hk dL_law_191 rfl rfl ?_
  refine G_iload_n (i := 3) hk dL_law_192 rfl rfl ?_
  refine G_iconst (v := 3) hk dL_law_193 (by decide) ?_
  refine G_iadd hk dL_law_194 ?_
  refine G_sld (j := j + 3) hk hX dL_law_195 (nI_add j 3) (by omega) (by omega) ?_
  refine G_aload_n (i := 0) hk dL_law_196 rfl rfl ?_
  refine G_iload_n (i := 3) hk dL_law_197 rfl rfl ?_
  refine G_iconst (v := 4) hk dL_law_198 (by decide) ?_
  refine G_iadd hk dL_law_199 ?_
  refine G_sld (j := j + 4) hk hX dL_law_200 (nI_add j 4) (by omega) (by omega) ?_
  refine G_cVi hk (c_X6_rules l V ad E_177 n rd R rp rw tr fa la sz cl hR1 ho hlo (xs (j + 1)) (xs (j + 2)) (xs (j + 3)) (xs (j + 4))) mX6_rules vX6_rules kL_17 dL_law_201 m0 (by rfl) (by first | decide | omega) rfl (by decide) (by decide) rfl (Nat.le_of_ble_eq_true rfl) (fun r_201 E_201 h_201 => ?_)
  obtain ⟨rfl, hR2, f2⟩ := h_201
  have hC2 := hC1.eqv f2
  refine G_icmp_eq (tgt := 1051) hk dL_law_204 (by decide) (fun c_204 => ?_) (fun c_204 => ?_)
  · try simp only [gB_ne, gB_eq, Decidable.not_not] at c_204
    exact hend _ ⟨_, _, _, _, _, _, _, _, _, _, hC2, (hR2.ru hRe), ((ho.rules hC.s60 (xs (j + 1)) (xs (j + 2)) (xs (j + 3)) (xs (j + 4))).ru hRe), hlo⟩
  · try simp only [gB_ne, gB_eq, Decidable.not_not] at c_204
    first | exact absurd trivial c_204 | exact absurd rfl c_204 | exact absurd (lg_cmp_self _) c_204

set_option maxHeartbeats 4000000 in
set_option maxRecDepth 100000 in
theorem la_ofRule {l : Launch} {K : gX} {V : gV} {ad : Nat → Nat} {rt : Option FieldType} {nm : String} {Q : State → Prop} {b L : Nat} {xs : Nat → Int32} (hk : gOk l room_1 K V cL_law 4 RL rt nm) (hX : lX K V b L xs) (hL : L ≤ 3584) {j : Nat} (hj : j + 7 ≤ L) (hend : ∀ E2, lI V ad E2 → G K V 4 Q ad 44 44 786 1051 [(0, .ref b), (1, .ref (ad 0)), (2, .ref (ad 34)), (3, .int (nI j))] [] E2) {E : Nat → va_E} (hI : lI V ad E) : G K V 4 Q ad 44 44 786 209 [(0, .ref b), (1, .ref (ad 0)), (2, .ref (ad 34)), (3, .int (nI j))] [] E := by
  obtain ⟨n, R, rd, rp, rw, tr, fa, la, sz, cl, hC, hR, ho, hlo⟩ := hI
  refine G_aload_n (i := 1) hk dL_law_209 rfl rfl ?_
  refine G_aload_n (i := 0) hk dL_law_210 rfl rfl ?_
  refine G_iload_n (i := 3) hk dL_law_211 rfl rfl ?_
  refine G_iconst (v := 1) hk dL_law_212 (by decide) ?_
  refine G_iadd hk dL_law_213 ?_
  refine G_sld (j := j + 1) hk hX dL_law_214 (nI_add j 1) (by omega) (by omega) ?_
  refine G_aload_n (i := 0) hk dL_law_215 rfl rfl ?_
  refine G_iload_n (i := 3) hk dL_law_216 rfl rfl ?_
  refine G_iconst (v := 2) hk dL_law_217 (by decide) ?_
  refine G_iadd hk dL_law_218 ?_
  refine G_sld (j := j + 2) hk hX dL_law_219 (nI_add j 2) (by omega) (by omega) ?_
  refine G_cVi hk (c_X5_ofRule l V ad E n rd R rp rw tr fa la sz cl hC (xs (j + 1)) (xs (j + 2))) mX5_ofRule vX5_ofRule kL_18 dL_law_220 hC.1 (by rfl) (by first | decide | omega) rfl (by decide) (by decide) rfl (Nat.le_of_ble_eq_true rfl) (fun r_220 E_220 h_220 => ?_)
  obtain ⟨rfl, hC1, f1⟩ := h_220
  have hR1 := hR.eqv f1
  obtain ⟨at1, rr, dn, wo, so, sl, ce, pa, rz, dl, ke, p2, w2, hM, -⟩ := id hR1
  have m0 := hM.1
  refine G_aload_n (i := 2) hk dL_law_223 rfl rfl ?_
  refine G_aload_n (i := 0) hk dL_law_224 rfl rfl ?_
  refine G_iload_n (i := 3) hk dL_law_225 rfl rfl ?_
  refine G_iconst (v := 1) hk dL_law_226 (by decide) ?_
  refine G_iadd hk dL_law_227 ?_
  refine G_sld (j := j + 1) hk hX dL_law_228 (nI_add j 1) (by omega) (by omega) ?_
  refine G_aload_n (i := 0) hk dL_law_229 rfl rfl ?_
  refine G_iload_n (i := 3) hk dL_law_230 rfl rfl ?_
  refine G_iconst (v := 2) hk dL_law_231 (by decide) ?_
  refine G_iadd hk dL_law_232 ?_
  refine G_sld (j := j + 2) hk hX dL_law_233 (nI_add j 2) (by omega) (by omega) ?_
  refine G_cVi hk (c_X6_ofRule l V ad E_220 n rd R rp rw tr fa la sz cl hR1 ho (xs (j + 1)) (xs (j + 2))) mX6_ofRule vX6_ofRule kL_22 dL_law_234 m0 (by rfl) (by first | decide | omega) rfl (by decide) (by decide) rfl (Nat.le_of_ble_eq_true rfl) (fun r_234 E_234 h_234 => ?_)
  obtain ⟨rfl, hR2, f2⟩ := h_234
  have hC2 := hC1.eqv f2
  refine G_icmp_eq (tgt := 1051) hk dL_law_237 (by decide) (fun c_237 => ?_) (fun c_237 => ?_)
  · try simp only [gB_ne, gB_eq, Decidable.not_not] at c_237
    exact hend _ ⟨_, _, _, _, _, _, _, _, _, _, hC2, hR2, ho, hlo⟩
  · try simp only [gB_ne, gB_eq, Decidable.not_not] at c_237
    first | exact absurd trivial c_237 | exact absurd rfl c_237 | exact absurd (lg_cmp_self _) c_237

set_option maxHeartbeats 4000000 in
set_option maxRecDepth 100000 in
theorem la_number {l : Launch} {K : gX} {V : gV} {ad : Nat → Nat} {rt : Option FieldType} {nm : String} {Q : State → Prop} {b L : Nat} {xs : Nat → Int32} (hk : gOk l room_1 K V cL_law 4 RL rt nm) (hX : lX K V b L xs) (hL : L ≤ 3584) {j : Nat} (hj : j + 7 ≤ L) (hend : ∀ E2, lI V ad E2 → G K V 4 Q ad 44 44 786 1051 [(0, .ref b), (1, .ref (ad 0)), (2, .ref (ad 34)), (3, .int (nI j))] [] E2) {E : Nat → va_E} (hI : lI V ad E) : G K V 4 Q ad 44 44 786 242 [(0, .ref b), (1, .ref (ad 0)), (2, .ref (ad 34)), (3, .int (nI j))] [] E := by
  obtain ⟨n, R, rd, rp, rw, tr, fa, la, sz, cl, hC, hR, ho, hlo⟩ := hI
  refine G_aload_n (i := 1) hk dL_law_242 rfl rfl ?_
  refine G_aload_n (i := 0) hk dL_law_243 rfl rfl ?_
  refine G_iload_n (i := 3) hk dL_law_244 rfl rfl ?_
  refine G_iconst (v := 1) hk dL_law_245 (by decide) ?_
  refine G_iadd hk dL_law_246 ?_
  refine G_sld (j := j + 1) hk hX dL_law_247 (nI_add j 1) (by omega) (by omega) ?_
  refine G_aload_n (i := 0) hk dL_law_248 rfl rfl ?_
  refine G_iload_n (i := 3) hk dL_law_249 rfl rfl ?_
  refine G_iconst (v := 2) hk dL_law_250 (by decide) ?_
  refine G_iadd hk dL_law_251 ?_
  refine G_sld (j := j + 2) hk hX dL_law_252 (nI_add j 2) (by omega) (by omega) ?_
  refine G_cVi hk (c_X5_number l V ad E n rd R rp rw tr fa la sz cl hC (xs (j + 1)) (xs (j + 2))) mX5_number vX5_number kL_23 dL_law_253 hC.1 (by rfl) (by first | decide | omega) rfl (by decide) (by decide) rfl (Nat.le_of_ble_eq_true rfl) (fun r_253 E_253 h_253 => ?_)
  obtain ⟨rfl, ⟨R2, hC1, hRe⟩, f1⟩ := h_253
  have hR1 := hR.eqv f1
  obtain ⟨at1, rr, dn, wo, so, sl, ce, pa, rz, dl, ke, p2, w2, hM, -⟩ := id hR1
  have m0 := hM.1
  refine G_aload_n (i := 2) hk dL_law_256 rfl rfl ?_
  refine G_aload_n (i := 0) hk dL_law_257 rfl rfl ?_
  refine G_iload_n (i := 3) hk dL_law_258 rfl rfl ?_
  refine G_iconst (v := 1) hk dL_law_259 (by decide) ?_
  refine G_iadd hk dL_law_260 ?_
  refine G_sld (j := j + 1) hk hX dL_law_261 (nI_add j 1) (by omega) (by omega) ?_
  refine G_aload_n (i := 0) hk dL_law_262 rfl rfl ?_
  refine G_iload_n (i := 3) hk dL_law_263 rfl rfl ?_
  refine G_iconst (v := 2) hk dL_law_264 (by decide) ?_
  refine G_iadd hk dL_law_265 ?_
  refine G_sld (j := j + 2) hk hX dL_law_266 (nI_add j 2) (by omega) (by omega) ?_
  refine G_cVi hk (c_X6_number l V ad E_253 n rd R rp rw tr fa la sz cl hR1 ho (xs (j + 1)) (xs (j + 2))) mX6_number vX6_number kL_26 dL_law_267 m0 (by rfl) (by first | decide | omega) rfl (by decide) (by decide) rfl (Nat.le_of_ble_eq_true rfl) (fun r_267 E_267 h_267 => ?_)
  obtain ⟨rfl, hR2, f2⟩ := h_267
  have hC2 := hC1.eqv f2
  refine G_icmp_eq (tgt := 1051) hk dL_law_270 (by decide) (fun c_270 => ?_) (fun c_270 => ?_)
  · try simp only [gB_ne, gB_eq, Decidable.not_not] at c_270
    exact hend _ ⟨_, _, _, _, _, _, _, _, _, _, hC2, (hR2.ru hRe), ((ho.number (xs (j + 1)) (xs (j + 2))).ru hRe), hlo⟩
  · try simp only [gB_ne, gB_eq, Decidable.not_not] at c_270
    first | exact absurd trivial c_270 | exact absurd rfl c_270 | exact absurd (lg_cmp_self _) c_270

set_option maxHeartbeats 4000000 in
set_option maxRecDepth 100000 in
theorem la_insert {l : Launch} {K : gX} {V : gV} {ad : Nat → Nat} {rt : Option FieldType} {nm : String} {Q : State → Prop} {b L : Nat} {xs : Nat → Int32} (hk : gOk l room_1 K V cL_law 4 RL rt nm) (hX : lX K V b L xs) (hL : L ≤ 3584) {j : Nat} (hj : j + 7 ≤ L) (hend : ∀ E2, lI V ad E2 → G K V 4 Q ad 44 44 786 1051 [(0, .ref b), (1, .ref (ad 0)), (2, .ref (ad 34)), (3, .int (nI j))] [] E2) {E : Nat → va_E} (hI : lI V ad E) : G K V 4 Q ad 44 44 786 275 [(0, .ref b), (1, .ref (ad 0)), (2, .ref (ad 34)), (3, .int (nI j))] [] E := by
  obtain ⟨n, R, rd, rp, rw, tr, fa, la, sz, cl, hC, hR, ho, hlo⟩ := hI
  refine G_aload_n (i := 1) hk dL_law_275 rfl rfl ?_
  refine G_aload_n (i := 0) hk dL_law_276 rfl rfl ?_
  refine G_iload_n (i := 3) hk dL_law_277 rfl rfl ?_
  refine G_iconst (v := 1) hk dL_law_278 (by decide) ?_
  refine G_iadd hk dL_law_279 ?_
  refine G_sld (j := j + 1) hk hX dL_law_280 (nI_add j 1) (by omega) (by omega) ?_
  refine G_aload_n (i := 0) hk dL_law_281 rfl rfl ?_
  refine G_iload_n (i := 3) hk dL_law_282 rfl rfl ?_
  refine G_iconst (v := 2) hk dL_law_283 (by decide) ?_
  refine G_iadd hk dL_law_284 ?_
  refine G_sld (j := j + 2) hk hX dL_law_285 (nI_add j 2) (by omega) (by omega) ?_
  refine G_aload_n (i := 0) hk dL_law_286 rfl rfl ?_
  refine G_iload_n (i := 3) hk dL_law_287 rfl rfl ?_
  refine G_iconst (v := 3) hk dL_law_288 (by decide) ?_
  refine G_iadd hk dL_law_289 ?_
  refine G_sld (j := j + 3) hk hX dL_law_290 (nI_add j 3) (by omega) (by omega) ?_
  refine G_aload_n (i := 0) hk dL_law_291 rfl rfl ?_
  refine G_iload_n (i := 3) hk dL_law_292 rfl rfl ?_
  refine G_iconst (v := 4) hk dL_law_293 (by decide) ?_
  refine G_iadd hk dL_law_294 ?_
  refine G_sld (j := j + 4) hk hX dL_law_295 (nI_add j 4) (by omega) (by omega) ?_
  refine G_aload_n (i := 0) hk dL_law_296 rfl rfl ?_
  refine G_iload_n (i := 3) hk dL_law_297 rfl rfl ?_
  refine G_iconst (v := 5) hk dL_law_298 (by decide) ?_
  refine G_iadd hk dL_law_299 ?_
  refine G_sld (j := j + 5) hk hX dL_law_300 (nI_add j 5) (by omega) (by omega) ?_
  refine G_aload_n (i := 0) hk dL_law_301 rfl rfl ?_
  refine G_iload_n (i := 3) hk dL_law_302 rfl rfl ?_
  refine G_bipush (v := 6) hk dL_law_303 (by decide) ?_
  refine G_iadd hk dL_law_305 ?_
  refine G_sld (j := j + 6) hk hX dL_law_306 (nI_add j 6) (by omega) (by omega) ?_
  refine G_cVi hk (c_X5_insert l V ad E n rd R rp rw tr fa la sz cl hC (xs (j + 1)) (xs (j + 2)) (xs (j + 3)) (xs (j + 4)) (xs (j + 5)) (xs (j + 6))) mX5_insert vX5_insert kL_27 dL_law_307 hC.1 (by rfl) (by first | decide | omega) rfl (by decide) (by decide) rfl (Nat.le_of_ble_eq_true rfl) (fun r_307 E_307 h_307 => ?_)
  obtain ⟨rfl, ⟨R2, hC1, hRe⟩, f1⟩ := h_307
  have hR1 := hR.eqv f1
  obtain ⟨at1, rr, dn, wo, so, sl, ce, pa, rz, dl, ke, p2, w2, hM, -⟩ := id hR1
  have m0 := hM.1
  refine G_aload_n (i := 2) hk dL_law_310 rfl rfl ?_
  refine G_aload_n (i := 0) hk dL_law_311 rfl rfl ?_
  refine G_iload_n (i := 3) hk dL_law_312 rfl rfl ?_
  refine G_iconst (v := 1) hk dL_law_313 (by decide) ?_
  refine G_iadd hk dL_law_314 ?_
  refine G_sld (j := j + 1) hk hX dL_law_315 (nI_add j 1) (by omega) (by omega) ?_
  refine G_aload_n (i := 0) hk dL_law_316 rfl rfl ?_
  refine G_iload_n (i := 3) hk dL_law_317 rfl rfl ?_
  refine G_iconst (v := 2) hk dL_law_318 (by decide) ?_
  refine G_iadd hk dL_law_319 ?_
  refine G_sld (j := j + 2) hk hX dL_law_320 (nI_add j 2) (by omega) (by omega) ?_
  refine G_aload_n (i := 0) hk dL_law_321 rfl rfl ?_
  refine G_iload_n (i := 3) hk dL_law_322 rfl rfl ?_
  refine G_iconst (v := 3) hk dL_law_323 (by decide) ?_
  refine G_iadd hk dL_law_324 ?_
  refine G_sld (j := j + 3) hk hX dL_law_325 (nI_add j 3) (by omega) (by omega) ?_
  refine G_aload_n (i := 0) hk dL_law_326 rfl rfl ?_
  refine G_iload_n (i := 3) hk dL_law_327 rfl rfl ?_
  refine G_iconst (v := 4) hk dL_law_328 (by decide) ?_
  refine G_iadd hk dL_law_329 ?_
  refine G_sld (j := j + 4) hk hX dL_law_330 (nI_add j 4) (by omega) (by omega) ?_
  refine G_aload_n (i := 0) hk dL_law_331 rfl rfl ?_
  refine G_iload_n (i := 3) hk dL_law_332 rfl rfl ?_
  refine G_iconst (v := 5) hk dL_law_333 (by decide) ?_
  refine G_iadd hk dL_law_334 ?_
  refine G_sld (j := j + 5) hk hX dL_law_335 (nI_add j 5) (by omega) (by omega) ?_
  refine G_aload_n (i := 0) hk dL_law_336 rfl rfl ?_
  refine G_iload_n (i := 3) hk dL_law_337 rfl rfl ?_
  refine G_bipush (v := 6) hk dL_law_338 (by decide) ?_
  refine G_iadd hk dL_law_340 ?_
  refine G_sld (j := j + 6) hk hX dL_law_341 (nI_add j 6) (by omega) (by omega) ?_
  refine G_cVi hk (c_X6_insert l V ad E_307 n rd R rp rw tr fa la sz cl hR1 ho (xs (j + 1)) (xs (j + 2)) (xs (j + 3)) (xs (j + 4)) (xs (j + 5)) (xs (j + 6))) mX6_insert vX6_insert kL_31 dL_law_342 m0 (by rfl) (by first | decide | omega) rfl (by decide) (by decide) rfl (Nat.le_of_ble_eq_true rfl) (fun r_342 E_342 h_342 => ?_)
  obtain ⟨rfl, hR2, f2⟩ := h_342
  have hC2 := hC1.eqv f2
  refine G_icmp_eq (tgt := 1051) hk dL_law_345 (by decide) (fun c_345 => ?_) (fun c_345 => ?_)
  · try simp only [gB_ne, gB_eq, Decidable.not_not] at c_345
    exact hend _ ⟨_, _, _, _, _, _, _, _, _, _, hC2, (hR2.ru hRe), ((ho.insert hC.n7 (xs (j + 1)) (xs (j + 2)) (xs (j + 3)) (xs (j + 4)) (xs (j + 5)) (xs (j + 6))).ru hRe), hlo⟩
  · try simp only [gB_ne, gB_eq, Decidable.not_not] at c_345
    first | exact absurd trivial c_345 | exact absurd rfl c_345 | exact absurd (lg_cmp_self _) c_345

set_option maxHeartbeats 4000000 in
set_option maxRecDepth 100000 in
theorem la_remove {l : Launch} {K : gX} {V : gV} {ad : Nat → Nat} {rt : Option FieldType} {nm : String} {Q : State → Prop} {b L : Nat} {xs : Nat → Int32} (hk : gOk l room_1 K V cL_law 4 RL rt nm) (hX : lX K V b L xs) (hL : L ≤ 3584) {j : Nat} (hj : j + 7 ≤ L) (hend : ∀ E2, lI V ad E2 → G K V 4 Q ad 44 44 786 1051 [(0, .ref b), (1, .ref (ad 0)), (2, .ref (ad 34)), (3, .int (nI j))] [] E2) {E : Nat → va_E} (hI : lI V ad E) : G K V 4 Q ad 44 44 786 350 [(0, .ref b), (1, .ref (ad 0)), (2, .ref (ad 34)), (3, .int (nI j))] [] E := by
  obtain ⟨n, R, rd, rp, rw, tr, fa, la, sz, cl, hC, hR, ho, hlo⟩ := hI
  refine G_aload_n (i := 1) hk dL_law_350 rfl rfl ?_
  refine G_aload_n (i := 0) hk dL_law_351 rfl rfl ?_
  refine G_iload_n (i := 3) hk dL_law_352 rfl rfl ?_
  refine G_iconst (v := 1) hk dL_law_353 (by decide) ?_
  refine G_iadd hk dL_law_354 ?_
  refine G_sld (j := j + 1) hk hX dL_law_355 (nI_add j 1) (by omega) (by omega) ?_
  refine G_cVi hk (c_X5_remove l V ad E n rd R rp rw tr fa la sz cl hC (xs (j + 1))) mX5_remove vX5_remove kL_32 dL_law_356 hC.1 (by rfl) (by first | decide | omega) rfl (by decide) (by decide) rfl (Nat.le_of_ble_eq_true rfl) (fun r_356 E_356 h_356 => ?_)
  obtain ⟨rfl, ⟨R2, hC1, hRe⟩, f1⟩ := h_356
  have hR1 := hR.eqv f1
  obtain ⟨at1, rr, dn, wo, so, sl, ce, pa, rz, dl, ke, p2, w2, hM, -⟩ := id hR1
  have m0 := hM.1
  refine G_aload_n (i := 2) hk dL_law_359 rfl rfl ?_
  refine G_aload_n (i := 0) hk dL_law_360 rfl rfl ?_
  refine G_iload_n (i := 3) hk dL_law_361 rfl rfl ?_
  refine G_iconst (v := 1) hk dL_law_362 (by decide) ?_
  refine G_iadd hk dL_law_363 ?_
  refine G_sld (j := j + 1) hk hX dL_law_364 (nI_add j 1) (by omega) (by omega) ?_
  refine G_cVi hk (c_X6_remove l V ad E_356 n rd R rp rw tr fa la sz cl hR1 ho (xs (j + 1))) mX6_remove vX6_remove kL_36 dL_law_365 m0 (by rfl) (by first | decide | omega) rfl (by decide) (by decide) rfl (Nat.le_of_ble_eq_true rfl) (fun r_365 E_365 h_365 => ?_)
  obtain ⟨rfl, hR2, f2⟩ := h_365
  have hC2 := hC1.eqv f2
  refine G_icmp_eq (tgt := 1051) hk dL_law_368 (by decide) (fun c_368 => ?_) (fun c_368 => ?_)
  · try simp only [gB_ne, gB_eq, Decidable.not_not] at c_368
    exact hend _ ⟨_, _, _, _, _, _, _, _, _, _, hC2, (hR2.ru hRe), ((ho.remove (xs (j + 1))).ru hRe), hlo⟩
  · try simp only [gB_ne, gB_eq, Decidable.not_not] at c_368
    first | exact absurd trivial c_368 | exact absurd rfl c_368 | exact absurd (lg_cmp_self _) c_368

set_option maxHeartbeats 4000000 in
set_option maxRecDepth 100000 in
theorem la_swap {l : Launch} {K : gX} {V : gV} {ad : Nat → Nat} {rt : Option FieldType} {nm : String} {Q : State → Prop} {b L : Nat} {xs : Nat → Int32} (hk : gOk l room_1 K V cL_law 4 RL rt nm) (hX : lX K V b L xs) (hL : L ≤ 3584) {j : Nat} (hj : j + 7 ≤ L) (hend : ∀ E2, lI V ad E2 → G K V 4 Q ad 44 44 786 1051 [(0, .ref b), (1, .ref (ad 0)), (2, .ref (ad 34)), (3, .int (nI j))] [] E2) {E : Nat → va_E} (hI : lI V ad E) : G K V 4 Q ad 44 44 786 373 [(0, .ref b), (1, .ref (ad 0)), (2, .ref (ad 34)), (3, .int (nI j))] [] E := by
  obtain ⟨n, R, rd, rp, rw, tr, fa, la, sz, cl, hC, hR, ho, hlo⟩ := hI
  refine G_aload_n (i := 1) hk dL_law_373 rfl rfl ?_
  refine G_aload_n (i := 0) hk dL_law_374 rfl rfl ?_
  refine G_iload_n (i := 3) hk dL_law_375 rfl rfl ?_
  refine G_iconst (v := 1) hk dL_law_376 (by decide) ?_
  refine G_iadd hk dL_law_377 ?_
  refine G_sld (j := j + 1) hk hX dL_law_378 (nI_add j 1) (by omega) (by omega) ?_
  refine G_cVi hk (c_X5_swap l V ad E n rd R rp rw tr fa la sz cl hC (xs (j + 1))) mX5_swap vX5_swap kL_37 dL_law_379 hC.1 (by rfl) (by first | decide | omega) rfl (by decide) (by decide) rfl (Nat.le_of_ble_eq_true rfl) (fun r_379 E_379 h_379 => ?_)
  obtain ⟨rfl, ⟨R2, hC1, hRe⟩, f1⟩ := h_379
  have hR1 := hR.eqv f1
  obtain ⟨at1, rr, dn, wo, so, sl, ce, pa, rz, dl, ke, p2, w2, hM, -⟩ := id hR1
  have m0 := hM.1
  refine G_aload_n (i := 2) hk dL_law_382 rfl rfl ?_
  refine G_aload_n (i := 0) hk dL_law_383 rfl rfl ?_
  refine G_iload_n (i := 3) hk dL_law_384 rfl rfl ?_
  refine G_iconst (v := 1) hk dL_law_385 (by decide) ?_
  refine G_iadd hk dL_law_386 ?_
  refine G_sld (j := j + 1) hk hX dL_law_387 (nI_add j 1) (by omega) (by omega) ?_
  refine G_cVi hk (c_X6_swap l V ad E_379 n rd R rp rw tr fa la sz cl hR1 ho (xs (j + 1))) mX6_swap vX6_swap kL_40 dL_law_388 m0 (by rfl) (by first | decide | omega) rfl (by decide) (by decide) rfl (Nat.le_of_ble_eq_true rfl) (fun r_388 E_388 h_388 => ?_)
  obtain ⟨rfl, hR2, f2⟩ := h_388
  have hC2 := hC1.eqv f2
  refine G_icmp_eq (tgt := 1051) hk dL_law_391 (by decide) (fun c_391 => ?_) (fun c_391 => ?_)
  · try simp only [gB_ne, gB_eq, Decidable.not_not] at c_391
    exact hend _ ⟨_, _, _, _, _, _, _, _, _, _, hC2, (hR2.ru hRe), ((ho.swap hC.n7 (xs (j + 1))).ru hRe), hlo⟩
  · try simp only [gB_ne, gB_eq, Decidable.not_not] at c_391
    first | exact absurd trivial c_391 | exact absurd rfl c_391 | exact absurd (lg_cmp_self _) c_391

set_option maxHeartbeats 4000000 in
set_option maxRecDepth 100000 in
theorem la_winner {l : Launch} {K : gX} {V : gV} {ad : Nat → Nat} {rt : Option FieldType} {nm : String} {Q : State → Prop} {b L : Nat} {xs : Nat → Int32} (hk : gOk l room_1 K V cL_law 4 RL rt nm) (hX : lX K V b L xs) (hL : L ≤ 3584) {j : Nat} (hj : j + 7 ≤ L) (hend : ∀ E2, lI V ad E2 → G K V 4 Q ad 44 44 786 1051 [(0, .ref b), (1, .ref (ad 0)), (2, .ref (ad 34)), (3, .int (nI j))] [] E2) {E : Nat → va_E} (hI : lI V ad E) : G K V 4 Q ad 44 44 786 396 [(0, .ref b), (1, .ref (ad 0)), (2, .ref (ad 34)), (3, .int (nI j))] [] E := by
  obtain ⟨n, R, rd, rp, rw, tr, fa, la, sz, cl, hC, hR, ho, hlo⟩ := hI
  refine G_aload_n (i := 1) hk dL_law_396 rfl rfl ?_
  refine G_aload_n (i := 0) hk dL_law_397 rfl rfl ?_
  refine G_iload_n (i := 3) hk dL_law_398 rfl rfl ?_
  refine G_iconst (v := 1) hk dL_law_399 (by decide) ?_
  refine G_iadd hk dL_law_400 ?_
  refine G_sld (j := j + 1) hk hX dL_law_401 (nI_add j 1) (by omega) (by omega) ?_
  refine G_cVi hk (c_X5_winner l V ad E n rd R rp rw tr fa la sz cl hC (xs (j + 1))) mX5_winner vX5_winner kL_41 dL_law_402 hC.1 (by rfl) (by first | decide | omega) rfl (by decide) (by decide) rfl (Nat.le_of_ble_eq_true rfl) (fun r_402 E_402 h_402 => ?_)
  obtain ⟨rfl, hC1, f1⟩ := h_402
  have hR1 := hR.eqv f1
  obtain ⟨at1, rr, dn, wo, so, sl, ce, pa, rz, dl, ke, p2, w2, hM, -⟩ := id hR1
  have m0 := hM.1
  refine G_aload_n (i := 2) hk dL_law_405 rfl rfl ?_
  refine G_aload_n (i := 0) hk dL_law_406 rfl rfl ?_
  refine G_iload_n (i := 3) hk dL_law_407 rfl rfl ?_
  refine G_iconst (v := 1) hk dL_law_408 (by decide) ?_
  refine G_iadd hk dL_law_409 ?_
  refine G_sld (j := j + 1) hk hX dL_law_410 (nI_add j 1) (by omega) (by omega) ?_
  refine G_cVi hk (c_X6_winner l V ad E_402 n rd R rp rw tr fa la sz cl hR1 ho (xs (j + 1))) mX6_winner vX6_winner kL_44 dL_law_411 m0 (by rfl) (by first | decide | omega) rfl (by decide) (by decide) rfl (Nat.le_of_ble_eq_true rfl) (fun r_411 E_411 h_411 => ?_)
  obtain ⟨rfl, hR2, f2⟩ := h_411
  have hC2 := hC1.eqv f2
  refine G_icmp_eq (tgt := 1051) hk dL_law_414 (by decide) (fun c_414 => ?_) (fun c_414 => ?_)
  · try simp only [gB_ne, gB_eq, Decidable.not_not] at c_414
    exact hend _ ⟨_, _, _, _, _, _, _, _, _, _, hC2, hR2, ho, hlo⟩
  · try simp only [gB_ne, gB_eq, Decidable.not_not] at c_414
    first | exact absurd trivial c_414 | exact absurd rfl c_414 | exact absurd (lg_cmp_self _) c_414

set_option maxHeartbeats 4000000 in
set_option maxRecDepth 100000 in
theorem la_ask {l : Launch} {K : gX} {V : gV} {ad : Nat → Nat} {rt : Option FieldType} {nm : String} {Q : State → Prop} {b L : Nat} {xs : Nat → Int32} (hk : gOk l room_1 K V cL_law 4 RL rt nm) (hX : lX K V b L xs) (hL : L ≤ 3584) {j : Nat} (hj : j + 7 ≤ L) (hend : ∀ E2, lI V ad E2 → G K V 4 Q ad 44 44 786 1051 [(0, .ref b), (1, .ref (ad 0)), (2, .ref (ad 34)), (3, .int (nI j))] [] E2) {E : Nat → va_E} (hI : lI V ad E) : G K V 4 Q ad 44 44 786 419 [(0, .ref b), (1, .ref (ad 0)), (2, .ref (ad 34)), (3, .int (nI j))] [] E := by
  obtain ⟨n, R, rd, rp, rw, tr, fa, la, sz, cl, hC, hR, ho, hlo⟩ := hI
  refine G_aload_n (i := 1) hk dL_law_419 rfl rfl ?_
  refine G_aload_n (i := 0) hk dL_law_420 rfl rfl ?_
  refine G_iload_n (i := 3) hk dL_law_421 rfl rfl ?_
  refine G_iconst (v := 1) hk dL_law_422 (by decide) ?_
  refine G_iadd hk dL_law_423 ?_
  refine G_sld (j := j + 1) hk hX dL_law_424 (nI_add j 1) (by omega) (by omega) ?_
  refine G_aload_n (i := 0) hk dL_law_425 rfl rfl ?_
  refine G_iload_n (i := 3) hk dL_law_426 rfl rfl ?_
  refine G_iconst (v := 2) hk dL_law_427 (by decide) ?_
  refine G_iadd hk dL_law_428 ?_
  refine G_sld (j := j + 2) hk hX dL_law_429 (nI_add j 2) (by omega) (by omega) ?_
  refine G_cVi hk (c_X5_ask l V ad E n rd R rp rw tr fa la sz cl hC (xs (j + 1)) (xs (j + 2))) mX5_ask vX5_ask kL_45 dL_law_430 hC.1 (by rfl) (by first | decide | omega) rfl (by decide) (by decide) rfl (Nat.le_of_ble_eq_true rfl) (fun r_430 E_430 h_430 => ?_)
  obtain ⟨rfl, hC1, f1⟩ := h_430
  have hR1 := hR.eqv f1
  obtain ⟨at1, rr, dn, wo, so, sl, ce, pa, rz, dl, ke, p2, w2, hM, -⟩ := id hR1
  have m0 := hM.1
  refine G_aload_n (i := 2) hk dL_law_433 rfl rfl ?_
  refine G_aload_n (i := 0) hk dL_law_434 rfl rfl ?_
  refine G_iload_n (i := 3) hk dL_law_435 rfl rfl ?_
  refine G_iconst (v := 1) hk dL_law_436 (by decide) ?_
  refine G_iadd hk dL_law_437 ?_
  refine G_sld (j := j + 1) hk hX dL_law_438 (nI_add j 1) (by omega) (by omega) ?_
  refine G_aload_n (i := 0) hk dL_law_439 rfl rfl ?_
  refine G_iload_n (i := 3) hk dL_law_440 rfl rfl ?_
  refine G_iconst (v := 2) hk dL_law_441 (by decide) ?_
  refine G_iadd hk dL_law_442 ?_
  refine G_sld (j := j + 2) hk hX dL_law_443 (nI_add j 2) (by omega) (by omega) ?_
  refine G_cVi hk (c_X6_ask l V ad E_430 n rd R rp rw tr fa la sz cl hR1 ho (xs (j + 1)) (xs (j + 2))) mX6_ask vX6_ask kL_48 dL_law_444 m0 (by rfl) (by first | decide | omega) rfl (by decide) (by decide) rfl (Nat.le_of_ble_eq_true rfl) (fun r_444 E_444 h_444 => ?_)
  obtain ⟨rfl, hR2, f2⟩ := h_444
  have hC2 := hC1.eqv f2
  refine G_icmp_eq (tgt := 1051) hk dL_law_447 (by decide) (fun c_447 => ?_) (fun c_447 => ?_)
  · try simp only [gB_ne, gB_eq, Decidable.not_not] at c_447
    exact hend _ ⟨_, _, _, _, _, _, _, _, _, _, hC2, hR2, ho, hlo⟩
  · try simp only [gB_ne, gB_eq, Decidable.not_not] at c_447
    first | exact absurd trivial c_447 | exact absurd rfl c_447 | exact absurd (lg_cmp_self _) c_447

set_option maxHeartbeats 4000000 in
set_option maxRecDepth 100000 in
theorem la_day {l : Launch} {K : gX} {V : gV} {ad : Nat → Nat} {rt : Option FieldType} {nm : String} {Q : State → Prop} {b L : Nat} {xs : Nat → Int32} (hk : gOk l room_1 K V cL_law 4 RL rt nm) (hX : lX K V b L xs) (hL : L ≤ 3584) {j : Nat} (hj : j + 7 ≤ L) (hend : ∀ E2, lI V ad E2 → G K V 4 Q ad 44 44 786 1051 [(0, .ref b), (1, .ref (ad 0)), (2, .ref (ad 34)), (3, .int (nI j))] [] E2) {E : Nat → va_E} (hI : lI V ad E) : G K V 4 Q ad 44 44 786 452 [(0, .ref b), (1, .ref (ad 0)), (2, .ref (ad 34)), (3, .int (nI j))] [] E := by
  obtain ⟨n, R, rd, rp, rw, tr, fa, la, sz, cl, hC, hR, ho, hlo⟩ := hI
  refine G_aload_n (i := 1) hk dL_law_452 rfl rfl ?_
  refine G_aload_n (i := 0) hk dL_law_453 rfl rfl ?_
  refine G_iload_n (i := 3) hk dL_law_454 rfl rfl ?_
  refine G_iconst (v := 1) hk dL_law_455 (by decide) ?_
  refine G_iadd hk dL_law_456 ?_
  refine G_sld (j := j + 1) hk hX dL_law_457 (nI_add j 1) (by omega) (by omega) ?_
  refine G_aload_n (i := 0) hk dL_law_458 rfl rfl ?_
  refine G_iload_n (i := 3) hk dL_law_459 rfl rfl ?_
  refine G_iconst (v := 2) hk dL_law_460 (by decide) ?_
  refine G_iadd hk dL_law_461 ?_
  refine G_sld (j := j + 2) hk hX dL_law_462 (nI_add j 2) (by omega) (by omega) ?_
  refine G_aload_n (i := 0) hk dL_law_463 rfl rfl ?_
  refine G_iload_n (i := 3) hk dL_law_464 rfl rfl ?_
  refine G_iconst (v := 3) hk dL_law_465 (by decide) ?_
  refine G_iadd hk dL_law_466 ?_
  refine G_sld (j := j + 3) hk hX dL_law_467 (nI_add j 3) (by omega) (by omega) ?_
  refine G_aload_n (i := 0) hk dL_law_468 rfl rfl ?_
  refine G_iload_n (i := 3) hk dL_law_469 rfl rfl ?_
  refine G_iconst (v := 4) hk dL_law_470 (by decide) ?_
  refine G_iadd hk dL_law_471 ?_
  refine G_sld (j := j + 4) hk hX dL_law_472 (nI_add j 4) (by omega) (by omega) ?_
  refine G_aload_n (i := 0) hk dL_law_473 rfl rfl ?_
  refine G_iload_n (i := 3) hk dL_law_474 rfl rfl ?_
  refine G_iconst (v := 5) hk dL_law_475 (by decide) ?_
  refine G_iadd hk dL_law_476 ?_
  refine G_sld (j := j + 5) hk hX dL_law_477 (nI_add j 5) (by omega) (by omega) ?_
  refine G_cVi hk (c_X5_day l V ad E n rd R rp rw tr fa la sz cl hC (xs (j + 1)) (xs (j + 2)) (xs (j + 3)) (xs (j + 4)) (xs (j + 5))) mX5_day vX5_day kL_49 dL_law_478 hC.1 (by rfl) (by first | decide | omega) rfl (by decide) (by decide) rfl (Nat.le_of_ble_eq_true rfl) (fun r_478 E_478 h_478 => ?_)
  obtain ⟨rfl, hC1, f1⟩ := h_478
  have hR1 := hR.eqv f1
  obtain ⟨at1, rr, dn, wo, so, sl, ce, pa, rz, dl, ke, p2, w2, hM, -⟩ := id hR1
  have m0 := hM.1
  refine G_aload_n (i := 2) hk dL_law_481 rfl rfl ?_
  refine G_aload_n (i := 0) hk dL_law_482 rfl rfl ?_
  refine G_iload_n (i := 3) hk dL_law_483 rfl rfl ?_
  refine G_iconst (v := 1) hk dL_law_484 (by decide) ?_
  refine G_iadd hk dL_law_485 ?_
  refine G_sld (j := j + 1) hk hX dL_law_486 (nI_add j 1) (by omega) (by omega) ?_
  refine G_aload_n (i := 0) hk dL_law_487 rfl rfl ?_
  refine G_iload_n (i := 3) hk dL_law_488 rfl rfl ?_
  refine G_iconst (v := 2) hk dL_law_489 (by decide) ?_
  refine G_iadd hk dL_law_490 ?_
  refine G_sld (j := j + 2) hk hX dL_law_491 (nI_add j 2) (by omega) (by omega) ?_
  refine G_aload_n (i := 0) hk dL_law_492 rfl rfl ?_
  refine G_iload_n (i := 3) hk dL_law_493 rfl rfl ?_
  refine G_iconst (v := 3) hk dL_law_494 (by decide) ?_
  refine G_iadd hk dL_law_495 ?_
  refine G_sld (j := j + 3) hk hX dL_law_496 (nI_add j 3) (by omega) (by omega) ?_
  refine G_aload_n (i := 0) hk dL_law_497 rfl rfl ?_
  refine G_iload_n (i := 3) hk dL_law_498 rfl rfl ?_
  refine G_iconst (v := 4) hk dL_law_499 (by decide) ?_
  refine G_iadd hk dL_law_500 ?_
  refine G_sld (j := j + 4) hk hX dL_law_501 (nI_add j 4) (by omega) (by omega) ?_
  refine G_aload_n (i := 0) hk dL_law_502 rfl rfl ?_
  refine G_iload_n (i := 3) hk dL_law_503 rfl rfl ?_
  refine G_iconst (v := 5) hk dL_law_504 (by decide) ?_
  refine G_iadd hk dL_law_505 ?_
  refine G_sld (j := j + 5) hk hX dL_law_506 (nI_add j 5) (by omega) (by omega) ?_
  refine G_cVi hk (c_X6_day l V ad E_478 n rd R rp rw tr fa la sz cl hR1 ho hlo (xs (j + 1)) (xs (j + 2)) (xs (j + 3)) (xs (j + 4)) (xs (j + 5))) mX6_day vX6_day kL_53 dL_law_507 m0 (by rfl) (by first | decide | omega) rfl (by decide) (by decide) rfl (Nat.le_of_ble_eq_true rfl) (fun r_507 E_507 h_507 => ?_)
  obtain ⟨rfl, hR2, f2⟩ := h_507
  have hC2 := hC1.eqv f2
  refine G_icmp_eq (tgt := 1051) hk dL_law_510 (by decide) (fun c_510 => ?_) (fun c_510 => ?_)
  · try simp only [gB_ne, gB_eq, Decidable.not_not] at c_510
    exact hend _ ⟨_, _, _, _, _, _, _, _, _, _, hC2, hR2, ho, hlo⟩
  · try simp only [gB_ne, gB_eq, Decidable.not_not] at c_510
    first | exact absurd trivial c_510 | exact absurd rfl c_510 | exact absurd (lg_cmp_self _) c_510

set_option maxHeartbeats 4000000 in
set_option maxRecDepth 100000 in
theorem la_ofRun {l : Launch} {K : gX} {V : gV} {ad : Nat → Nat} {rt : Option FieldType} {nm : String} {Q : State → Prop} {b L : Nat} {xs : Nat → Int32} (hk : gOk l room_1 K V cL_law 4 RL rt nm) (hX : lX K V b L xs) (hL : L ≤ 3584) {j : Nat} (hj : j + 7 ≤ L) (hend : ∀ E2, lI V ad E2 → G K V 4 Q ad 44 44 786 1051 [(0, .ref b), (1, .ref (ad 0)), (2, .ref (ad 34)), (3, .int (nI j))] [] E2) {E : Nat → va_E} (hI : lI V ad E) : G K V 4 Q ad 44 44 786 515 [(0, .ref b), (1, .ref (ad 0)), (2, .ref (ad 34)), (3, .int (nI j))] [] E := by
  obtain ⟨n, R, rd, rp, rw, tr, fa, la, sz, cl, hC, hR, ho, hlo⟩ := hI
  refine G_aload_n (i := 1) hk dL_law_515 rfl rfl ?_
  refine G_aload_n (i := 0) hk dL_law_516 rfl rfl ?_
  refine G_iload_n (i := 3) hk dL_law_517 rfl rfl ?_
  refine G_iconst (v := 1) hk dL_law_518 (by decide) ?_
  refine G_iadd hk dL_law_519 ?_
  refine G_sld (j := j + 1) hk hX dL_law_520 (nI_add j 1) (by omega) (by omega) ?_
  refine G_aload_n (i := 0) hk dL_law_521 rfl rfl ?_
  refine G_iload_n (i := 3) hk dL_law_522 rfl rfl ?_
  refine G_iconst (v := 2) hk dL_law_523 (by decide) ?_
  refine G_iadd hk dL_law_524 ?_
  refine G_sld (j := j + 2) hk hX dL_law_525 (nI_add j 2) (by omega) (by omega) ?_
  refine G_cVi hk (c_X5_ofRun l V ad E n rd R rp rw tr fa la sz cl hC (xs (j + 1)) (xs (j + 2))) mX5_ofRun vX5_ofRun kL_54 dL_law_526 hC.1 (by rfl) (by first | decide | omega) rfl (by decide) (by decide) rfl (Nat.le_of_ble_eq_true rfl) (fun r_526 E_526 h_526 => ?_)
  obtain ⟨rfl, hC1, f1⟩ := h_526
  have hR1 := hR.eqv f1
  obtain ⟨at1, rr, dn, wo, so, sl, ce, pa, rz, dl, ke, p2, w2, hM, -⟩ := id hR1
  have m0 := hM.1
  refine G_aload_n (i := 2) hk dL_law_529 rfl rfl ?_
  refine G_aload_n (i := 0) hk dL_law_530 rfl rfl ?_
  refine G_iload_n (i := 3) hk dL_law_531 rfl rfl ?_
  refine G_iconst (v := 1) hk dL_law_532 (by decide) ?_
  refine G_iadd hk dL_law_533 ?_
  refine G_sld (j := j + 1) hk hX dL_law_534 (nI_add j 1) (by omega) (by omega) ?_
  refine G_aload_n (i := 0) hk dL_law_535 rfl rfl ?_
  refine G_iload_n (i := 3) hk dL_law_536 rfl rfl ?_
  refine G_iconst (v := 2) hk dL_law_537 (by decide) ?_
  refine G_iadd hk dL_law_538 ?_
  refine G_sld (j := j + 2) hk hX dL_law_539 (nI_add j 2) (by omega) (by omega) ?_
  refine G_cVi hk (c_X6_ofRun l V ad E_526 n rd R rp rw tr fa la sz cl hR1 ho (xs (j + 1)) (xs (j + 2))) mX6_ofRun vX6_ofRun kL_57 dL_law_540 m0 (by rfl) (by first | decide | omega) rfl (by decide) (by decide) rfl (Nat.le_of_ble_eq_true rfl) (fun r_540 E_540 h_540 => ?_)
  obtain ⟨rfl, hR2, f2⟩ := h_540
  have hC2 := hC1.eqv f2
  refine G_icmp_eq (tgt := 1051) hk dL_law_543 (by decide) (fun c_543 => ?_) (fun c_543 => ?_)
  · try simp only [gB_ne, gB_eq, Decidable.not_not] at c_543
    exact hend _ ⟨_, _, _, _, _, _, _, _, _, _, hC2, hR2, ho, hlo⟩
  · try simp only [gB_ne, gB_eq, Decidable.not_not] at c_543
    first | exact absurd trivial c_543 | exact absurd rfl c_543 | exact absurd (lg_cmp_self _) c_543

set_option maxHeartbeats 4000000 in
set_option maxRecDepth 100000 in
theorem la_whole {l : Launch} {K : gX} {V : gV} {ad : Nat → Nat} {rt : Option FieldType} {nm : String} {Q : State → Prop} {b L : Nat} {xs : Nat → Int32} (hk : gOk l room_1 K V cL_law 4 RL rt nm) (hX : lX K V b L xs) (hL : L ≤ 3584) {j : Nat} (hj : j + 7 ≤ L) (hend : ∀ E2, lI V ad E2 → G K V 4 Q ad 44 44 786 1051 [(0, .ref b), (1, .ref (ad 0)), (2, .ref (ad 34)), (3, .int (nI j))] [] E2) {E : Nat → va_E} (hI : lI V ad E) : G K V 4 Q ad 44 44 786 548 [(0, .ref b), (1, .ref (ad 0)), (2, .ref (ad 34)), (3, .int (nI j))] [] E := by
  obtain ⟨n, R, rd, rp, rw, tr, fa, la, sz, cl, hC, hR, ho, hlo⟩ := hI
  refine G_aload_n (i := 1) hk dL_law_548 rfl rfl ?_
  refine G_aload_n (i := 0) hk dL_law_549 rfl rfl ?_
  refine G_iload_n (i := 3) hk dL_law_550 rfl rfl ?_
  refine G_iconst (v := 1) hk dL_law_551 (by decide) ?_
  refine G_iadd hk dL_law_552 ?_
  refine G_sld (j := j + 1) hk hX dL_law_553 (nI_add j 1) (by omega) (by omega) ?_
  refine G_cVi hk (c_X5_whole l V ad E n rd R rp rw tr fa la sz cl hC (xs (j + 1))) mX5_whole vX5_whole kL_58 dL_law_554 hC.1 (by rfl) (by first | decide | omega) rfl (by decide) (by decide) rfl (Nat.le_of_ble_eq_true rfl) (fun r_554 E_554 h_554 => ?_)
  obtain ⟨rfl, hC1, f1⟩ := h_554
  have hR1 := hR.eqv f1
  obtain ⟨at1, rr, dn, wo, so, sl, ce, pa, rz, dl, ke, p2, w2, hM, -⟩ := id hR1
  have m0 := hM.1
  refine G_aload_n (i := 2) hk dL_law_557 rfl rfl ?_
  refine G_aload_n (i := 0) hk dL_law_558 rfl rfl ?_
  refine G_iload_n (i := 3) hk dL_law_559 rfl rfl ?_
  refine G_iconst (v := 1) hk dL_law_560 (by decide) ?_
  refine G_iadd hk dL_law_561 ?_
  refine G_sld (j := j + 1) hk hX dL_law_562 (nI_add j 1) (by omega) (by omega) ?_
  refine G_cVi hk (c_X6_whole l V ad E_554 n rd R rp rw tr fa la sz cl hR1 ho (xs (j + 1))) mX6_whole vX6_whole kL_61 dL_law_563 m0 (by rfl) (by first | decide | omega) rfl (by decide) (by decide) rfl (Nat.le_of_ble_eq_true rfl) (fun r_563 E_563 h_563 => ?_)
  obtain ⟨rfl, hR2, f2⟩ := h_563
  have hC2 := hC1.eqv f2
  refine G_icmp_eq (tgt := 1051) hk dL_law_566 (by decide) (fun c_566 => ?_) (fun c_566 => ?_)
  · try simp only [gB_ne, gB_eq, Decidable.not_not] at c_566
    exact hend _ ⟨_, _, _, _, _, _, _, _, _, _, hC2, hR2, ho, hlo⟩
  · try simp only [gB_ne, gB_eq, Decidable.not_not] at c_566
    first | exact absurd trivial c_566 | exact absurd rfl c_566 | exact absurd (lg_cmp_self _) c_566

set_option maxHeartbeats 4000000 in
set_option maxRecDepth 100000 in
theorem la_reading {l : Launch} {K : gX} {V : gV} {ad : Nat → Nat} {rt : Option FieldType} {nm : String} {Q : State → Prop} {b L : Nat} {xs : Nat → Int32} (hk : gOk l room_1 K V cL_law 4 RL rt nm) (hX : lX K V b L xs) (hL : L ≤ 3584) {j : Nat} (hj : j + 7 ≤ L) (hend : ∀ E2, lI V ad E2 → G K V 4 Q ad 44 44 786 1051 [(0, .ref b), (1, .ref (ad 0)), (2, .ref (ad 34)), (3, .int (nI j))] [] E2) {E : Nat → va_E} (hI : lI V ad E) : G K V 4 Q ad 44 44 786 571 [(0, .ref b), (1, .ref (ad 0)), (2, .ref (ad 34)), (3, .int (nI j))] [] E := by
  obtain ⟨n, R, rd, rp, rw, tr, fa, la, sz, cl, hC, hR, ho, hlo⟩ := hI
  refine G_aload_n (i := 1) hk dL_law_571 rfl rfl ?_
  refine G_aload_n (i := 0) hk dL_law_572 rfl rfl ?_
  refine G_iload_n (i := 3) hk dL_law_573 rfl rfl ?_
  refine G_iconst (v := 1) hk dL_law_574 (by decide) ?_
  refine G_iadd hk dL_law_575 ?_
  refine G_sld (j := j + 1) hk hX dL_law_576 (nI_add j 1) (by omega) (by omega) ?_
  refine G_aload_n (i := 0) hk dL_law_577 rfl rfl ?_
  refine G_iload_n (i := 3) hk dL_law_578 rfl rfl ?_
  refine G_iconst (v := 2) hk dL_law_579 (by decide) ?_
  refine G_iadd hk dL_law_580 ?_
  refine G_sld (j := j + 2) hk hX dL_law_581 (nI_add j 2) (by omega) (by omega) ?_
  refine G_cVi hk (c_X5_reading l V ad E n rd R rp rw tr fa la sz cl hC (xs (j + 1)) (xs (j + 2))) mX5_reading vX5_reading kL_62 dL_law_582 hC.1 (by rfl) (by first | decide | omega) rfl (by decide) (by decide) rfl (Nat.le_of_ble_eq_true rfl) (fun r_582 E_582 h_582 => ?_)
  obtain ⟨rfl, hC1, f1⟩ := h_582
  have hR1 := hR.eqv f1
  obtain ⟨at1, rr, dn, wo, so, sl, ce, pa, rz, dl, ke, p2, w2, hM, -⟩ := id hR1
  have m0 := hM.1
  refine G_aload_n (i := 2) hk dL_law_585 rfl rfl ?_
  refine G_aload_n (i := 0) hk dL_law_586 rfl rfl ?_
  refine G_iload_n (i := 3) hk dL_law_587 rfl rfl ?_
  refine G_iconst (v := 1) hk dL_law_588 (by decide) ?_
  refine G_iadd hk dL_law_589 ?_
  refine G_sld (j := j + 1) hk hX dL_law_590 (nI_add j 1) (by omega) (by omega) ?_
  refine G_aload_n (i := 0) hk dL_law_591 rfl rfl ?_
  refine G_iload_n (i := 3) hk dL_law_592 rfl rfl ?_
  refine G_iconst (v := 2) hk dL_law_593 (by decide) ?_
  refine G_iadd hk dL_law_594 ?_
  refine G_sld (j := j + 2) hk hX dL_law_595 (nI_add j 2) (by omega) (by omega) ?_
  refine G_cVi hk (c_X6_reading l V ad E_582 n rd R rp rw tr fa la sz cl hR1 ho (xs (j + 1)) (xs (j + 2))) mX6_reading vX6_reading kL_65 dL_law_596 m0 (by rfl) (by first | decide | omega) rfl (by decide) (by decide) rfl (Nat.le_of_ble_eq_true rfl) (fun r_596 E_596 h_596 => ?_)
  obtain ⟨rfl, hR2, f2⟩ := h_596
  have hC2 := hC1.eqv f2
  refine G_icmp_eq (tgt := 1051) hk dL_law_599 (by decide) (fun c_599 => ?_) (fun c_599 => ?_)
  · try simp only [gB_ne, gB_eq, Decidable.not_not] at c_599
    exact hend _ ⟨_, _, _, _, _, _, _, _, _, _, hC2, hR2, ho, hlo⟩
  · try simp only [gB_ne, gB_eq, Decidable.not_not] at c_599
    first | exact absurd trivial c_599 | exact absurd rfl c_599 | exact absurd (lg_cmp_self _) c_599

set_option maxHeartbeats 4000000 in
set_option maxRecDepth 100000 in
theorem la_back {l : Launch} {K : gX} {V : gV} {ad : Nat → Nat} {rt : Option FieldType} {nm : String} {Q : State → Prop} {b L : Nat} {xs : Nat → Int32} (hk : gOk l room_1 K V cL_law 4 RL rt nm) (hX : lX K V b L xs) (hL : L ≤ 3584) {j : Nat} (hj : j + 7 ≤ L) (hend : ∀ E2, lI V ad E2 → G K V 4 Q ad 44 44 786 1051 [(0, .ref b), (1, .ref (ad 0)), (2, .ref (ad 34)), (3, .int (nI j))] [] E2) {E : Nat → va_E} (hI : lI V ad E) : G K V 4 Q ad 44 44 786 604 [(0, .ref b), (1, .ref (ad 0)), (2, .ref (ad 34)), (3, .int (nI j))] [] E := by
  obtain ⟨n, R, rd, rp, rw, tr, fa, la, sz, cl, hC, hR, ho, hlo⟩ := hI
  refine G_aload_n (i := 1) hk dL_law_604 rfl rfl ?_
  refine G_aload_n (i := 0) hk dL_law_605 rfl rfl ?_
  refine G_iload_n (i := 3) hk dL_law_606 rfl rfl ?_
  refine G_iconst (v := 1) hk dL_law_607 (by decide) ?_
  refine G_iadd hk dL_law_608 ?_
  refine G_sld (j := j + 1) hk hX dL_law_609 (nI_add j 1) (by omega) (by omega) ?_
  refine G_cVi hk (c_X5_back l V ad E n rd R rp rw tr fa la sz cl hC (xs (j + 1))) mX5_back vX5_back kL_66 dL_law_610 hC.1 (by rfl) (by first | decide | omega) rfl (by decide) (by decide) rfl (Nat.le_of_ble_eq_true rfl) (fun r_610 E_610 h_610 => ?_)
  obtain ⟨rfl, hC1, f1⟩ := h_610
  have hR1 := hR.eqv f1
  obtain ⟨at1, rr, dn, wo, so, sl, ce, pa, rz, dl, ke, p2, w2, hM, -⟩ := id hR1
  have m0 := hM.1
  refine G_aload_n (i := 2) hk dL_law_613 rfl rfl ?_
  refine G_aload_n (i := 0) hk dL_law_614 rfl rfl ?_
  refine G_iload_n (i := 3) hk dL_law_615 rfl rfl ?_
  refine G_iconst (v := 1) hk dL_law_616 (by decide) ?_
  refine G_iadd hk dL_law_617 ?_
  refine G_sld (j := j + 1) hk hX dL_law_618 (nI_add j 1) (by omega) (by omega) ?_
  refine G_cVi hk (c_X6_back l V ad E_610 n rd R rp rw tr fa la sz cl hR1 ho (xs (j + 1))) mX6_back vX6_back kL_69 dL_law_619 m0 (by rfl) (by first | decide | omega) rfl (by decide) (by decide) rfl (Nat.le_of_ble_eq_true rfl) (fun r_619 E_619 h_619 => ?_)
  obtain ⟨rfl, hR2, f2⟩ := h_619
  have hC2 := hC1.eqv f2
  refine G_icmp_eq (tgt := 1051) hk dL_law_622 (by decide) (fun c_622 => ?_) (fun c_622 => ?_)
  · try simp only [gB_ne, gB_eq, Decidable.not_not] at c_622
    exact hend _ ⟨_, _, _, _, _, _, _, _, _, _, hC2, hR2, ho, hlo⟩
  · try simp only [gB_ne, gB_eq, Decidable.not_not] at c_622
    first | exact absurd trivial c_622 | exact absurd rfl c_622 | exact absurd (lg_cmp_self _) c_622

set_option maxHeartbeats 4000000 in
set_option maxRecDepth 100000 in
theorem la_kinds {l : Launch} {K : gX} {V : gV} {ad : Nat → Nat} {rt : Option FieldType} {nm : String} {Q : State → Prop} {b L : Nat} {xs : Nat → Int32} (hk : gOk l room_1 K V cL_law 4 RL rt nm) (hX : lX K V b L xs) (hL : L ≤ 3584) {j : Nat} (hj : j + 7 ≤ L) (hend : ∀ E2, lI V ad E2 → G K V 4 Q ad 44 44 786 1051 [(0, .ref b), (1, .ref (ad 0)), (2, .ref (ad 34)), (3, .int (nI j))] [] E2) {E : Nat → va_E} (hI : lI V ad E) : G K V 4 Q ad 44 44 786 627 [(0, .ref b), (1, .ref (ad 0)), (2, .ref (ad 34)), (3, .int (nI j))] [] E := by
  obtain ⟨n, R, rd, rp, rw, tr, fa, la, sz, cl, hC, hR, ho, hlo⟩ := hI
  refine G_aload_n (i := 1) hk dL_law_627 rfl rfl ?_
  refine G_aload_n (i := 0) hk dL_law_628 rfl rfl ?_
  refine G_iload_n (i := 3) hk dL_law_629 rfl rfl ?_
  refine G_iconst (v := 1) hk dL_law_630 (by decide) ?_
  refine G_iadd hk dL_law_631 ?_
  refine G_sld (j := j + 1) hk hX dL_law_632 (nI_add j 1) (by omega) (by omega) ?_
  refine G_cVi hk (c_X5_kinds l V ad E n rd R rp rw tr fa la sz cl hC (xs (j + 1))) mX5_kinds vX5_kinds kL_70 dL_law_633 hC.1 (by rfl) (by first | decide | omega) rfl (by decide) (by decide) rfl (Nat.le_of_ble_eq_true rfl) (fun r_633 E_633 h_633 => ?_)
  obtain ⟨rfl, hC1, f1⟩ := h_633
  have hR1 := hR.eqv f1
  obtain ⟨at1, rr, dn, wo, so, sl, ce, pa, rz, dl, ke, p2, w2, hM, -⟩ := id hR1
  have m0 := hM.1
  refine G_aload_n (i := 2) hk dL_law_636 rfl rfl ?_
  refine G_aload_n (i := 0) hk dL_law_637 rfl rfl ?_
  refine G_iload_n (i := 3) hk dL_law_638 rfl rfl ?_
  refine G_iconst (v := 1) hk dL_law_639 (by decide) ?_
  refine G_iadd hk dL_law_640 ?_
  refine G_sld (j := j + 1) hk hX dL_law_641 (nI_add j 1) (by omega) (by omega) ?_
  refine G_cVi hk (c_X6_kinds l V ad E_633 n rd R rp rw tr fa la sz cl hR1 ho (xs (j + 1))) mX6_kinds vX6_kinds kL_73 dL_law_642 m0 (by rfl) (by first | decide | omega) rfl (by decide) (by decide) rfl (Nat.le_of_ble_eq_true rfl) (fun r_642 E_642 h_642 => ?_)
  obtain ⟨rfl, hR2, f2⟩ := h_642
  have hC2 := hC1.eqv f2
  refine G_icmp_eq (tgt := 1051) hk dL_law_645 (by decide) (fun c_645 => ?_) (fun c_645 => ?_)
  · try simp only [gB_ne, gB_eq, Decidable.not_not] at c_645
    exact hend _ ⟨_, _, _, _, _, _, _, _, _, _, hC2, hR2, ho, hlo⟩
  · try simp only [gB_ne, gB_eq, Decidable.not_not] at c_645
    first | exact absurd trivial c_645 | exact absurd rfl c_645 | exact absurd (lg_cmp_self _) c_645

set_option maxHeartbeats 4000000 in
set_option maxRecDepth 100000 in
theorem la_numbers {l : Launch} {K : gX} {V : gV} {ad : Nat → Nat} {rt : Option FieldType} {nm : String} {Q : State → Prop} {b L : Nat} {xs : Nat → Int32} (hk : gOk l room_1 K V cL_law 4 RL rt nm) (hX : lX K V b L xs) (hL : L ≤ 3584) {j : Nat} (hj : j + 7 ≤ L) (hend : ∀ E2, lI V ad E2 → G K V 4 Q ad 44 44 786 1051 [(0, .ref b), (1, .ref (ad 0)), (2, .ref (ad 34)), (3, .int (nI j))] [] E2) {E : Nat → va_E} (hI : lI V ad E) : G K V 4 Q ad 44 44 786 650 [(0, .ref b), (1, .ref (ad 0)), (2, .ref (ad 34)), (3, .int (nI j))] [] E := by
  obtain ⟨n, R, rd, rp, rw, tr, fa, la, sz, cl, hC, hR, ho, hlo⟩ := hI
  refine G_aload_n (i := 1) hk dL_law_650 rfl rfl ?_
  refine G_aload_n (i := 0) hk dL_law_651 rfl rfl ?_
  refine G_iload_n (i := 3) hk dL_law_652 rfl rfl ?_
  refine G_iconst (v := 1) hk dL_law_653 (by decide) ?_
  refine G_iadd hk dL_law_654 ?_
  refine G_sld (j := j + 1) hk hX dL_law_655 (nI_add j 1) (by omega) (by omega) ?_
  refine G_cVi hk (c_X5_numbers l V ad E n rd R rp rw tr fa la sz cl hC (xs (j + 1))) mX5_numbers vX5_numbers kL_74 dL_law_656 hC.1 (by rfl) (by first | decide | omega) rfl (by decide) (by decide) rfl (Nat.le_of_ble_eq_true rfl) (fun r_656 E_656 h_656 => ?_)
  obtain ⟨rfl, hC1, f1⟩ := h_656
  have hR1 := hR.eqv f1
  obtain ⟨at1, rr, dn, wo, so, sl, ce, pa, rz, dl, ke, p2, w2, hM, -⟩ := id hR1
  have m0 := hM.1
  refine G_aload_n (i := 2) hk dL_law_659 rfl rfl ?_
  refine G_aload_n (i := 0) hk dL_law_660 rfl rfl ?_
  refine G_iload_n (i := 3) hk dL_law_661 rfl rfl ?_
  refine G_iconst (v := 1) hk dL_law_662 (by decide) ?_
  refine G_iadd hk dL_law_663 ?_
  refine G_sld (j := j + 1) hk hX dL_law_664 (nI_add j 1) (by omega) (by omega) ?_
  refine G_cVi hk (c_X6_numbers l V ad E_656 n rd R rp rw tr fa la sz cl hR1 ho (xs (j + 1))) mX6_numbers vX6_numbers kL_77 dL_law_665 m0 (by rfl) (by first | decide | omega) rfl (by decide) (by decide) rfl (Nat.le_of_ble_eq_true rfl) (fun r_665 E_665 h_665 => ?_)
  obtain ⟨rfl, hR2, f2⟩ := h_665
  have hC2 := hC1.eqv f2
  refine G_icmp_eq (tgt := 1051) hk dL_law_668 (by decide) (fun c_668 => ?_) (fun c_668 => ?_)
  · try simp only [gB_ne, gB_eq, Decidable.not_not] at c_668
    exact hend _ ⟨_, _, _, _, _, _, _, _, _, _, hC2, hR2, ho, hlo⟩
  · try simp only [gB_ne, gB_eq, Decidable.not_not] at c_668
    first | exact absurd trivial c_668 | exact absurd rfl c_668 | exact absurd (lg_cmp_self _) c_668

set_option maxHeartbeats 4000000 in
set_option maxRecDepth 100000 in
theorem la_odds {l : Launch} {K : gX} {V : gV} {ad : Nat → Nat} {rt : Option FieldType} {nm : String} {Q : State → Prop} {b L : Nat} {xs : Nat → Int32} (hk : gOk l room_1 K V cL_law 4 RL rt nm) (hX : lX K V b L xs) (hL : L ≤ 3584) {j : Nat} (hj : j + 7 ≤ L) (hend : ∀ E2, lI V ad E2 → G K V 4 Q ad 44 44 786 1051 [(0, .ref b), (1, .ref (ad 0)), (2, .ref (ad 34)), (3, .int (nI j))] [] E2) {E : Nat → va_E} (hI : lI V ad E) : G K V 4 Q ad 44 44 786 673 [(0, .ref b), (1, .ref (ad 0)), (2, .ref (ad 34)), (3, .int (nI j))] [] E := by
  obtain ⟨n, R, rd, rp, rw, tr, fa, la, sz, cl, hC, hR, ho, hlo⟩ := hI
  refine G_aload_n (i := 1) hk dL_law_673 rfl rfl ?_
  refine G_aload_n (i := 0) hk dL_law_674 rfl rfl ?_
  refine G_iload_n (i := 3) hk dL_law_675 rfl rfl ?_
  refine G_iconst (v := 1) hk dL_law_676 (by decide) ?_
  refine G_iadd hk dL_law_677 ?_
  refine G_sld (j := j + 1) hk hX dL_law_678 (nI_add j 1) (by omega) (by omega) ?_
  refine G_aload_n (i := 0) hk dL_law_679 rfl rfl ?_
  refine G_iload_n (i := 3) hk dL_law_680 rfl rfl ?_
  refine G_iconst (v := 2) hk dL_law_681 (by decide) ?_
  refine G_iadd hk dL_law_682 ?_
  refine G_sld (j := j + 2) hk hX dL_law_683 (nI_add j 2) (by omega) (by omega) ?_
  refine G_cVl hk (c_X5_odds l V ad E n rd R rp rw tr fa la sz cl hC (xs (j + 1)) (xs (j + 2))) mX5_odds vX5_odds kL_78 dL_law_684 hC.1 (by rfl) (by first | decide | omega) rfl (by decide) (by decide) rfl (Nat.le_of_ble_eq_true rfl) (fun r_684 E_684 h_684 => ?_)
  obtain ⟨rfl, hC1, f1⟩ := h_684
  have hR1 := hR.eqv f1
  obtain ⟨at1, rr, dn, wo, so, sl, ce, pa, rz, dl, ke, p2, w2, hM, -⟩ := id hR1
  have m0 := hM.1
  refine G_aload_n (i := 2) hk dL_law_687 rfl rfl ?_
  refine G_aload_n (i := 0) hk dL_law_688 rfl rfl ?_
  refine G_iload_n (i := 3) hk dL_law_689 rfl rfl ?_
  refine G_iconst (v := 1) hk dL_law_690 (by decide) ?_
  refine G_iadd hk dL_law_691 ?_
  refine G_sld (j := j + 1) hk hX dL_law_692 (nI_add j 1) (by omega) (by omega) ?_
  refine G_aload_n (i := 0) hk dL_law_693 rfl rfl ?_
  refine G_iload_n (i := 3) hk dL_law_694 rfl rfl ?_
  refine G_iconst (v := 2) hk dL_law_695 (by decide) ?_
  refine G_iadd hk dL_law_696 ?_
  refine G_sld (j := j + 2) hk hX dL_law_697 (nI_add j 2) (by omega) (by omega) ?_
  refine G_cVl hk (c_X6_odds l V ad E_684 n rd R rp rw tr fa la sz cl hR1 ho (xs (j + 1)) (xs (j + 2))) mX6_odds vX6_odds kL_82 dL_law_698 m0 (by rfl) (by first | decide | omega) rfl (by decide) (by decide) rfl (Nat.le_of_ble_eq_true rfl) (fun r_698 E_698 h_698 => ?_)
  obtain ⟨rfl, hR2, f2⟩ := h_698
  have hC2 := hC1.eqv f2
  refine G_lcmp hk dL_law_701 ?_
  refine G_if_eq (tgt := 1051) hk dL_law_702 (by decide) (fun c_702 => ?_) (fun c_702 => ?_)
  · try simp only [gB_ne, gB_eq, Decidable.not_not] at c_702
    exact hend _ ⟨_, _, _, _, _, _, _, _, _, _, hC2, hR2, ho, hlo⟩
  · try simp only [gB_ne, gB_eq, Decidable.not_not] at c_702
    first | exact absurd trivial c_702 | exact absurd rfl c_702 | exact absurd (lg_cmp_self _) c_702

set_option maxHeartbeats 4000000 in
set_option maxRecDepth 100000 in
theorem la_sheet {l : Launch} {K : gX} {V : gV} {ad : Nat → Nat} {rt : Option FieldType} {nm : String} {Q : State → Prop} {b L : Nat} {xs : Nat → Int32} (hk : gOk l room_1 K V cL_law 4 RL rt nm) (hX : lX K V b L xs) (hL : L ≤ 3584) {j : Nat} (hj : j + 7 ≤ L) (hend : ∀ E2, lI V ad E2 → G K V 4 Q ad 44 44 786 1051 [(0, .ref b), (1, .ref (ad 0)), (2, .ref (ad 34)), (3, .int (nI j))] [] E2) {E : Nat → va_E} (hI : lI V ad E) : G K V 4 Q ad 44 44 786 707 [(0, .ref b), (1, .ref (ad 0)), (2, .ref (ad 34)), (3, .int (nI j))] [] E := by
  obtain ⟨n, R, rd, rp, rw, tr, fa, la, sz, cl, hC, hR, ho, hlo⟩ := hI
  refine G_aload_n (i := 1) hk dL_law_707 rfl rfl ?_
  refine G_aload_n (i := 0) hk dL_law_708 rfl rfl ?_
  refine G_iload_n (i := 3) hk dL_law_709 rfl rfl ?_
  refine G_iconst (v := 1) hk dL_law_710 (by decide) ?_
  refine G_iadd hk dL_law_711 ?_
  refine G_sld (j := j + 1) hk hX dL_law_712 (nI_add j 1) (by omega) (by omega) ?_
  refine G_aload_n (i := 0) hk dL_law_713 rfl rfl ?_
  refine G_iload_n (i := 3) hk dL_law_714 rfl rfl ?_
  refine G_iconst (v := 2) hk dL_law_715 (by decide) ?_
  refine G_iadd hk dL_law_716 ?_
  refine G_sld (j := j + 2) hk hX dL_law_717 (nI_add j 2) (by omega) (by omega) ?_
  refine G_aload_n (i := 0) hk dL_law_718 rfl rfl ?_
  refine G_iload_n (i := 3) hk dL_law_719 rfl rfl ?_
  refine G_iconst (v := 3) hk dL_law_720 (by decide) ?_
  refine G_iadd hk dL_law_721 ?_
  refine G_sld (j := j + 3) hk hX dL_law_722 (nI_add j 3) (by omega) (by omega) ?_
  refine G_cVi hk (c_X5_sheet l V ad E n rd R rp rw tr fa la sz cl hC (xs (j + 1)) (xs (j + 2)) (xs (j + 3))) mX5_sheet vX5_sheet kL_83 dL_law_723 hC.1 (by rfl) (by first | decide | omega) rfl (by decide) (by decide) rfl (Nat.le_of_ble_eq_true rfl) (fun r_723 E_723 h_723 => ?_)
  obtain ⟨rfl, hC1, f1⟩ := h_723
  have hR1 := hR.eqv f1
  obtain ⟨at1, rr, dn, wo, so, sl, ce, pa, rz, dl, ke, p2, w2, hM, -⟩ := id hR1
  have m0 := hM.1
  refine G_aload_n (i := 2) hk dL_law_726 rfl rfl ?_
  refine G_aload_n (i := 0) hk dL_law_727 rfl rfl ?_
  refine G_iload_n (i := 3) hk dL_law_728 rfl rfl ?_
  refine G_iconst (v := 1) hk dL_law_729 (by decide) ?_
  refine G_iadd hk dL_law_730 ?_
  refine G_sld (j := j + 1) hk hX dL_law_731 (nI_add j 1) (by omega) (by omega) ?_
  refine G_aload_n (i := 0) hk dL_law_732 rfl rfl ?_
  refine G_iload_n (i := 3) hk dL_law_733 rfl rfl ?_
  refine G_iconst (v := 2) hk dL_law_734 (by decide) ?_
  refine G_iadd hk dL_law_735 ?_
  refine G_sld (j := j + 2) hk hX dL_law_736 (nI_add j 2) (by omega) (by omega) ?_
  refine G_aload_n (i := 0) hk dL_law_737 rfl rfl ?_
  refine G_iload_n (i := 3) hk dL_law_738 rfl rfl ?_
  refine G_iconst (v := 3) hk dL_law_739 (by decide) ?_
  refine G_iadd hk dL_law_740 ?_
  refine G_sld (j := j + 3) hk hX dL_law_741 (nI_add j 3) (by omega) (by omega) ?_
  refine G_cVi hk (c_X6_sheet l V ad E_723 n rd R rp rw tr fa la sz cl hR1 ho hlo (xs (j + 1)) (xs (j + 2)) (xs (j + 3))) mX6_sheet vX6_sheet kL_87 dL_law_742 m0 (by rfl) (by first | decide | omega) rfl (by decide) (by decide) rfl (Nat.le_of_ble_eq_true rfl) (fun r_742 E_742 h_742 => ?_)
  obtain ⟨rfl, hR2, f2⟩ := h_742
  have hC2 := hC1.eqv f2
  refine G_icmp_eq (tgt := 1051) hk dL_law_745 (by decide) (fun c_745 => ?_) (fun c_745 => ?_)
  · try simp only [gB_ne, gB_eq, Decidable.not_not] at c_745
    exact hend _ ⟨_, _, _, _, _, _, _, _, _, _, hC2, hR2, ho, (hlo.sheet (xs (j + 1)) (xs (j + 2)) (xs (j + 3)))⟩
  · try simp only [gB_ne, gB_eq, Decidable.not_not] at c_745
    first | exact absurd trivial c_745 | exact absurd rfl c_745 | exact absurd (lg_cmp_self _) c_745

set_option maxHeartbeats 4000000 in
set_option maxRecDepth 100000 in
theorem la_lose {l : Launch} {K : gX} {V : gV} {ad : Nat → Nat} {rt : Option FieldType} {nm : String} {Q : State → Prop} {b L : Nat} {xs : Nat → Int32} (hk : gOk l room_1 K V cL_law 4 RL rt nm) (hX : lX K V b L xs) (hL : L ≤ 3584) {j : Nat} (hj : j + 7 ≤ L) (hend : ∀ E2, lI V ad E2 → G K V 4 Q ad 44 44 786 1051 [(0, .ref b), (1, .ref (ad 0)), (2, .ref (ad 34)), (3, .int (nI j))] [] E2) {E : Nat → va_E} (hI : lI V ad E) : G K V 4 Q ad 44 44 786 750 [(0, .ref b), (1, .ref (ad 0)), (2, .ref (ad 34)), (3, .int (nI j))] [] E := by
  obtain ⟨n, R, rd, rp, rw, tr, fa, la, sz, cl, hC, hR, ho, hlo⟩ := hI
  refine G_aload_n (i := 1) hk dL_law_750 rfl rfl ?_
  refine G_aload_n (i := 0) hk dL_law_751 rfl rfl ?_
  refine G_iload_n (i := 3) hk dL_law_752 rfl rfl ?_
  refine G_iconst (v := 1) hk dL_law_753 (by decide) ?_
  refine G_iadd hk dL_law_754 ?_
  refine G_sld (j := j + 1) hk hX dL_law_755 (nI_add j 1) (by omega) (by omega) ?_
  refine G_cVi hk (c_X5_lose l V ad E n rd R rp rw tr fa la sz cl hC (xs (j + 1))) mX5_lose vX5_lose kL_88 dL_law_756 hC.1 (by rfl) (by first | decide | omega) rfl (by decide) (by decide) rfl (Nat.le_of_ble_eq_true rfl) (fun r_756 E_756 h_756 => ?_)
  obtain ⟨rfl, hC1, f1⟩ := h_756
  have hR1 := hR.eqv f1
  obtain ⟨at1, rr, dn, wo, so, sl, ce, pa, rz, dl, ke, p2, w2, hM, -⟩ := id hR1
  have m0 := hM.1
  refine G_aload_n (i := 2) hk dL_law_759 rfl rfl ?_
  refine G_aload_n (i := 0) hk dL_law_760 rfl rfl ?_
  refine G_iload_n (i := 3) hk dL_law_761 rfl rfl ?_
  refine G_iconst (v := 1) hk dL_law_762 (by decide) ?_
  refine G_iadd hk dL_law_763 ?_
  refine G_sld (j := j + 1) hk hX dL_law_764 (nI_add j 1) (by omega) (by omega) ?_
  refine G_cVi hk (c_X6_lose l V ad E_756 n rd R rp rw tr fa la sz cl hR1 ho hlo (xs (j + 1))) mX6_lose vX6_lose kL_91 dL_law_765 m0 (by rfl) (by first | decide | omega) rfl (by decide) (by decide) rfl (Nat.le_of_ble_eq_true rfl) (fun r_765 E_765 h_765 => ?_)
  obtain ⟨rfl, hR2, f2⟩ := h_765
  have hC2 := hC1.eqv f2
  refine G_icmp_eq (tgt := 1051) hk dL_law_768 (by decide) (fun c_768 => ?_) (fun c_768 => ?_)
  · try simp only [gB_ne, gB_eq, Decidable.not_not] at c_768
    exact hend _ ⟨_, _, _, _, _, _, _, _, _, _, hC2, hR2, ho, (hlo.lose (xs (j + 1)))⟩
  · try simp only [gB_ne, gB_eq, Decidable.not_not] at c_768
    first | exact absurd trivial c_768 | exact absurd rfl c_768 | exact absurd (lg_cmp_self _) c_768

set_option maxHeartbeats 4000000 in
set_option maxRecDepth 100000 in
theorem la_put {l : Launch} {K : gX} {V : gV} {ad : Nat → Nat} {rt : Option FieldType} {nm : String} {Q : State → Prop} {b L : Nat} {xs : Nat → Int32} (hk : gOk l room_1 K V cL_law 4 RL rt nm) (hX : lX K V b L xs) (hL : L ≤ 3584) {j : Nat} (hj : j + 7 ≤ L) (hend : ∀ E2, lI V ad E2 → G K V 4 Q ad 44 44 786 1051 [(0, .ref b), (1, .ref (ad 0)), (2, .ref (ad 34)), (3, .int (nI j))] [] E2) {E : Nat → va_E} (hI : lI V ad E) : G K V 4 Q ad 44 44 786 773 [(0, .ref b), (1, .ref (ad 0)), (2, .ref (ad 34)), (3, .int (nI j))] [] E := by
  obtain ⟨n, R, rd, rp, rw, tr, fa, la, sz, cl, hC, hR, ho, hlo⟩ := hI
  refine G_aload_n (i := 1) hk dL_law_773 rfl rfl ?_
  refine G_aload_n (i := 0) hk dL_law_774 rfl rfl ?_
  refine G_iload_n (i := 3) hk dL_law_775 rfl rfl ?_
  refine G_iconst (v := 1) hk dL_law_776 (by decide) ?_
  refine G_iadd hk dL_law_777 ?_
  refine G_sld (j := j + 1) hk hX dL_law_778 (nI_add j 1) (by omega) (by omega) ?_
  refine G_aload_n (i := 0) hk dL_law_779 rfl rfl ?_
  refine G_iload_n (i := 3) hk dL_law_780 rfl rfl ?_
  refine G_iconst (v := 2) hk dL_law_781 (by decide) ?_
  refine G_iadd hk dL_law_782 ?_
  refine G_sld (j := j + 2) hk hX dL_law_783 (nI_add j 2) (by omega) (by omega) ?_
  refine G_aload_n (i := 0) hk dL_law_784 rfl rfl ?_
  refine G_iload_n (i := 3) hk dL_law_785 rfl rfl ?_
  refine G_iconst (v := 3) hk dL_law_786 (by decide) ?_
  refine G_iadd hk dL_law_787 ?_
  refine G_sld (j := j + 3) hk hX dL_law_788 (nI_add j 3) (by omega) (by omega) ?_
  refine G_cVi hk (c_X5_put l V ad E n rd R rp rw tr fa la sz cl hC (xs (j + 1)) (xs (j + 2)) (xs (j + 3))) mX5_put vX5_put kL_92 dL_law_789 hC.1 (by rfl) (by first | decide | omega) rfl (by decide) (by decide) rfl (Nat.le_of_ble_eq_true rfl) (fun r_789 E_789 h_789 => ?_)
  obtain ⟨rfl, hC1, f1⟩ := h_789
  have hR1 := hR.eqv f1
  obtain ⟨at1, rr, dn, wo, so, sl, ce, pa, rz, dl, ke, p2, w2, hM, -⟩ := id hR1
  have m0 := hM.1
  refine G_aload_n (i := 2) hk dL_law_792 rfl rfl ?_
  refine G_aload_n (i := 0) hk dL_law_793 rfl rfl ?_
  refine G_iload_n (i := 3) hk dL_law_794 rfl rfl ?_
  refine G_iconst (v := 1) hk dL_law_795 (by decide) ?_
  refine G_iadd hk dL_law_796 ?_
  refine G_sld (j := j + 1) hk hX dL_law_797 (nI_add j 1) (by omega) (by omega) ?_
  refine G_aload_n (i := 0) hk dL_law_798 rfl rfl ?_
  refine G_iload_n (i := 3) hk dL_law_799 rfl rfl ?_
  refine G_iconst (v := 2) hk dL_law_800 (by decide) ?_
  refine G_iadd hk dL_law_801 ?_
  refine G_sld (j := j + 2) hk hX dL_law_802 (nI_add j 2) (by omega) (by omega) ?_
  refine G_aload_n (i := 0) hk dL_law_803 rfl rfl ?_
  refine G_iload_n (i := 3) hk dL_law_804 rfl rfl ?_
  refine G_iconst (v := 3) hk dL_law_805 (by decide) ?_
  refine G_iadd hk dL_law_806 ?_
  refine G_sld (j := j + 3) hk hX dL_law_807 (nI_add j 3) (by omega) (by omega) ?_
  refine G_cVi hk (c_X6_put l V ad E_789 n rd R rp rw tr fa la sz cl hR1 ho hlo (xs (j + 1)) (xs (j + 2)) (xs (j + 3))) mX6_put vX6_put kL_95 dL_law_808 m0 (by rfl) (by first | decide | omega) rfl (by decide) (by decide) rfl (Nat.le_of_ble_eq_true rfl) (fun r_808 E_808 h_808 => ?_)
  obtain ⟨rfl, hR2, f2⟩ := h_808
  have hC2 := hC1.eqv f2
  refine G_icmp_eq (tgt := 1051) hk dL_law_811 (by decide) (fun c_811 => ?_) (fun c_811 => ?_)
  · try simp only [gB_ne, gB_eq, Decidable.not_not] at c_811
    exact hend _ ⟨_, _, _, _, _, _, _, _, _, _, hC2, hR2, ho, hlo⟩
  · try simp only [gB_ne, gB_eq, Decidable.not_not] at c_811
    first | exact absurd trivial c_811 | exact absurd rfl c_811 | exact absurd (lg_cmp_self _) c_811

set_option maxHeartbeats 4000000 in
set_option maxRecDepth 100000 in
theorem la_cell {l : Launch} {K : gX} {V : gV} {ad : Nat → Nat} {rt : Option FieldType} {nm : String} {Q : State → Prop} {b L : Nat} {xs : Nat → Int32} (hk : gOk l room_1 K V cL_law 4 RL rt nm) (hX : lX K V b L xs) (hL : L ≤ 3584) {j : Nat} (hj : j + 7 ≤ L) (hend : ∀ E2, lI V ad E2 → G K V 4 Q ad 44 44 786 1051 [(0, .ref b), (1, .ref (ad 0)), (2, .ref (ad 34)), (3, .int (nI j))] [] E2) {E : Nat → va_E} (hI : lI V ad E) : G K V 4 Q ad 44 44 786 816 [(0, .ref b), (1, .ref (ad 0)), (2, .ref (ad 34)), (3, .int (nI j))] [] E := by
  obtain ⟨n, R, rd, rp, rw, tr, fa, la, sz, cl, hC, hR, ho, hlo⟩ := hI
  refine G_aload_n (i := 1) hk dL_law_816 rfl rfl ?_
  refine G_aload_n (i := 0) hk dL_law_817 rfl rfl ?_
  refine G_iload_n (i := 3) hk dL_law_818 rfl rfl ?_
  refine G_iconst (v := 1) hk dL_law_819 (by decide) ?_
  refine G_iadd hk dL_law_820 ?_
  refine G_sld (j := j + 1) hk hX dL_law_821 (nI_add j 1) (by omega) (by omega) ?_
  refine G_aload_n (i := 0) hk dL_law_822 rfl rfl ?_
  refine G_iload_n (i := 3) hk dL_law_823 rfl rfl ?_
  refine G_iconst (v := 2) hk dL_law_824 (by decide) ?_
  refine G_iadd hk dL_law_825 ?_
  refine G_sld (j := j + 2) hk hX dL_law_826 (nI_add j 2) (by omega) (by omega) ?_
  refine G_aload_n (i := 0) hk dL_law_827 rfl rfl ?_
  refine G_iload_n (i := 3) hk dL_law_828 rfl rfl ?_
  refine G_iconst (v := 3) hk dL_law_829 (by decide) ?_
  refine G_iadd hk dL_law_830 ?_
  refine G_sld (j := j + 3) hk hX dL_law_831 (nI_add j 3) (by omega) (by omega) ?_
  refine G_cVl hk (c_X5_cell l V ad E n rd R rp rw tr fa la sz cl hC (xs (j + 1)) (xs (j + 2)) (xs (j + 3))) mX5_cell vX5_cell kL_96 dL_law_832 hC.1 (by rfl) (by first | decide | omega) rfl (by decide) (by decide) rfl (Nat.le_of_ble_eq_true rfl) (fun r_832 E_832 h_832 => ?_)
  obtain ⟨rfl, hC1, f1⟩ := h_832
  have hR1 := hR.eqv f1
  obtain ⟨at1, rr, dn, wo, so, sl, ce, pa, rz, dl, ke, p2, w2, hM, -⟩ := id hR1
  have m0 := hM.1
  refine G_aload_n (i := 2) hk dL_law_835 rfl rfl ?_
  refine G_aload_n (i := 0) hk dL_law_836 rfl rfl ?_
  refine G_iload_n (i := 3) hk dL_law_837 rfl rfl ?_
  refine G_iconst (v := 1) hk dL_law_838 (by decide) ?_
  refine G_iadd hk dL_law_839 ?_
  refine G_sld (j := j + 1) hk hX dL_law_840 (nI_add j 1) (by omega) (by omega) ?_
  refine G_aload_n (i := 0) hk dL_law_841 rfl rfl ?_
  refine G_iload_n (i := 3) hk dL_law_842 rfl rfl ?_
  refine G_iconst (v := 2) hk dL_law_843 (by decide) ?_
  refine G_iadd hk dL_law_844 ?_
  refine G_sld (j := j + 2) hk hX dL_law_845 (nI_add j 2) (by omega) (by omega) ?_
  refine G_aload_n (i := 0) hk dL_law_846 rfl rfl ?_
  refine G_iload_n (i := 3) hk dL_law_847 rfl rfl ?_
  refine G_iconst (v := 3) hk dL_law_848 (by decide) ?_
  refine G_iadd hk dL_law_849 ?_
  refine G_sld (j := j + 3) hk hX dL_law_850 (nI_add j 3) (by omega) (by omega) ?_
  refine G_cVl hk (c_X6_cell l V ad E_832 n rd R rp rw tr fa la sz cl hR1 ho hlo (xs (j + 1)) (xs (j + 2)) (xs (j + 3))) mX6_cell vX6_cell kL_100 dL_law_851 m0 (by rfl) (by first | decide | omega) rfl (by decide) (by decide) rfl (Nat.le_of_ble_eq_true rfl) (fun r_851 E_851 h_851 => ?_)
  obtain ⟨rfl, hR2, f2⟩ := h_851
  have hC2 := hC1.eqv f2
  refine G_lcmp hk dL_law_854 ?_
  refine G_if_eq (tgt := 1051) hk dL_law_855 (by decide) (fun c_855 => ?_) (fun c_855 => ?_)
  · try simp only [gB_ne, gB_eq, Decidable.not_not] at c_855
    exact hend _ ⟨_, _, _, _, _, _, _, _, _, _, hC2, hR2, ho, hlo⟩
  · try simp only [gB_ne, gB_eq, Decidable.not_not] at c_855
    first | exact absurd trivial c_855 | exact absurd rfl c_855 | exact absurd (lg_cmp_self _) c_855

set_option maxHeartbeats 4000000 in
set_option maxRecDepth 100000 in
theorem la_copy {l : Launch} {K : gX} {V : gV} {ad : Nat → Nat} {rt : Option FieldType} {nm : String} {Q : State → Prop} {b L : Nat} {xs : Nat → Int32} (hk : gOk l room_1 K V cL_law 4 RL rt nm) (hX : lX K V b L xs) (hL : L ≤ 3584) {j : Nat} (hj : j + 7 ≤ L) (hend : ∀ E2, lI V ad E2 → G K V 4 Q ad 44 44 786 1051 [(0, .ref b), (1, .ref (ad 0)), (2, .ref (ad 34)), (3, .int (nI j))] [] E2) {E : Nat → va_E} (hI : lI V ad E) : G K V 4 Q ad 44 44 786 860 [(0, .ref b), (1, .ref (ad 0)), (2, .ref (ad 34)), (3, .int (nI j))] [] E := by
  obtain ⟨n, R, rd, rp, rw, tr, fa, la, sz, cl, hC, hR, ho, hlo⟩ := hI
  refine G_aload_n (i := 1) hk dL_law_860 rfl rfl ?_
  refine G_aload_n (i := 0) hk dL_law_861 rfl rfl ?_
  refine G_iload_n (i := 3) hk dL_law_862 rfl rfl ?_
  refine G_iconst (v := 1) hk dL_law_863 (by decide) ?_
  refine G_iadd hk dL_law_864 ?_
  refine G_sld (j := j + 1) hk hX dL_law_865 (nI_add j 1) (by omega) (by omega) ?_
  refine G_aload_n (i := 0) hk dL_law_866 rfl rfl ?_
  refine G_iload_n (i := 3) hk dL_law_867 rfl rfl ?_
  refine G_iconst (v := 2) hk dL_law_868 (by decide) ?_
  refine G_iadd hk dL_law_869 ?_
  refine G_sld (j := j + 2) hk hX dL_law_870 (nI_add j 2) (by omega) (by omega) ?_
  refine G_aload_n (i := 0) hk dL_law_871 rfl rfl ?_
  refine G_iload_n (i := 3) hk dL_law_872 rfl rfl ?_
  refine G_iconst (v := 3) hk dL_law_873 (by decide) ?_
  refine G_iadd hk dL_law_874 ?_
  refine G_sld (j := j + 3) hk hX dL_law_875 (nI_add j 3) (by omega) (by omega) ?_
  refine G_aload_n (i := 0) hk dL_law_876 rfl rfl ?_
  refine G_iload_n (i := 3) hk dL_law_877 rfl rfl ?_
  refine G_iconst (v := 4) hk dL_law_878 (by decide) ?_
  refine G_iadd hk dL_law_879 ?_
  refine G_sld (j := j + 4) hk hX dL_law_880 (nI_add j 4) (by omega) (by omega) ?_
  refine G_aload_n (i := 0) hk dL_law_881 rfl rfl ?_
  refine G_iload_n (i := 3) hk dL_law_882 rfl rfl ?_
  refine G_iconst (v := 5) hk dL_law_883 (by decide) ?_
  refine G_iadd hk dL_law_884 ?_
  refine G_sld (j := j + 5) hk hX dL_law_885 (nI_add j 5) (by omega) (by omega) ?_
  refine G_cVi hk (c_X5_copy l V ad E n rd R rp rw tr fa la sz cl hC (xs (j + 1)) (xs (j + 2)) (xs (j + 3)) (xs (j + 4)) (xs (j + 5))) mX5_copy vX5_copy kL_101 dL_law_886 hC.1 (by rfl) (by first | decide | omega) rfl (by decide) (by decide) rfl (Nat.le_of_ble_eq_true rfl) (fun r_886 E_886 h_886 => ?_)
  obtain ⟨rfl, hC1, f1⟩ := h_886
  have hR1 := hR.eqv f1
  obtain ⟨at1, rr, dn, wo, so, sl, ce, pa, rz, dl, ke, p2, w2, hM, -⟩ := id hR1
  have m0 := hM.1
  refine G_aload_n (i := 2) hk dL_law_889 rfl rfl ?_
  refine G_aload_n (i := 0) hk dL_law_890 rfl rfl ?_
  refine G_iload_n (i := 3) hk dL_law_891 rfl rfl ?_
  refine G_iconst (v := 1) hk dL_law_892 (by decide) ?_
  refine G_iadd hk dL_law_893 ?_
  refine G_sld (j := j + 1) hk hX dL_law_894 (nI_add j 1) (by omega) (by omega) ?_
  refine G_aload_n (i := 0) hk dL_law_895 rfl rfl ?_
  refine G_iload_n (i := 3) hk dL_law_896 rfl rfl ?_
  refine G_iconst (v := 2) hk dL_law_897 (by decide) ?_
  refine G_iadd hk dL_law_898 ?_
  refine G_sld (j := j + 2) hk hX dL_law_899 (nI_add j 2) (by omega) (by omega) ?_
  refine G_aload_n (i := 0) hk dL_law_900 rfl rfl ?_
  refine G_iload_n (i := 3) hk dL_law_901 rfl rfl ?_
  refine G_iconst (v := 3) hk dL_law_902 (by decide) ?_
  refine G_iadd hk dL_law_903 ?_
  refine G_sld (j := j + 3) hk hX dL_law_904 (nI_add j 3) (by omega) (by omega) ?_
  refine G_aload_n (i := 0) hk dL_law_905 rfl rfl ?_
  refine G_iload_n (i := 3) hk dL_law_906 rfl rfl ?_
  refine G_iconst (v := 4) hk dL_law_907 (by decide) ?_
  refine G_iadd hk dL_law_908 ?_
  refine G_sld (j := j + 4) hk hX dL_law_909 (nI_add j 4) (by omega) (by omega) ?_
  refine G_aload_n (i := 0) hk dL_law_910 rfl rfl ?_
  refine G_iload_n (i := 3) hk dL_law_911 rfl rfl ?_
  refine G_iconst (v := 5) hk dL_law_912 (by decide) ?_
  refine G_iadd hk dL_law_913 ?_
  refine G_sld (j := j + 5) hk hX dL_law_914 (nI_add j 5) (by omega) (by omega) ?_
  refine G_cVi hk (c_X6_copy l V ad E_886 n rd R rp rw tr fa la sz cl hR1 ho hlo (xs (j + 1)) (xs (j + 2)) (xs (j + 3)) (xs (j + 4)) (xs (j + 5))) mX6_copy vX6_copy kL_104 dL_law_915 m0 (by rfl) (by first | decide | omega) rfl (by decide) (by decide) rfl (Nat.le_of_ble_eq_true rfl) (fun r_915 E_915 h_915 => ?_)
  obtain ⟨rfl, hR2, f2⟩ := h_915
  have hC2 := hC1.eqv f2
  refine G_icmp_eq (tgt := 1051) hk dL_law_918 (by decide) (fun c_918 => ?_) (fun c_918 => ?_)
  · try simp only [gB_ne, gB_eq, Decidable.not_not] at c_918
    exact hend _ ⟨_, _, _, _, _, _, _, _, _, _, hC2, hR2, ho, hlo⟩
  · try simp only [gB_ne, gB_eq, Decidable.not_not] at c_918
    first | exact absurd trivial c_918 | exact absurd rfl c_918 | exact absurd (lg_cmp_self _) c_918

set_option maxHeartbeats 4000000 in
set_option maxRecDepth 100000 in
theorem la_tell {l : Launch} {K : gX} {V : gV} {ad : Nat → Nat} {rt : Option FieldType} {nm : String} {Q : State → Prop} {b L : Nat} {xs : Nat → Int32} (hk : gOk l room_1 K V cL_law 4 RL rt nm) (hX : lX K V b L xs) (hL : L ≤ 3584) {j : Nat} (hj : j + 7 ≤ L) (hend : ∀ E2, lI V ad E2 → G K V 4 Q ad 44 44 786 1051 [(0, .ref b), (1, .ref (ad 0)), (2, .ref (ad 34)), (3, .int (nI j))] [] E2) {E : Nat → va_E} (hI : lI V ad E) : G K V 4 Q ad 44 44 786 923 [(0, .ref b), (1, .ref (ad 0)), (2, .ref (ad 34)), (3, .int (nI j))] [] E := by
  obtain ⟨n, R, rd, rp, rw, tr, fa, la, sz, cl, hC, hR, ho, hlo⟩ := hI
  refine G_aload_n (i := 1) hk dL_law_923 rfl rfl ?_
  refine G_aload_n (i := 0) hk dL_law_924 rfl rfl ?_
  refine G_iload_n (i := 3) hk dL_law_925 rfl rfl ?_
  refine G_iconst (v := 1) hk dL_law_926 (by decide) ?_
  refine G_iadd hk dL_law_927 ?_
  refine G_sld (j := j + 1) hk hX dL_law_928 (nI_add j 1) (by omega) (by omega) ?_
  refine G_cVi hk (c_X5_tell l V ad E n rd R rp rw tr fa la sz cl hC (xs (j + 1))) mX5_tell vX5_tell kL_105 dL_law_929 hC.1 (by rfl) (by first | decide | omega) rfl (by decide) (by decide) rfl (Nat.le_of_ble_eq_true rfl) (fun r_929 E_929 h_929 => ?_)
  obtain ⟨rfl, hC1, f1⟩ := h_929
  have hR1 := hR.eqv f1
  obtain ⟨at1, rr, dn, wo, so, sl, ce, pa, rz, dl, ke, p2, w2, hM, -⟩ := id hR1
  have m0 := hM.1
  refine G_aload_n (i := 2) hk dL_law_932 rfl rfl ?_
  refine G_aload_n (i := 0) hk dL_law_933 rfl rfl ?_
  refine G_iload_n (i := 3) hk dL_law_934 rfl rfl ?_
  refine G_iconst (v := 1) hk dL_law_935 (by decide) ?_
  refine G_iadd hk dL_law_936 ?_
  refine G_sld (j := j + 1) hk hX dL_law_937 (nI_add j 1) (by omega) (by omega) ?_
  refine G_cVi hk (c_X6_tell l V ad E_929 n rd R rp rw tr fa la sz cl hR1 ho (xs (j + 1))) mX6_tell vX6_tell kL_108 dL_law_938 m0 (by rfl) (by first | decide | omega) rfl (by decide) (by decide) rfl (Nat.le_of_ble_eq_true rfl) (fun r_938 E_938 h_938 => ?_)
  obtain ⟨rfl, hR2, f2⟩ := h_938
  have hC2 := hC1.eqv f2
  refine G_icmp_eq (tgt := 1051) hk dL_law_941 (by decide) (fun c_941 => ?_) (fun c_941 => ?_)
  · try simp only [gB_ne, gB_eq, Decidable.not_not] at c_941
    exact hend _ ⟨_, _, _, _, _, _, _, _, _, _, hC2, hR2, ho, hlo⟩
  · try simp only [gB_ne, gB_eq, Decidable.not_not] at c_941
    first | exact absurd trivial c_941 | exact absurd rfl c_941 | exact absurd (lg_cmp_self _) c_941

set_option maxHeartbeats 4000000 in
set_option maxRecDepth 100000 in
theorem la_cite {l : Launch} {K : gX} {V : gV} {ad : Nat → Nat} {rt : Option FieldType} {nm : String} {Q : State → Prop} {b L : Nat} {xs : Nat → Int32} (hk : gOk l room_1 K V cL_law 4 RL rt nm) (hX : lX K V b L xs) (hL : L ≤ 3584) {j : Nat} (hj : j + 7 ≤ L) (hend : ∀ E2, lI V ad E2 → G K V 4 Q ad 44 44 786 1051 [(0, .ref b), (1, .ref (ad 0)), (2, .ref (ad 34)), (3, .int (nI j))] [] E2) {E : Nat → va_E} (hI : lI V ad E) : G K V 4 Q ad 44 44 786 946 [(0, .ref b), (1, .ref (ad 0)), (2, .ref (ad 34)), (3, .int (nI j))] [] E := by
  obtain ⟨n, R, rd, rp, rw, tr, fa, la, sz, cl, hC, hR, ho, hlo⟩ := hI
  refine G_aload_n (i := 1) hk dL_law_946 rfl rfl ?_
  refine G_aload_n (i := 0) hk dL_law_947 rfl rfl ?_
  refine G_iload_n (i := 3) hk dL_law_948 rfl rfl ?_
  refine G_iconst (v := 1) hk dL_law_949 (by decide) ?_
  refine G_iadd hk dL_law_950 ?_
  refine G_sld (j := j + 1) hk hX dL_law_951 (nI_add j 1) (by omega) (by omega) ?_
  refine G_cVi hk (c_X5_cite l V ad E n rd R rp rw tr fa la sz cl hC (xs (j + 1))) mX5_cite vX5_cite kL_109 dL_law_952 hC.1 (by rfl) (by first | decide | omega) rfl (by decide) (by decide) rfl (Nat.le_of_ble_eq_true rfl) (fun r_952 E_952 h_952 => ?_)
  obtain ⟨rfl, hC1, f1⟩ := h_952
  have hR1 := hR.eqv f1
  obtain ⟨at1, rr, dn, wo, so, sl, ce, pa, rz, dl, ke, p2, w2, hM, -⟩ := id hR1
  have m0 := hM.1
  refine G_aload_n (i := 2) hk dL_law_955 rfl rfl ?_
  refine G_aload_n (i := 0) hk dL_law_956 rfl rfl ?_
  refine G_iload_n (i := 3) hk dL_law_957 rfl rfl ?_
  refine G_iconst (v := 1) hk dL_law_958 (by decide) ?_
  refine G_iadd hk dL_law_959 ?_
  refine G_sld (j := j + 1) hk hX dL_law_960 (nI_add j 1) (by omega) (by omega) ?_
  refine G_cVi hk (c_X6_cite l V ad E_952 n rd R rp rw tr fa la sz cl hR1 ho (xs (j + 1))) mX6_cite vX6_cite kL_112 dL_law_961 m0 (by rfl) (by first | decide | omega) rfl (by decide) (by decide) rfl (Nat.le_of_ble_eq_true rfl) (fun r_961 E_961 h_961 => ?_)
  obtain ⟨rfl, hR2, f2⟩ := h_961
  have hC2 := hC1.eqv f2
  refine G_icmp_eq (tgt := 1051) hk dL_law_964 (by decide) (fun c_964 => ?_) (fun c_964 => ?_)
  · try simp only [gB_ne, gB_eq, Decidable.not_not] at c_964
    exact hend _ ⟨_, _, _, _, _, _, _, _, _, _, hC2, hR2, ho, hlo⟩
  · try simp only [gB_ne, gB_eq, Decidable.not_not] at c_964
    first | exact absurd trivial c_964 | exact absurd rfl c_964 | exact absurd (lg_cmp_self _) c_964

set_option maxHeartbeats 4000000 in
set_option maxRecDepth 100000 in
theorem la_as {l : Launch} {K : gX} {V : gV} {ad : Nat → Nat} {rt : Option FieldType} {nm : String} {Q : State → Prop} {b L : Nat} {xs : Nat → Int32} (hk : gOk l room_1 K V cL_law 4 RL rt nm) (hX : lX K V b L xs) (hL : L ≤ 3584) {j : Nat} (hj : j + 7 ≤ L) (hend : ∀ E2, lI V ad E2 → G K V 4 Q ad 44 44 786 1051 [(0, .ref b), (1, .ref (ad 0)), (2, .ref (ad 34)), (3, .int (nI j))] [] E2) {E : Nat → va_E} (hI : lI V ad E) : G K V 4 Q ad 44 44 786 969 [(0, .ref b), (1, .ref (ad 0)), (2, .ref (ad 34)), (3, .int (nI j))] [] E := by
  obtain ⟨n, R, rd, rp, rw, tr, fa, la, sz, cl, hC, hR, ho, hlo⟩ := hI
  refine G_aload_n (i := 1) hk dL_law_969 rfl rfl ?_
  refine G_aload_n (i := 0) hk dL_law_970 rfl rfl ?_
  refine G_iload_n (i := 3) hk dL_law_971 rfl rfl ?_
  refine G_iconst (v := 1) hk dL_law_972 (by decide) ?_
  refine G_iadd hk dL_law_973 ?_
  refine G_sld (j := j + 1) hk hX dL_law_974 (nI_add j 1) (by omega) (by omega) ?_
  refine G_aload_n (i := 0) hk dL_law_975 rfl rfl ?_
  refine G_iload_n (i := 3) hk dL_law_976 rfl rfl ?_
  refine G_iconst (v := 2) hk dL_law_977 (by decide) ?_
  refine G_iadd hk dL_law_978 ?_
  refine G_sld (j := j + 2) hk hX dL_law_979 (nI_add j 2) (by omega) (by omega) ?_
  refine G_cVi hk (c_X5_as l V ad E n rd R rp rw tr fa la sz cl hC (xs (j + 1)) (xs (j + 2))) mX5_as vX5_as kL_113 dL_law_980 hC.1 (by rfl) (by first | decide | omega) rfl (by decide) (by decide) rfl (Nat.le_of_ble_eq_true rfl) (fun r_980 E_980 h_980 => ?_)
  obtain ⟨rfl, hC1, f1⟩ := h_980
  have hR1 := hR.eqv f1
  obtain ⟨at1, rr, dn, wo, so, sl, ce, pa, rz, dl, ke, p2, w2, hM, -⟩ := id hR1
  have m0 := hM.1
  refine G_aload_n (i := 2) hk dL_law_983 rfl rfl ?_
  refine G_aload_n (i := 0) hk dL_law_984 rfl rfl ?_
  refine G_iload_n (i := 3) hk dL_law_985 rfl rfl ?_
  refine G_iconst (v := 1) hk dL_law_986 (by decide) ?_
  refine G_iadd hk dL_law_987 ?_
  refine G_sld (j := j + 1) hk hX dL_law_988 (nI_add j 1) (by omega) (by omega) ?_
  refine G_aload_n (i := 0) hk dL_law_989 rfl rfl ?_
  refine G_iload_n (i := 3) hk dL_law_990 rfl rfl ?_
  refine G_iconst (v := 2) hk dL_law_991 (by decide) ?_
  refine G_iadd hk dL_law_992 ?_
  refine G_sld (j := j + 2) hk hX dL_law_993 (nI_add j 2) (by omega) (by omega) ?_
  refine G_cVi hk (c_X6_as l V ad E_980 n rd R rp rw tr fa la sz cl hR1 ho (xs (j + 1)) (xs (j + 2))) mX6_as vX6_as kL_116 dL_law_994 m0 (by rfl) (by first | decide | omega) rfl (by decide) (by decide) rfl (Nat.le_of_ble_eq_true rfl) (fun r_994 E_994 h_994 => ?_)
  obtain ⟨rfl, hR2, f2⟩ := h_994
  have hC2 := hC1.eqv f2
  refine G_icmp_eq (tgt := 1051) hk dL_law_997 (by decide) (fun c_997 => ?_) (fun c_997 => ?_)
  · try simp only [gB_ne, gB_eq, Decidable.not_not] at c_997
    exact hend _ ⟨_, _, _, _, _, _, _, _, _, _, hC2, hR2, ho, hlo⟩
  · try simp only [gB_ne, gB_eq, Decidable.not_not] at c_997
    first | exact absurd trivial c_997 | exact absurd rfl c_997 | exact absurd (lg_cmp_self _) c_997

set_option maxHeartbeats 4000000 in
set_option maxRecDepth 100000 in
theorem la_trace {l : Launch} {K : gX} {V : gV} {ad : Nat → Nat} {rt : Option FieldType} {nm : String} {Q : State → Prop} {b L : Nat} {xs : Nat → Int32} (hk : gOk l room_1 K V cL_law 4 RL rt nm) (hX : lX K V b L xs) (hL : L ≤ 3584) {j : Nat} (hj : j + 7 ≤ L) (hend : ∀ E2, lI V ad E2 → G K V 4 Q ad 44 44 786 1051 [(0, .ref b), (1, .ref (ad 0)), (2, .ref (ad 34)), (3, .int (nI j))] [] E2) {E : Nat → va_E} (hI : lI V ad E) : G K V 4 Q ad 44 44 786 1002 [(0, .ref b), (1, .ref (ad 0)), (2, .ref (ad 34)), (3, .int (nI j))] [] E := by
  obtain ⟨n, R, rd, rp, rw, tr, fa, la, sz, cl, hC, hR, ho, hlo⟩ := hI
  refine G_aload_n (i := 1) hk dL_law_1002 rfl rfl ?_
  refine G_cVi hk (c_X5_trace l V ad E n rd R rp rw tr fa la sz cl hC) mX5_trace vX5_trace kL_117 dL_law_1003 hC.1 (by rfl) (by first | decide | omega) rfl (by decide) (by decide) rfl (Nat.le_of_ble_eq_true rfl) (fun r_1003 E_1003 h_1003 => ?_)
  obtain ⟨hv1, hC1, f1⟩ := h_1003
  rw [hv1]
  have hR1 := hR.eqv f1
  obtain ⟨at1, rr, dn, wo, so, sl, ce, pa, rz, dl, ke, p2, w2, hM, -⟩ := id hR1
  have m0 := hM.1
  refine G_aload_n (i := 2) hk dL_law_1006 rfl rfl ?_
  refine G_cVi hk (c_X6_trace l V ad E_1003 n rd R rp rw tr fa la sz cl hR1 ho) mX6_trace vX6_trace kL_121 dL_law_1007 m0 (by rfl) (by first | decide | omega) rfl (by decide) (by decide) rfl (Nat.le_of_ble_eq_true rfl) (fun r_1007 E_1007 h_1007 => ?_)
  obtain ⟨hv2, hR2, f2⟩ := h_1007
  rw [hv2]
  have hC2 := hC1.eqv f2
  refine G_icmp_eq (tgt := 1051) hk dL_law_1010 (by decide) (fun c_1010 => ?_) (fun c_1010 => ?_)
  · try simp only [gB_ne, gB_eq, Decidable.not_not] at c_1010
    exact hend _ ⟨_, _, _, _, _, _, _, _, _, _, hC2, hR2, ho, hlo⟩
  · try simp only [gB_ne, gB_eq, Decidable.not_not] at c_1010
    first | exact absurd trivial c_1010 | exact absurd rfl c_1010 | exact absurd (lg_cmp_self _) c_1010

set_option maxHeartbeats 4000000 in
set_option maxRecDepth 100000 in
theorem la_fault {l : Launch} {K : gX} {V : gV} {ad : Nat → Nat} {rt : Option FieldType} {nm : String} {Q : State → Prop} {b L : Nat} {xs : Nat → Int32} (hk : gOk l room_1 K V cL_law 4 RL rt nm) (hX : lX K V b L xs) (hL : L ≤ 3584) {j : Nat} (hj : j + 7 ≤ L) (hend : ∀ E2, lI V ad E2 → G K V 4 Q ad 44 44 786 1051 [(0, .ref b), (1, .ref (ad 0)), (2, .ref (ad 34)), (3, .int (nI j))] [] E2) {E : Nat → va_E} (hI : lI V ad E) : G K V 4 Q ad 44 44 786 1015 [(0, .ref b), (1, .ref (ad 0)), (2, .ref (ad 34)), (3, .int (nI j))] [] E := by
  obtain ⟨n, R, rd, rp, rw, tr, fa, la, sz, cl, hC, hR, ho, hlo⟩ := hI
  refine G_aload_n (i := 1) hk dL_law_1015 rfl rfl ?_
  refine G_cVi hk (c_X5_fault l V ad E n rd R rp rw tr fa la sz cl hC) mX5_fault vX5_fault kL_122 dL_law_1016 hC.1 (by rfl) (by first | decide | omega) rfl (by decide) (by decide) rfl (Nat.le_of_ble_eq_true rfl) (fun r_1016 E_1016 h_1016 => ?_)
  obtain ⟨hv1, hC1, f1⟩ := h_1016
  rw [hv1]
  have hR1 := hR.eqv f1
  obtain ⟨at1, rr, dn, wo, so, sl, ce, pa, rz, dl, ke, p2, w2, hM, -⟩ := id hR1
  have m0 := hM.1
  refine G_aload_n (i := 2) hk dL_law_1019 rfl rfl ?_
  refine G_cVi hk (c_X6_fault l V ad E_1016 n rd R rp rw tr fa la sz cl hR1 ho) mX6_fault vX6_fault kL_125 dL_law_1020 m0 (by rfl) (by first | decide | omega) rfl (by decide) (by decide) rfl (Nat.le_of_ble_eq_true rfl) (fun r_1020 E_1020 h_1020 => ?_)
  obtain ⟨hv2, hR2, f2⟩ := h_1020
  rw [hv2]
  have hC2 := hC1.eqv f2
  refine G_icmp_eq (tgt := 1051) hk dL_law_1023 (by decide) (fun c_1023 => ?_) (fun c_1023 => ?_)
  · try simp only [gB_ne, gB_eq, Decidable.not_not] at c_1023
    exact hend _ ⟨_, _, _, _, _, _, _, _, _, _, hC2, hR2, ho, hlo⟩
  · try simp only [gB_ne, gB_eq, Decidable.not_not] at c_1023
    first | exact absurd trivial c_1023 | exact absurd rfl c_1023 | exact absurd (lg_cmp_self _) c_1023

set_option maxHeartbeats 4000000 in
set_option maxRecDepth 100000 in
theorem la_many {l : Launch} {K : gX} {V : gV} {ad : Nat → Nat} {rt : Option FieldType} {nm : String} {Q : State → Prop} {b L : Nat} {xs : Nat → Int32} (hk : gOk l room_1 K V cL_law 4 RL rt nm) (hX : lX K V b L xs) (hL : L ≤ 3584) {j : Nat} (hj : j + 7 ≤ L) (hend : ∀ E2, lI V ad E2 → G K V 4 Q ad 44 44 786 1051 [(0, .ref b), (1, .ref (ad 0)), (2, .ref (ad 34)), (3, .int (nI j))] [] E2) {E : Nat → va_E} (hI : lI V ad E) : G K V 4 Q ad 44 44 786 1028 [(0, .ref b), (1, .ref (ad 0)), (2, .ref (ad 34)), (3, .int (nI j))] [] E := by
  obtain ⟨n, R, rd, rp, rw, tr, fa, la, sz, cl, hC, hR, ho, hlo⟩ := hI
  refine G_aload_n (i := 1) hk dL_law_1028 rfl rfl ?_
  refine G_aload_n (i := 0) hk dL_law_1029 rfl rfl ?_
  refine G_iload_n (i := 3) hk dL_law_1030 rfl rfl ?_
  refine G_iconst (v := 1) hk dL_law_1031 (by decide) ?_
  refine G_iadd hk dL_law_1032 ?_
  refine G_sld (j := j + 1) hk hX dL_law_1033 (nI_add j 1) (by omega) (by omega) ?_
  refine G_cVi hk (c_X5_many l V ad E n rd R rp rw tr fa la sz cl hC (xs (j + 1))) mX5_many vX5_many kL_126 dL_law_1034 hC.1 (by rfl) (by first | decide | omega) rfl (by decide) (by decide) rfl (Nat.le_of_ble_eq_true rfl) (fun r_1034 E_1034 h_1034 => ?_)
  obtain ⟨rfl, hC1, f1⟩ := h_1034
  have hR1 := hR.eqv f1
  obtain ⟨at1, rr, dn, wo, so, sl, ce, pa, rz, dl, ke, p2, w2, hM, -⟩ := id hR1
  have m0 := hM.1
  refine G_aload_n (i := 2) hk dL_law_1037 rfl rfl ?_
  refine G_aload_n (i := 0) hk dL_law_1038 rfl rfl ?_
  refine G_iload_n (i := 3) hk dL_law_1039 rfl rfl ?_
  refine G_iconst (v := 1) hk dL_law_1040 (by decide) ?_
  refine G_iadd hk dL_law_1041 ?_
  refine G_sld (j := j + 1) hk hX dL_law_1042 (nI_add j 1) (by omega) (by omega) ?_
  refine G_cVi hk (c_X6_many l V ad E_1034 n rd R rp rw tr fa la sz cl hR1 ho (xs (j + 1))) mX6_many vX6_many kL_129 dL_law_1043 m0 (by rfl) (by first | decide | omega) rfl (by decide) (by decide) rfl (Nat.le_of_ble_eq_true rfl) (fun r_1043 E_1043 h_1043 => ?_)
  obtain ⟨rfl, hR2, f2⟩ := h_1043
  have hC2 := hC1.eqv f2
  refine G_icmp_eq (tgt := 1051) hk dL_law_1046 (by decide) (fun c_1046 => ?_) (fun c_1046 => ?_)
  · try simp only [gB_ne, gB_eq, Decidable.not_not] at c_1046
    exact hend _ ⟨_, _, _, _, _, _, _, _, _, _, hC2, hR2, ho, hlo⟩
  · try simp only [gB_ne, gB_eq, Decidable.not_not] at c_1046
    first | exact absurd trivial c_1046 | exact absurd rfl c_1046 | exact absurd (lg_cmp_self _) c_1046

set_option maxHeartbeats 4000000 in
set_option maxRecDepth 100000 in
theorem law_loop {l : Launch} {K : gX} {V : gV} {ad : Nat → Nat} {rt : Option FieldType} {nm : String} {Q : State → Prop} {b L : Nat} {xs : Nat → Int32} (hk : gOk l room_1 K V cL_law 4 RL rt nm) (hX : lX K V b L xs) (hL : L ≤ 3584) (hq : ∀ E2, G K V 4 Q ad 44 44 786 1057 [(0, .ref b), (1, .ref (ad 0)), (2, .ref (ad 34))] [] E2) : ∀ (k j : Nat) (E : Nat → va_E), L + 7 < j + k → j ≤ L + 7 → lI V ad E → G K V 4 Q ad 44 44 786 18 [(0, .ref b), (1, .ref (ad 0)), (2, .ref (ad 34)), (3, .int (nI j))] [] E := by
  intro k
  induction k with
  | zero =>
    intro j E hjk hjl hI
    exact absurd hjk (by omega)
  | succ k ih =>
    intro j E hjk hjl hI
    have hend : j + 7 ≤ L → ∀ E2, lI V ad E2 → G K V 4 Q ad 44 44 786 1051 [(0, .ref b), (1, .ref (ad 0)), (2, .ref (ad 34)), (3, .int (nI j))] [] E2 := by
      intro hj E2 hI2
      refine G_iinc (v := nI (j + 7)) hk dL_law_1051 rfl (nI_add j 7) (by decide) rfl ?_
      refine G_goto (tgt := 18) hk dL_law_1054 (by decide) ?_
      exact G_lv (by exact And.intro rfl (And.intro rfl (And.intro rfl (And.intro rfl (trivial))))) (ih (j + 7) E2 (by omega) (by omega) hI2)
    have hend := fun hj => hend hj
    refine G_iload_n (i := 3) hk dL_law_18 rfl rfl ?_
    refine G_aload_n (i := 0) hk dL_law_19 rfl rfl ?_
    refine G_slen hk hX dL_law_20 ?_
    refine G_bipush (v := 7) hk dL_law_21 (by decide) ?_
    refine G_isub hk dL_law_23 ?_
    refine G_icmp_gt (tgt := 1057) hk dL_law_24 (by decide) (fun c_24 => ?_) (fun c_24 => ?_)
    · skip
      exact G_lv (by exact And.intro rfl (And.intro rfl (And.intro rfl (trivial)))) (hq E)
    · skip
      have hj : j + 7 ≤ L := by
        have e7 : (nI L - 7).toInt = (L : Int) - 7 := pk_sub_toInt (b := 7) (by omega) (by omega)
        rw [fa_lt, e7, nI_toInt (by omega)] at c_24
        omega
      refine G_aload_n (i := 0) hk dL_law_27 rfl rfl ?_
      refine G_iload_n (i := 3) hk dL_law_28 rfl rfl ?_
      refine G_sld (j := j) hk hX dL_law_29 rfl (by omega) (by omega) ?_
      refine G_bipush (v := 31) hk dL_law_30 (by decide) ?_
      refine G_iand hk dL_law_32 ?_
      obtain ⟨t, ht, e⟩ := pk_andE (xs j) (m := 31) 5 (by decide)
      rw [e]
      have tz : (nI t).toInt = (t : Int) := nI_toInt (by omega)
      by_cases q33_0 : nI t = 0
      · skip
        refine G_tbl (off := 123) (tgt := 156) 0 hk dL_law_33 (by rw [q33_0]; decide) (by decide) (by decide) (by rfl) (by decide) ?_
        exact la_rules hk hX hL hj (hend hj) hI
      · skip
        by_cases q33_1 : nI t = 1
        · skip
          refine G_tbl (off := 176) (tgt := 209) 1 hk dL_law_33 (by rw [q33_1]; decide) (by decide) (by decide) (by rfl) (by decide) ?_
          exact la_ofRule hk hX hL hj (hend hj) hI
        · skip
          by_cases q33_2 : nI t = 2
          · skip
            refine G_tbl (off := 209) (tgt := 242) 2 hk dL_law_33 (by rw [q33_2]; decide) (by decide) (by decide) (by rfl) (by decide) ?_
            exact la_number hk hX hL hj (hend hj) hI
          · skip
            by_cases q33_3 : nI t = 3
            · skip
              refine G_tbl (off := 242) (tgt := 275) 3 hk dL_law_33 (by rw [q33_3]; decide) (by decide) (by decide) (by rfl) (by decide) ?_
              exact la_insert hk hX hL hj (hend hj) hI
            · skip
              by_cases q33_4 : nI t = 4
              · skip
                refine G_tbl (off := 317) (tgt := 350) 4 hk dL_law_33 (by rw [q33_4]; decide) (by decide) (by decide) (by rfl) (by decide) ?_
                exact la_remove hk hX hL hj (hend hj) hI
              · skip
                by_cases q33_5 : nI t = 5
                · skip
                  refine G_tbl (off := 340) (tgt := 373) 5 hk dL_law_33 (by rw [q33_5]; decide) (by decide) (by decide) (by rfl) (by decide) ?_
                  exact la_swap hk hX hL hj (hend hj) hI
                · skip
                  by_cases q33_6 : nI t = 6
                  · skip
                    refine G_tbl (off := 363) (tgt := 396) 6 hk dL_law_33 (by rw [q33_6]; decide) (by decide) (by decide) (by rfl) (by decide) ?_
                    exact la_winner hk hX hL hj (hend hj) hI
                  · skip
                    by_cases q33_7 : nI t = 7
                    · skip
                      refine G_tbl (off := 386) (tgt := 419) 7 hk dL_law_33 (by rw [q33_7]; decide) (by decide) (by decide) (by rfl) (by decide) ?_
                      exact la_ask hk hX hL hj (hend hj) hI
                    · skip
                      by_cases q33_8 : nI t = 8
                      · skip
                        refine G_tbl (off := 419) (tgt := 452) 8 hk dL_law_33 (by rw [q33_8]; decide) (by decide) (by decide) (by rfl) (by decide) ?_
                        exact la_day hk hX hL hj (hend hj) hI
                      · skip
                        by_cases q33_9 : nI t = 9
                        · skip
                          refine G_tbl (off := 482) (tgt := 515) 9 hk dL_law_33 (by rw [q33_9]; decide) (by decide) (by decide) (by rfl) (by decide) ?_
                          exact la_ofRun hk hX hL hj (hend hj) hI
                        · skip
                          by_cases q33_10 : nI t = 10
                          · skip
                            refine G_tbl (off := 515) (tgt := 548) 10 hk dL_law_33 (by rw [q33_10]; decide) (by decide) (by decide) (by rfl) (by decide) ?_
                            exact la_whole hk hX hL hj (hend hj) hI
                          · skip
                            by_cases q33_11 : nI t = 11
                            · skip
                              refine G_tbl (off := 538) (tgt := 571) 11 hk dL_law_33 (by rw [q33_11]; decide) (by decide) (by decide) (by rfl) (by decide) ?_
                              exact la_reading hk hX hL hj (hend hj) hI
                            · skip
                              by_cases q33_12 : nI t = 12
                              · skip
                                refine G_tbl (off := 571) (tgt := 604) 12 hk dL_law_33 (by rw [q33_12]; decide) (by decide) (by decide) (by rfl) (by decide) ?_
                                exact la_back hk hX hL hj (hend hj) hI
                              · skip
                                by_cases q33_13 : nI t = 13
                                · skip
                                  refine G_tbl (off := 594) (tgt := 627) 13 hk dL_law_33 (by rw [q33_13]; decide) (by decide) (by decide) (by rfl) (by decide) ?_
                                  exact la_kinds hk hX hL hj (hend hj) hI
                                · skip
                                  by_cases q33_14 : nI t = 14
                                  · skip
                                    refine G_tbl (off := 617) (tgt := 650) 14 hk dL_law_33 (by rw [q33_14]; decide) (by decide) (by decide) (by rfl) (by decide) ?_
                                    exact la_numbers hk hX hL hj (hend hj) hI
                                  · skip
                                    by_cases q33_15 : nI t = 15
                                    · skip
                                      refine G_tbl (off := 640) (tgt := 673) 15 hk dL_law_33 (by rw [q33_15]; decide) (by decide) (by decide) (by rfl) (by decide) ?_
                                      exact la_odds hk hX hL hj (hend hj) hI
                                    · skip
                                      by_cases q33_16 : nI t = 16
                                      · skip
                                        refine G_tbl (off := 674) (tgt := 707) 16 hk dL_law_33 (by rw [q33_16]; decide) (by decide) (by decide) (by rfl) (by decide) ?_
                                        exact la_sheet hk hX hL hj (hend hj) hI
                                      · skip
                                        by_cases q33_17 : nI t = 17
                                        · skip
                                          refine G_tbl (off := 717) (tgt := 750) 17 hk dL_law_33 (by rw [q33_17]; decide) (by decide) (by decide) (by rfl) (by decide) ?_
                                          exact la_lose hk hX hL hj (hend hj) hI
                                        · skip
                                          by_cases q33_18 : nI t = 18
                                          · skip
                                            refine G_tbl (off := 740) (tgt := 773) 18 hk dL_law_33 (by rw [q33_18]; decide) (by decide) (by decide) (by rfl) (by decide) ?_
                                            exact la_put hk hX hL hj (hend hj) hI
                                          · skip
                                            by_cases q33_19 : nI t = 19
                                            · skip
                                              refine G_tbl (off := 783) (tgt := 816) 19 hk dL_law_33 (by rw [q33_19]; decide) (by decide) (by decide) (by rfl) (by decide) ?_
                                              exact la_cell hk hX hL hj (hend hj) hI
                                            · skip
                                              by_cases q33_20 : nI t = 20
                                              · skip
                                                refine G_tbl (off := 827) (tgt := 860) 20 hk dL_law_33 (by rw [q33_20]; decide) (by decide) (by decide) (by rfl) (by decide) ?_
                                                exact la_copy hk hX hL hj (hend hj) hI
                                              · skip
                                                by_cases q33_21 : nI t = 21
                                                · skip
                                                  refine G_tbl (off := 890) (tgt := 923) 21 hk dL_law_33 (by rw [q33_21]; decide) (by decide) (by decide) (by rfl) (by decide) ?_
                                                  exact la_tell hk hX hL hj (hend hj) hI
                                                · skip
                                                  by_cases q33_22 : nI t = 22
                                                  · skip
                                                    refine G_tbl (off := 913) (tgt := 946) 22 hk dL_law_33 (by rw [q33_22]; decide) (by decide) (by decide) (by rfl) (by decide) ?_
                                                    exact la_cite hk hX hL hj (hend hj) hI
                                                  · skip
                                                    by_cases q33_23 : nI t = 23
                                                    · skip
                                                      refine G_tbl (off := 936) (tgt := 969) 23 hk dL_law_33 (by rw [q33_23]; decide) (by decide) (by decide) (by rfl) (by decide) ?_
                                                      exact la_as hk hX hL hj (hend hj) hI
                                                    · skip
                                                      by_cases q33_24 : nI t = 24
                                                      · skip
                                                        refine G_tbl (off := 969) (tgt := 1002) 24 hk dL_law_33 (by rw [q33_24]; decide) (by decide) (by decide) (by rfl) (by decide) ?_
                                                        exact la_trace hk hX hL hj (hend hj) hI
                                                      · skip
                                                        by_cases q33_25 : nI t = 25
                                                        · skip
                                                          refine G_tbl (off := 982) (tgt := 1015) 25 hk dL_law_33 (by rw [q33_25]; decide) (by decide) (by decide) (by rfl) (by decide) ?_
                                                          exact la_fault hk hX hL hj (hend hj) hI
                                                        · skip
                                                          by_cases q33_26 : nI t = 26
                                                          · skip
                                                            refine G_tbl (off := 995) (tgt := 1028) 26 hk dL_law_33 (by rw [q33_26]; decide) (by decide) (by decide) (by rfl) (by decide) ?_
                                                            exact la_many hk hX hL hj (hend hj) hI
                                                          · skip
                                                            refine G_tableOut (tgt := 1051) hk dL_law_33 (by have a_0 := lv_neT (a := 0) q33_0 (by decide); have a_1 := lv_neT (a := 1) q33_1 (by decide); have a_2 := lv_neT (a := 2) q33_2 (by decide); have a_3 := lv_neT (a := 3) q33_3 (by decide); have a_4 := lv_neT (a := 4) q33_4 (by decide); have a_5 := lv_neT (a := 5) q33_5 (by decide); have a_6 := lv_neT (a := 6) q33_6 (by decide); have a_7 := lv_neT (a := 7) q33_7 (by decide); have a_8 := lv_neT (a := 8) q33_8 (by decide); have a_9 := lv_neT (a := 9) q33_9 (by decide); have a_10 := lv_neT (a := 10) q33_10 (by decide); have a_11 := lv_neT (a := 11) q33_11 (by decide); have a_12 := lv_neT (a := 12) q33_12 (by decide); have a_13 := lv_neT (a := 13) q33_13 (by decide); have a_14 := lv_neT (a := 14) q33_14 (by decide); have a_15 := lv_neT (a := 15) q33_15 (by decide); have a_16 := lv_neT (a := 16) q33_16 (by decide); have a_17 := lv_neT (a := 17) q33_17 (by decide); have a_18 := lv_neT (a := 18) q33_18 (by decide); have a_19 := lv_neT (a := 19) q33_19 (by decide); have a_20 := lv_neT (a := 20) q33_20 (by decide); have a_21 := lv_neT (a := 21) q33_21 (by decide); have a_22 := lv_neT (a := 22) q33_22 (by decide); have a_23 := lv_neT (a := 23) q33_23 (by decide); have a_24 := lv_neT (a := 24) q33_24 (by decide); have a_25 := lv_neT (a := 25) q33_25 (by decide); have a_26 := lv_neT (a := 26) q33_26 (by decide); omega) (by decide) ?_
                                                            exact hend hj _ hI
