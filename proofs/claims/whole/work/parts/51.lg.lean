set_option maxHeartbeats 4000000 in
set_option maxRecDepth 100000 in
theorem lg_star {l : Launch} {G : jG} {X : jX} {ws : va_W} {k n b N x m ix c1 s1 : Nat} {xs : Nat → Int32} {a1 : Int32} {po1 : Option Value → va_W → Prop} (B : jB0 l X 9 334 600000 7302250) (S : jS G X b N xs) (hN : N < 2 ^ 31) (hi : ix + 7 ≤ N) (e1 : xs (ix + 1) = a1) (hkc : k + c1 ≤ 600000) (hnc : n + s1 ≤ 7302250) (hx : ∃ (q : Nat) (fs : List Value), ws[q]? = some (x, .inr (7, fs))) (h1 : Mt l G yX7_star mX7_star 2 44 c1 s1 [.ref x, .int a1] ws po1) (h2 : ∀ v u, po1 v u → ∃ o : Int32, v = some (.int o) ∧ (∃ (q : Nat) (fs : List Value), u[q]? = some (m, .inr (8, fs))) ∧ ∃ po2 : Option Value → va_W → Prop, Mt l G yX8_star mX8_star 1 22 0 0 [.ref m, .int a1] u po2 ∧ ∀ v2 u2, po2 v2 u2 → v2 = some (.int o) ∧ J G X mL u2 (k + c1 + 0) (n + s1 + 0) 1421 [(0, .ref b), (1, .ref x), (2, .ref m), (3, .int (nI ix))] []) : J G X mL ws k n 188 [(0, .ref b), (1, .ref x), (2, .ref m), (3, .int (nI ix))] [] := by
  obtain ⟨q1, f1, hx⟩ := hx
  refine J.aload_n 1 dL_law_188 rfl ?_
  refine J.aload_n 0 dL_law_189 rfl ?_
  refine J.iload_n 3 dL_law_190 rfl ?_
  refine J.iconst (1 : Int32) dL_law_191 rfl ?_
  refine J.iadd dL_law_192 ?_
  refine J.topi (y := nI (ix + 1)) (nI_add ix 1) ?_
  refine J.sld S dL_law_193 rfl (by omega) hN e1 ?_
  refine J.callV0 q1 (ci := 7) (st := []) B h1 ml_L_13 mf_yX7_star mi_yX7_star rfl dL_law_194 hx rfl rfl rfl hkc hnc (fun v u hp => ?_)
  obtain ⟨o, rfl, ⟨q2, f2, hm⟩, po2, h3, h4⟩ := h2 v u hp
  show J G X mL _ _ _ 197 _ [.int o]
  refine J.aload_n 2 dL_law_197 rfl ?_
  refine J.aload_n 0 dL_law_198 rfl ?_
  refine J.iload_n 3 dL_law_199 rfl ?_
  refine J.iconst (1 : Int32) dL_law_200 rfl ?_
  refine J.iadd dL_law_201 ?_
  refine J.topi (y := nI (ix + 1)) (nI_add ix 1) ?_
  refine J.sld S dL_law_202 rfl (by omega) hN e1 ?_
  refine J.callV0 q2 (ci := 8) (st := [.int o]) B h3 ml_L_17 mf_yX8_star mi_yX8_star rfl dL_law_203 hm rfl rfl rfl (by omega) (by omega) (fun v2 u2 hp2 => ?_)
  obtain ⟨rfl, h5⟩ := h4 v2 u2 hp2
  show J G X mL _ _ _ 206 _ [.int o, .int o]
  refine J.icmp_eq dL_law_206 (fun _ => ?_) (fun z => absurd rfl z)
  exact h5
set_option maxHeartbeats 4000000 in
set_option maxRecDepth 100000 in
theorem lg_is {l : Launch} {G : jG} {X : jX} {ws : va_W} {k n b N x m ix c1 s1 : Nat} {xs : Nat → Int32} {a1 a2 : Int32} {po1 : Option Value → va_W → Prop} (B : jB0 l X 9 334 600000 7302250) (S : jS G X b N xs) (hN : N < 2 ^ 31) (hi : ix + 7 ≤ N) (e1 : xs (ix + 1) = a1) (e2 : xs (ix + 2) = a2) (hkc : k + c1 ≤ 600000) (hnc : n + s1 ≤ 7302250) (hx : ∃ (q : Nat) (fs : List Value), ws[q]? = some (x, .inr (7, fs))) (h1 : Mt l G yX7_is mX7_is 1 21 c1 s1 [.ref x, .int a1, .int a2] ws po1) (h2 : ∀ v u, po1 v u → ∃ o : Int32, v = some (.int o) ∧ (∃ (q : Nat) (fs : List Value), u[q]? = some (m, .inr (8, fs))) ∧ ∃ po2 : Option Value → va_W → Prop, Mt l G yX8_is mX8_is 2 43 0 0 [.ref m, .int a1, .int a2] u po2 ∧ ∀ v2 u2, po2 v2 u2 → v2 = some (.int o) ∧ J G X mL u2 (k + c1 + 0) (n + s1 + 0) 1421 [(0, .ref b), (1, .ref x), (2, .ref m), (3, .int (nI ix))] []) : J G X mL ws k n 211 [(0, .ref b), (1, .ref x), (2, .ref m), (3, .int (nI ix))] [] := by
  obtain ⟨q1, f1, hx⟩ := hx
  refine J.aload_n 1 dL_law_211 rfl ?_
  refine J.aload_n 0 dL_law_212 rfl ?_
  refine J.iload_n 3 dL_law_213 rfl ?_
  refine J.iconst (1 : Int32) dL_law_214 rfl ?_
  refine J.iadd dL_law_215 ?_
  refine J.topi (y := nI (ix + 1)) (nI_add ix 1) ?_
  refine J.sld S dL_law_216 rfl (by omega) hN e1 ?_
  refine J.aload_n 0 dL_law_217 rfl ?_
  refine J.iload_n 3 dL_law_218 rfl ?_
  refine J.iconst (2 : Int32) dL_law_219 rfl ?_
  refine J.iadd dL_law_220 ?_
  refine J.topi (y := nI (ix + 2)) (nI_add ix 2) ?_
  refine J.sld S dL_law_221 rfl (by omega) hN e2 ?_
  refine J.callV0 q1 (ci := 7) (st := []) B h1 ml_L_18 mf_yX7_is mi_yX7_is rfl dL_law_222 hx rfl rfl rfl hkc hnc (fun v u hp => ?_)
  obtain ⟨o, rfl, ⟨q2, f2, hm⟩, po2, h3, h4⟩ := h2 v u hp
  show J G X mL _ _ _ 225 _ [.int o]
  refine J.aload_n 2 dL_law_225 rfl ?_
  refine J.aload_n 0 dL_law_226 rfl ?_
  refine J.iload_n 3 dL_law_227 rfl ?_
  refine J.iconst (1 : Int32) dL_law_228 rfl ?_
  refine J.iadd dL_law_229 ?_
  refine J.topi (y := nI (ix + 1)) (nI_add ix 1) ?_
  refine J.sld S dL_law_230 rfl (by omega) hN e1 ?_
  refine J.aload_n 0 dL_law_231 rfl ?_
  refine J.iload_n 3 dL_law_232 rfl ?_
  refine J.iconst (2 : Int32) dL_law_233 rfl ?_
  refine J.iadd dL_law_234 ?_
  refine J.topi (y := nI (ix + 2)) (nI_add ix 2) ?_
  refine J.sld S dL_law_235 rfl (by omega) hN e2 ?_
  refine J.callV0 q2 (ci := 8) (st := [.int o]) B h3 ml_L_22 mf_yX8_is mi_yX8_is rfl dL_law_236 hm rfl rfl rfl (by omega) (by omega) (fun v2 u2 hp2 => ?_)
  obtain ⟨rfl, h5⟩ := h4 v2 u2 hp2
  show J G X mL _ _ _ 239 _ [.int o, .int o]
  refine J.icmp_eq dL_law_239 (fun _ => ?_) (fun z => absurd rfl z)
  exact h5
set_option maxHeartbeats 4000000 in
set_option maxRecDepth 100000 in
theorem lg_mark {l : Launch} {G : jG} {X : jX} {ws : va_W} {k n b N x m ix c1 s1 : Nat} {xs : Nat → Int32} {a1 a2 : Int32} {po1 : Option Value → va_W → Prop} (B : jB0 l X 9 334 600000 7302250) (S : jS G X b N xs) (hN : N < 2 ^ 31) (hi : ix + 7 ≤ N) (e1 : xs (ix + 1) = a1) (e2 : xs (ix + 2) = a2) (hkc : k + c1 ≤ 600000) (hnc : n + s1 ≤ 7302250) (hx : ∃ (q : Nat) (fs : List Value), ws[q]? = some (x, .inr (7, fs))) (h1 : Mt l G yX7_mark mX7_mark 4 85 c1 s1 [.ref x, .int a1, .int a2] ws po1) (h2 : ∀ v u, po1 v u → ∃ o : Int32, v = some (.int o) ∧ (∃ (q : Nat) (fs : List Value), u[q]? = some (m, .inr (8, fs))) ∧ ∃ po2 : Option Value → va_W → Prop, Mt l G yX8_mark mX8_mark 3 74 0 0 [.ref m, .int a1, .int a2] u po2 ∧ ∀ v2 u2, po2 v2 u2 → v2 = some (.int o) ∧ J G X mL u2 (k + c1 + 0) (n + s1 + 0) 1421 [(0, .ref b), (1, .ref x), (2, .ref m), (3, .int (nI ix))] []) : J G X mL ws k n 244 [(0, .ref b), (1, .ref x), (2, .ref m), (3, .int (nI ix))] [] := by
  obtain ⟨q1, f1, hx⟩ := hx
  refine J.aload_n 1 dL_law_244 rfl ?_
  refine J.aload_n 0 dL_law_245 rfl ?_
  refine J.iload_n 3 dL_law_246 rfl ?_
  refine J.iconst (1 : Int32) dL_law_247 rfl ?_
  refine J.iadd dL_law_248 ?_
  refine J.topi (y := nI (ix + 1)) (nI_add ix 1) ?_
  refine J.sld S dL_law_249 rfl (by omega) hN e1 ?_
  refine J.aload_n 0 dL_law_250 rfl ?_
  refine J.iload_n 3 dL_law_251 rfl ?_
  refine J.iconst (2 : Int32) dL_law_252 rfl ?_
  refine J.iadd dL_law_253 ?_
  refine J.topi (y := nI (ix + 2)) (nI_add ix 2) ?_
  refine J.sld S dL_law_254 rfl (by omega) hN e2 ?_
  refine J.callV0 q1 (ci := 7) (st := []) B h1 ml_L_23 mf_yX7_mark mi_yX7_mark rfl dL_law_255 hx rfl rfl rfl hkc hnc (fun v u hp => ?_)
  obtain ⟨o, rfl, ⟨q2, f2, hm⟩, po2, h3, h4⟩ := h2 v u hp
  show J G X mL _ _ _ 258 _ [.int o]
  refine J.aload_n 2 dL_law_258 rfl ?_
  refine J.aload_n 0 dL_law_259 rfl ?_
  refine J.iload_n 3 dL_law_260 rfl ?_
  refine J.iconst (1 : Int32) dL_law_261 rfl ?_
  refine J.iadd dL_law_262 ?_
  refine J.topi (y := nI (ix + 1)) (nI_add ix 1) ?_
  refine J.sld S dL_law_263 rfl (by omega) hN e1 ?_
  refine J.aload_n 0 dL_law_264 rfl ?_
  refine J.iload_n 3 dL_law_265 rfl ?_
  refine J.iconst (2 : Int32) dL_law_266 rfl ?_
  refine J.iadd dL_law_267 ?_
  refine J.topi (y := nI (ix + 2)) (nI_add ix 2) ?_
  refine J.sld S dL_law_268 rfl (by omega) hN e2 ?_
  refine J.callV0 q2 (ci := 8) (st := [.int o]) B h3 ml_L_26 mf_yX8_mark mi_yX8_mark rfl dL_law_269 hm rfl rfl rfl (by omega) (by omega) (fun v2 u2 hp2 => ?_)
  obtain ⟨rfl, h5⟩ := h4 v2 u2 hp2
  show J G X mL _ _ _ 272 _ [.int o, .int o]
  refine J.icmp_eq dL_law_272 (fun _ => ?_) (fun z => absurd rfl z)
  exact h5
set_option maxHeartbeats 4000000 in
set_option maxRecDepth 100000 in
theorem lg_row {l : Launch} {G : jG} {X : jX} {ws : va_W} {k n b N x m ix c1 s1 : Nat} {xs : Nat → Int32} {a1 : Int32} {po1 : Option Value → va_W → Prop} (B : jB0 l X 9 334 600000 7302250) (S : jS G X b N xs) (hN : N < 2 ^ 31) (hi : ix + 7 ≤ N) (e1 : xs (ix + 1) = a1) (hkc : k + c1 ≤ 600000) (hnc : n + s1 ≤ 7302250) (hx : ∃ (q : Nat) (fs : List Value), ws[q]? = some (x, .inr (7, fs))) (h1 : Mt l G yX7_row mX7_row 2 44 c1 s1 [.ref x, .int a1] ws po1) (h2 : ∀ v u, po1 v u → ∃ o : Int32, v = some (.int o) ∧ (∃ (q : Nat) (fs : List Value), u[q]? = some (m, .inr (8, fs))) ∧ ∃ po2 : Option Value → va_W → Prop, Mt l G yX8_row mX8_row 2 43 0 0 [.ref m, .int a1] u po2 ∧ ∀ v2 u2, po2 v2 u2 → v2 = some (.int o) ∧ J G X mL u2 (k + c1 + 0) (n + s1 + 0) 1421 [(0, .ref b), (1, .ref x), (2, .ref m), (3, .int (nI ix))] []) : J G X mL ws k n 277 [(0, .ref b), (1, .ref x), (2, .ref m), (3, .int (nI ix))] [] := by
  obtain ⟨q1, f1, hx⟩ := hx
  refine J.aload_n 1 dL_law_277 rfl ?_
  refine J.aload_n 0 dL_law_278 rfl ?_
  refine J.iload_n 3 dL_law_279 rfl ?_
  refine J.iconst (1 : Int32) dL_law_280 rfl ?_
  refine J.iadd dL_law_281 ?_
  refine J.topi (y := nI (ix + 1)) (nI_add ix 1) ?_
  refine J.sld S dL_law_282 rfl (by omega) hN e1 ?_
  refine J.callV0 q1 (ci := 7) (st := []) B h1 ml_L_27 mf_yX7_row mi_yX7_row rfl dL_law_283 hx rfl rfl rfl hkc hnc (fun v u hp => ?_)
  obtain ⟨o, rfl, ⟨q2, f2, hm⟩, po2, h3, h4⟩ := h2 v u hp
  show J G X mL _ _ _ 286 _ [.int o]
  refine J.aload_n 2 dL_law_286 rfl ?_
  refine J.aload_n 0 dL_law_287 rfl ?_
  refine J.iload_n 3 dL_law_288 rfl ?_
  refine J.iconst (1 : Int32) dL_law_289 rfl ?_
  refine J.iadd dL_law_290 ?_
  refine J.topi (y := nI (ix + 1)) (nI_add ix 1) ?_
  refine J.sld S dL_law_291 rfl (by omega) hN e1 ?_
  refine J.callV0 q2 (ci := 8) (st := [.int o]) B h3 ml_L_30 mf_yX8_row mi_yX8_row rfl dL_law_292 hm rfl rfl rfl (by omega) (by omega) (fun v2 u2 hp2 => ?_)
  obtain ⟨rfl, h5⟩ := h4 v2 u2 hp2
  show J G X mL _ _ _ 295 _ [.int o, .int o]
  refine J.icmp_eq dL_law_295 (fun _ => ?_) (fun z => absurd rfl z)
  exact h5
set_option maxHeartbeats 4000000 in
set_option maxRecDepth 100000 in
theorem lg_lay {l : Launch} {G : jG} {X : jX} {ws : va_W} {k n b N x m ix c1 s1 : Nat} {xs : Nat → Int32} {a1 a2 a3 : Int32} {po1 : Option Value → va_W → Prop} (B : jB0 l X 9 334 600000 7302250) (S : jS G X b N xs) (hN : N < 2 ^ 31) (hi : ix + 7 ≤ N) (e1 : xs (ix + 1) = a1) (e2 : xs (ix + 2) = a2) (e3 : xs (ix + 3) = a3) (hkc : k + c1 ≤ 600000) (hnc : n + s1 ≤ 7302250) (hx : ∃ (q : Nat) (fs : List Value), ws[q]? = some (x, .inr (7, fs))) (h1 : Mt l G yX7_lay mX7_lay 3 66 c1 s1 [.ref x, .int a1, .int a2, .int a3] ws po1) (h2 : ∀ v u, po1 v u → ∃ o : Int32, v = some (.int o) ∧ (∃ (q : Nat) (fs : List Value), u[q]? = some (m, .inr (8, fs))) ∧ ∃ po2 : Option Value → va_W → Prop, Mt l G yX8_lay mX8_lay 3 64 0 0 [.ref m, .int a1, .int a2, .int a3] u po2 ∧ ∀ v2 u2, po2 v2 u2 → v2 = some (.int o) ∧ J G X mL u2 (k + c1 + 0) (n + s1 + 0) 1421 [(0, .ref b), (1, .ref x), (2, .ref m), (3, .int (nI ix))] []) : J G X mL ws k n 300 [(0, .ref b), (1, .ref x), (2, .ref m), (3, .int (nI ix))] [] := by
  obtain ⟨q1, f1, hx⟩ := hx
  refine J.aload_n 1 dL_law_300 rfl ?_
  refine J.aload_n 0 dL_law_301 rfl ?_
  refine J.iload_n 3 dL_law_302 rfl ?_
  refine J.iconst (1 : Int32) dL_law_303 rfl ?_
  refine J.iadd dL_law_304 ?_
  refine J.topi (y := nI (ix + 1)) (nI_add ix 1) ?_
  refine J.sld S dL_law_305 rfl (by omega) hN e1 ?_
  refine J.aload_n 0 dL_law_306 rfl ?_
  refine J.iload_n 3 dL_law_307 rfl ?_
  refine J.iconst (2 : Int32) dL_law_308 rfl ?_
  refine J.iadd dL_law_309 ?_
  refine J.topi (y := nI (ix + 2)) (nI_add ix 2) ?_
  refine J.sld S dL_law_310 rfl (by omega) hN e2 ?_
  refine J.aload_n 0 dL_law_311 rfl ?_
  refine J.iload_n 3 dL_law_312 rfl ?_
  refine J.iconst (3 : Int32) dL_law_313 rfl ?_
  refine J.iadd dL_law_314 ?_
  refine J.topi (y := nI (ix + 3)) (nI_add ix 3) ?_
  refine J.sld S dL_law_315 rfl (by omega) hN e3 ?_
  refine J.callV0 q1 (ci := 7) (st := []) B h1 ml_L_31 mf_yX7_lay mi_yX7_lay rfl dL_law_316 hx rfl rfl rfl hkc hnc (fun v u hp => ?_)
  obtain ⟨o, rfl, ⟨q2, f2, hm⟩, po2, h3, h4⟩ := h2 v u hp
  show J G X mL _ _ _ 319 _ [.int o]
  refine J.aload_n 2 dL_law_319 rfl ?_
  refine J.aload_n 0 dL_law_320 rfl ?_
  refine J.iload_n 3 dL_law_321 rfl ?_
  refine J.iconst (1 : Int32) dL_law_322 rfl ?_
  refine J.iadd dL_law_323 ?_
  refine J.topi (y := nI (ix + 1)) (nI_add ix 1) ?_
  refine J.sld S dL_law_324 rfl (by omega) hN e1 ?_
  refine J.aload_n 0 dL_law_325 rfl ?_
  refine J.iload_n 3 dL_law_326 rfl ?_
  refine J.iconst (2 : Int32) dL_law_327 rfl ?_
  refine J.iadd dL_law_328 ?_
  refine J.topi (y := nI (ix + 2)) (nI_add ix 2) ?_
  refine J.sld S dL_law_329 rfl (by omega) hN e2 ?_
  refine J.aload_n 0 dL_law_330 rfl ?_
  refine J.iload_n 3 dL_law_331 rfl ?_
  refine J.iconst (3 : Int32) dL_law_332 rfl ?_
  refine J.iadd dL_law_333 ?_
  refine J.topi (y := nI (ix + 3)) (nI_add ix 3) ?_
  refine J.sld S dL_law_334 rfl (by omega) hN e3 ?_
  refine J.callV0 q2 (ci := 8) (st := [.int o]) B h3 ml_L_35 mf_yX8_lay mi_yX8_lay rfl dL_law_335 hm rfl rfl rfl (by omega) (by omega) (fun v2 u2 hp2 => ?_)
  obtain ⟨rfl, h5⟩ := h4 v2 u2 hp2
  show J G X mL _ _ _ 338 _ [.int o, .int o]
  refine J.icmp_eq dL_law_338 (fun _ => ?_) (fun z => absurd rfl z)
  exact h5
set_option maxHeartbeats 4000000 in
set_option maxRecDepth 100000 in
theorem lg_at {l : Launch} {G : jG} {X : jX} {ws : va_W} {k n b N x m ix c1 s1 : Nat} {xs : Nat → Int32} {a1 a2 : Int32} {po1 : Option Value → va_W → Prop} (B : jB0 l X 9 334 600000 7302250) (S : jS G X b N xs) (hN : N < 2 ^ 31) (hi : ix + 7 ≤ N) (e1 : xs (ix + 1) = a1) (e2 : xs (ix + 2) = a2) (hkc : k + c1 ≤ 600000) (hnc : n + s1 ≤ 7302250) (hx : ∃ (q : Nat) (fs : List Value), ws[q]? = some (x, .inr (7, fs))) (h1 : Mt l G yX7_at mX7_at 3 66 c1 s1 [.ref x, .int a1, .int a2] ws po1) (h2 : ∀ v u, po1 v u → ∃ o : Int32, v = some (.int o) ∧ (∃ (q : Nat) (fs : List Value), u[q]? = some (m, .inr (8, fs))) ∧ ∃ po2 : Option Value → va_W → Prop, Mt l G yX8_at mX8_at 3 64 0 0 [.ref m, .int a1, .int a2] u po2 ∧ ∀ v2 u2, po2 v2 u2 → v2 = some (.int o) ∧ J G X mL u2 (k + c1 + 0) (n + s1 + 0) 1421 [(0, .ref b), (1, .ref x), (2, .ref m), (3, .int (nI ix))] []) : J G X mL ws k n 343 [(0, .ref b), (1, .ref x), (2, .ref m), (3, .int (nI ix))] [] := by
  obtain ⟨q1, f1, hx⟩ := hx
  refine J.aload_n 1 dL_law_343 rfl ?_
  refine J.aload_n 0 dL_law_344 rfl ?_
  refine J.iload_n 3 dL_law_345 rfl ?_
  refine J.iconst (1 : Int32) dL_law_346 rfl ?_
  refine J.iadd dL_law_347 ?_
  refine J.topi (y := nI (ix + 1)) (nI_add ix 1) ?_
  refine J.sld S dL_law_348 rfl (by omega) hN e1 ?_
  refine J.aload_n 0 dL_law_349 rfl ?_
  refine J.iload_n 3 dL_law_350 rfl ?_
  refine J.iconst (2 : Int32) dL_law_351 rfl ?_
  refine J.iadd dL_law_352 ?_
  refine J.topi (y := nI (ix + 2)) (nI_add ix 2) ?_
  refine J.sld S dL_law_353 rfl (by omega) hN e2 ?_
  refine J.callV0 q1 (ci := 7) (st := []) B h1 ml_L_36 mf_yX7_at mi_yX7_at rfl dL_law_354 hx rfl rfl rfl hkc hnc (fun v u hp => ?_)
  obtain ⟨o, rfl, ⟨q2, f2, hm⟩, po2, h3, h4⟩ := h2 v u hp
  show J G X mL _ _ _ 357 _ [.int o]
  refine J.aload_n 2 dL_law_357 rfl ?_
  refine J.aload_n 0 dL_law_358 rfl ?_
  refine J.iload_n 3 dL_law_359 rfl ?_
  refine J.iconst (1 : Int32) dL_law_360 rfl ?_
  refine J.iadd dL_law_361 ?_
  refine J.topi (y := nI (ix + 1)) (nI_add ix 1) ?_
  refine J.sld S dL_law_362 rfl (by omega) hN e1 ?_
  refine J.aload_n 0 dL_law_363 rfl ?_
  refine J.iload_n 3 dL_law_364 rfl ?_
  refine J.iconst (2 : Int32) dL_law_365 rfl ?_
  refine J.iadd dL_law_366 ?_
  refine J.topi (y := nI (ix + 2)) (nI_add ix 2) ?_
  refine J.sld S dL_law_367 rfl (by omega) hN e2 ?_
  refine J.callV0 q2 (ci := 8) (st := [.int o]) B h3 ml_L_39 mf_yX8_at mi_yX8_at rfl dL_law_368 hm rfl rfl rfl (by omega) (by omega) (fun v2 u2 hp2 => ?_)
  obtain ⟨rfl, h5⟩ := h4 v2 u2 hp2
  show J G X mL _ _ _ 371 _ [.int o, .int o]
  refine J.icmp_eq dL_law_371 (fun _ => ?_) (fun z => absurd rfl z)
  exact h5
set_option maxHeartbeats 4000000 in
set_option maxRecDepth 100000 in
theorem lg_light {l : Launch} {G : jG} {X : jX} {ws : va_W} {k n b N x m ix c1 s1 : Nat} {xs : Nat → Int32} {a1 a2 : Int32} {po1 : Option Value → va_W → Prop} (B : jB0 l X 9 334 600000 7302250) (S : jS G X b N xs) (hN : N < 2 ^ 31) (hi : ix + 7 ≤ N) (e1 : xs (ix + 1) = a1) (e2 : xs (ix + 2) = a2) (hkc : k + c1 ≤ 600000) (hnc : n + s1 ≤ 7302250) (hx : ∃ (q : Nat) (fs : List Value), ws[q]? = some (x, .inr (7, fs))) (h1 : Mt l G yX7_light mX7_light 3 66 c1 s1 [.ref x, .int a1, .int a2] ws po1) (h2 : ∀ v u, po1 v u → ∃ o : Int32, v = some (.int o) ∧ (∃ (q : Nat) (fs : List Value), u[q]? = some (m, .inr (8, fs))) ∧ ∃ po2 : Option Value → va_W → Prop, Mt l G yX8_light mX8_light 3 64 0 0 [.ref m, .int a1, .int a2] u po2 ∧ ∀ v2 u2, po2 v2 u2 → v2 = some (.int o) ∧ J G X mL u2 (k + c1 + 0) (n + s1 + 0) 1421 [(0, .ref b), (1, .ref x), (2, .ref m), (3, .int (nI ix))] []) : J G X mL ws k n 376 [(0, .ref b), (1, .ref x), (2, .ref m), (3, .int (nI ix))] [] := by
  obtain ⟨q1, f1, hx⟩ := hx
  refine J.aload_n 1 dL_law_376 rfl ?_
  refine J.aload_n 0 dL_law_377 rfl ?_
  refine J.iload_n 3 dL_law_378 rfl ?_
  refine J.iconst (1 : Int32) dL_law_379 rfl ?_
  refine J.iadd dL_law_380 ?_
  refine J.topi (y := nI (ix + 1)) (nI_add ix 1) ?_
  refine J.sld S dL_law_381 rfl (by omega) hN e1 ?_
  refine J.aload_n 0 dL_law_382 rfl ?_
  refine J.iload_n 3 dL_law_383 rfl ?_
  refine J.iconst (2 : Int32) dL_law_384 rfl ?_
  refine J.iadd dL_law_385 ?_
  refine J.topi (y := nI (ix + 2)) (nI_add ix 2) ?_
  refine J.sld S dL_law_386 rfl (by omega) hN e2 ?_
  refine J.callV0 q1 (ci := 7) (st := []) B h1 ml_L_40 mf_yX7_light mi_yX7_light rfl dL_law_387 hx rfl rfl rfl hkc hnc (fun v u hp => ?_)
  obtain ⟨o, rfl, ⟨q2, f2, hm⟩, po2, h3, h4⟩ := h2 v u hp
  show J G X mL _ _ _ 390 _ [.int o]
  refine J.aload_n 2 dL_law_390 rfl ?_
  refine J.aload_n 0 dL_law_391 rfl ?_
  refine J.iload_n 3 dL_law_392 rfl ?_
  refine J.iconst (1 : Int32) dL_law_393 rfl ?_
  refine J.iadd dL_law_394 ?_
  refine J.topi (y := nI (ix + 1)) (nI_add ix 1) ?_
  refine J.sld S dL_law_395 rfl (by omega) hN e1 ?_
  refine J.aload_n 0 dL_law_396 rfl ?_
  refine J.iload_n 3 dL_law_397 rfl ?_
  refine J.iconst (2 : Int32) dL_law_398 rfl ?_
  refine J.iadd dL_law_399 ?_
  refine J.topi (y := nI (ix + 2)) (nI_add ix 2) ?_
  refine J.sld S dL_law_400 rfl (by omega) hN e2 ?_
  refine J.callV0 q2 (ci := 8) (st := [.int o]) B h3 ml_L_43 mf_yX8_light mi_yX8_light rfl dL_law_401 hm rfl rfl rfl (by omega) (by omega) (fun v2 u2 hp2 => ?_)
  obtain ⟨rfl, h5⟩ := h4 v2 u2 hp2
  show J G X mL _ _ _ 404 _ [.int o, .int o]
  refine J.icmp_eq dL_law_404 (fun _ => ?_) (fun z => absurd rfl z)
  exact h5
set_option maxHeartbeats 4000000 in
set_option maxRecDepth 100000 in
theorem lg_tear {l : Launch} {G : jG} {X : jX} {ws : va_W} {k n b N x m ix c1 s1 : Nat} {xs : Nat → Int32} {a1 : Int32} {po1 : Option Value → va_W → Prop} (B : jB0 l X 9 334 600000 7302250) (S : jS G X b N xs) (hN : N < 2 ^ 31) (hi : ix + 7 ≤ N) (e1 : xs (ix + 1) = a1) (hkc : k + c1 ≤ 600000) (hnc : n + s1 ≤ 7302250) (hx : ∃ (q : Nat) (fs : List Value), ws[q]? = some (x, .inr (7, fs))) (h1 : Mt l G yX7_tear mX7_tear 2 44 c1 s1 [.ref x, .int a1] ws po1) (h2 : ∀ v u, po1 v u → ∃ o : Int32, v = some (.int o) ∧ (∃ (q : Nat) (fs : List Value), u[q]? = some (m, .inr (8, fs))) ∧ ∃ po2 : Option Value → va_W → Prop, Mt l G yX8_tear mX8_tear 3 64 0 0 [.ref m, .int a1] u po2 ∧ ∀ v2 u2, po2 v2 u2 → v2 = some (.int o) ∧ J G X mL u2 (k + c1 + 0) (n + s1 + 0) 1421 [(0, .ref b), (1, .ref x), (2, .ref m), (3, .int (nI ix))] []) : J G X mL ws k n 409 [(0, .ref b), (1, .ref x), (2, .ref m), (3, .int (nI ix))] [] := by
  obtain ⟨q1, f1, hx⟩ := hx
  refine J.aload_n 1 dL_law_409 rfl ?_
  refine J.aload_n 0 dL_law_410 rfl ?_
  refine J.iload_n 3 dL_law_411 rfl ?_
  refine J.iconst (1 : Int32) dL_law_412 rfl ?_
  refine J.iadd dL_law_413 ?_
  refine J.topi (y := nI (ix + 1)) (nI_add ix 1) ?_
  refine J.sld S dL_law_414 rfl (by omega) hN e1 ?_
  refine J.callV0 q1 (ci := 7) (st := []) B h1 ml_L_44 mf_yX7_tear mi_yX7_tear rfl dL_law_415 hx rfl rfl rfl hkc hnc (fun v u hp => ?_)
  obtain ⟨o, rfl, ⟨q2, f2, hm⟩, po2, h3, h4⟩ := h2 v u hp
  show J G X mL _ _ _ 418 _ [.int o]
  refine J.aload_n 2 dL_law_418 rfl ?_
  refine J.aload_n 0 dL_law_419 rfl ?_
  refine J.iload_n 3 dL_law_420 rfl ?_
  refine J.iconst (1 : Int32) dL_law_421 rfl ?_
  refine J.iadd dL_law_422 ?_
  refine J.topi (y := nI (ix + 1)) (nI_add ix 1) ?_
  refine J.sld S dL_law_423 rfl (by omega) hN e1 ?_
  refine J.callV0 q2 (ci := 8) (st := [.int o]) B h3 ml_L_47 mf_yX8_tear mi_yX8_tear rfl dL_law_424 hm rfl rfl rfl (by omega) (by omega) (fun v2 u2 hp2 => ?_)
  obtain ⟨rfl, h5⟩ := h4 v2 u2 hp2
  show J G X mL _ _ _ 427 _ [.int o, .int o]
  refine J.icmp_eq dL_law_427 (fun _ => ?_) (fun z => absurd rfl z)
  exact h5
set_option maxHeartbeats 4000000 in
set_option maxRecDepth 100000 in
theorem lg_copy {l : Launch} {G : jG} {X : jX} {ws : va_W} {k n b N x m ix c1 s1 : Nat} {xs : Nat → Int32} {a1 a2 a3 a4 a5 : Int32} {po1 : Option Value → va_W → Prop} (B : jB0 l X 9 334 600000 7302250) (S : jS G X b N xs) (hN : N < 2 ^ 31) (hi : ix + 7 ≤ N) (e1 : xs (ix + 1) = a1) (e2 : xs (ix + 2) = a2) (e3 : xs (ix + 3) = a3) (e4 : xs (ix + 4) = a4) (e5 : xs (ix + 5) = a5) (hkc : k + c1 ≤ 600000) (hnc : n + s1 ≤ 7302250) (hx : ∃ (q : Nat) (fs : List Value), ws[q]? = some (x, .inr (7, fs))) (h1 : Mt l G yX7_copy mX7_copy 1 40 c1 s1 [.ref x, .int a1, .int a2, .int a3, .int a4, .int a5] ws po1) (h2 : ∀ v u, po1 v u → ∃ o : Int32, v = some (.int o) ∧ (∃ (q : Nat) (fs : List Value), u[q]? = some (m, .inr (8, fs))) ∧ ∃ po2 : Option Value → va_W → Prop, Mt l G yX8_copy mX8_copy 2 43 0 0 [.ref m, .int a1, .int a2, .int a3, .int a4, .int a5] u po2 ∧ ∀ v2 u2, po2 v2 u2 → v2 = some (.int o) ∧ J G X mL u2 (k + c1 + 0) (n + s1 + 0) 1421 [(0, .ref b), (1, .ref x), (2, .ref m), (3, .int (nI ix))] []) : J G X mL ws k n 432 [(0, .ref b), (1, .ref x), (2, .ref m), (3, .int (nI ix))] [] := by
  obtain ⟨q1, f1, hx⟩ := hx
  refine J.aload_n 1 dL_law_432 rfl ?_
  refine J.aload_n 0 dL_law_433 rfl ?_
  refine J.iload_n 3 dL_law_434 rfl ?_
  refine J.iconst (1 : Int32) dL_law_435 rfl ?_
  refine J.iadd dL_law_436 ?_
  refine J.topi (y := nI (ix + 1)) (nI_add ix 1) ?_
  refine J.sld S dL_law_437 rfl (by omega) hN e1 ?_
  refine J.aload_n 0 dL_law_438 rfl ?_
  refine J.iload_n 3 dL_law_439 rfl ?_
  refine J.iconst (2 : Int32) dL_law_440 rfl ?_
  refine J.iadd dL_law_441 ?_
  refine J.topi (y := nI (ix + 2)) (nI_add ix 2) ?_
  refine J.sld S dL_law_442 rfl (by omega) hN e2 ?_
  refine J.aload_n 0 dL_law_443 rfl ?_
  refine J.iload_n 3 dL_law_444 rfl ?_
  refine J.iconst (3 : Int32) dL_law_445 rfl ?_
  refine J.iadd dL_law_446 ?_
  refine J.topi (y := nI (ix + 3)) (nI_add ix 3) ?_
  refine J.sld S dL_law_447 rfl (by omega) hN e3 ?_
  refine J.aload_n 0 dL_law_448 rfl ?_
  refine J.iload_n 3 dL_law_449 rfl ?_
  refine J.iconst (4 : Int32) dL_law_450 rfl ?_
  refine J.iadd dL_law_451 ?_
  refine J.topi (y := nI (ix + 4)) (nI_add ix 4) ?_
  refine J.sld S dL_law_452 rfl (by omega) hN e4 ?_
  refine J.aload_n 0 dL_law_453 rfl ?_
  refine J.iload_n 3 dL_law_454 rfl ?_
  refine J.iconst (5 : Int32) dL_law_455 rfl ?_
  refine J.iadd dL_law_456 ?_
  refine J.topi (y := nI (ix + 5)) (nI_add ix 5) ?_
  refine J.sld S dL_law_457 rfl (by omega) hN e5 ?_
  refine J.callV0 q1 (ci := 7) (st := []) B h1 ml_L_48 mf_yX7_copy mi_yX7_copy rfl dL_law_458 hx rfl rfl rfl hkc hnc (fun v u hp => ?_)
  obtain ⟨o, rfl, ⟨q2, f2, hm⟩, po2, h3, h4⟩ := h2 v u hp
  show J G X mL _ _ _ 461 _ [.int o]
  refine J.aload_n 2 dL_law_461 rfl ?_
  refine J.aload_n 0 dL_law_462 rfl ?_
  refine J.iload_n 3 dL_law_463 rfl ?_
  refine J.iconst (1 : Int32) dL_law_464 rfl ?_
  refine J.iadd dL_law_465 ?_
  refine J.topi (y := nI (ix + 1)) (nI_add ix 1) ?_
  refine J.sld S dL_law_466 rfl (by omega) hN e1 ?_
  refine J.aload_n 0 dL_law_467 rfl ?_
  refine J.iload_n 3 dL_law_468 rfl ?_
  refine J.iconst (2 : Int32) dL_law_469 rfl ?_
  refine J.iadd dL_law_470 ?_
  refine J.topi (y := nI (ix + 2)) (nI_add ix 2) ?_
  refine J.sld S dL_law_471 rfl (by omega) hN e2 ?_
  refine J.aload_n 0 dL_law_472 rfl ?_
  refine J.iload_n 3 dL_law_473 rfl ?_
  refine J.iconst (3 : Int32) dL_law_474 rfl ?_
  refine J.iadd dL_law_475 ?_
  refine J.topi (y := nI (ix + 3)) (nI_add ix 3) ?_
  refine J.sld S dL_law_476 rfl (by omega) hN e3 ?_
  refine J.aload_n 0 dL_law_477 rfl ?_
  refine J.iload_n 3 dL_law_478 rfl ?_
  refine J.iconst (4 : Int32) dL_law_479 rfl ?_
  refine J.iadd dL_law_480 ?_
  refine J.topi (y := nI (ix + 4)) (nI_add ix 4) ?_
  refine J.sld S dL_law_481 rfl (by omega) hN e4 ?_
  refine J.aload_n 0 dL_law_482 rfl ?_
  refine J.iload_n 3 dL_law_483 rfl ?_
  refine J.iconst (5 : Int32) dL_law_484 rfl ?_
  refine J.iadd dL_law_485 ?_
  refine J.topi (y := nI (ix + 5)) (nI_add ix 5) ?_
  refine J.sld S dL_law_486 rfl (by omega) hN e5 ?_
  refine J.callV0 q2 (ci := 8) (st := [.int o]) B h3 ml_L_52 mf_yX8_copy mi_yX8_copy rfl dL_law_487 hm rfl rfl rfl (by omega) (by omega) (fun v2 u2 hp2 => ?_)
  obtain ⟨rfl, h5⟩ := h4 v2 u2 hp2
  show J G X mL _ _ _ 490 _ [.int o, .int o]
  refine J.icmp_eq dL_law_490 (fun _ => ?_) (fun z => absurd rfl z)
  exact h5
set_option maxHeartbeats 4000000 in
set_option maxRecDepth 100000 in
theorem lg_foot {l : Launch} {G : jG} {X : jX} {ws : va_W} {k n b N x m ix c1 s1 : Nat} {xs : Nat → Int32} {a1 a2 : Int32} {po1 : Option Value → va_W → Prop} (B : jB0 l X 9 334 600000 7302250) (S : jS G X b N xs) (hN : N < 2 ^ 31) (hi : ix + 7 ≤ N) (e1 : xs (ix + 1) = a1) (e2 : xs (ix + 2) = a2) (hkc : k + c1 ≤ 600000) (hnc : n + s1 ≤ 7302250) (hx : ∃ (q : Nat) (fs : List Value), ws[q]? = some (x, .inr (7, fs))) (h1 : Mt l G yX7_foot mX7_foot 1 20 c1 s1 [.ref x, .int a1, .int a2] ws po1) (h2 : ∀ v u, po1 v u → ∃ o : Int32, v = some (.int o) ∧ (∃ (q : Nat) (fs : List Value), u[q]? = some (m, .inr (8, fs))) ∧ ∃ po2 : Option Value → va_W → Prop, Mt l G yX8_foot mX8_foot 2 42 0 0 [.ref m, .int a1, .int a2] u po2 ∧ ∀ v2 u2, po2 v2 u2 → v2 = some (.int o) ∧ J G X mL u2 (k + c1 + 0) (n + s1 + 0) 1421 [(0, .ref b), (1, .ref x), (2, .ref m), (3, .int (nI ix))] []) : J G X mL ws k n 495 [(0, .ref b), (1, .ref x), (2, .ref m), (3, .int (nI ix))] [] := by
  obtain ⟨q1, f1, hx⟩ := hx
  refine J.aload_n 1 dL_law_495 rfl ?_
  refine J.aload_n 0 dL_law_496 rfl ?_
  refine J.iload_n 3 dL_law_497 rfl ?_
  refine J.iconst (1 : Int32) dL_law_498 rfl ?_
  refine J.iadd dL_law_499 ?_
  refine J.topi (y := nI (ix + 1)) (nI_add ix 1) ?_
  refine J.sld S dL_law_500 rfl (by omega) hN e1 ?_
  refine J.aload_n 0 dL_law_501 rfl ?_
  refine J.iload_n 3 dL_law_502 rfl ?_
  refine J.iconst (2 : Int32) dL_law_503 rfl ?_
  refine J.iadd dL_law_504 ?_
  refine J.topi (y := nI (ix + 2)) (nI_add ix 2) ?_
  refine J.sld S dL_law_505 rfl (by omega) hN e2 ?_
  refine J.callV0 q1 (ci := 7) (st := []) B h1 ml_L_53 mf_yX7_foot mi_yX7_foot rfl dL_law_506 hx rfl rfl rfl hkc hnc (fun v u hp => ?_)
  obtain ⟨o, rfl, ⟨q2, f2, hm⟩, po2, h3, h4⟩ := h2 v u hp
  show J G X mL _ _ _ 509 _ [.int o]
  refine J.aload_n 2 dL_law_509 rfl ?_
  refine J.aload_n 0 dL_law_510 rfl ?_
  refine J.iload_n 3 dL_law_511 rfl ?_
  refine J.iconst (1 : Int32) dL_law_512 rfl ?_
  refine J.iadd dL_law_513 ?_
  refine J.topi (y := nI (ix + 1)) (nI_add ix 1) ?_
  refine J.sld S dL_law_514 rfl (by omega) hN e1 ?_
  refine J.aload_n 0 dL_law_515 rfl ?_
  refine J.iload_n 3 dL_law_516 rfl ?_
  refine J.iconst (2 : Int32) dL_law_517 rfl ?_
  refine J.iadd dL_law_518 ?_
  refine J.topi (y := nI (ix + 2)) (nI_add ix 2) ?_
  refine J.sld S dL_law_519 rfl (by omega) hN e2 ?_
  refine J.callV0 q2 (ci := 8) (st := [.int o]) B h3 ml_L_56 mf_yX8_foot mi_yX8_foot rfl dL_law_520 hm rfl rfl rfl (by omega) (by omega) (fun v2 u2 hp2 => ?_)
  obtain ⟨rfl, h5⟩ := h4 v2 u2 hp2
  show J G X mL _ _ _ 523 _ [.int o, .int o]
  refine J.icmp_eq dL_law_523 (fun _ => ?_) (fun z => absurd rfl z)
  exact h5
set_option maxHeartbeats 4000000 in
set_option maxRecDepth 100000 in
theorem lg_footing {l : Launch} {G : jG} {X : jX} {ws : va_W} {k n b N x m ix c1 s1 : Nat} {xs : Nat → Int32} {a1 : Int32} {po1 : Option Value → va_W → Prop} (B : jB0 l X 9 334 600000 7302250) (S : jS G X b N xs) (hN : N < 2 ^ 31) (hi : ix + 7 ≤ N) (e1 : xs (ix + 1) = a1) (hkc : k + c1 ≤ 600000) (hnc : n + s1 ≤ 7302250) (hx : ∃ (q : Nat) (fs : List Value), ws[q]? = some (x, .inr (7, fs))) (h1 : Mt l G yX7_footing mX7_footing 1 22 c1 s1 [.ref x, .int a1] ws po1) (h2 : ∀ v u, po1 v u → ∃ o : Int32, v = some (.int o) ∧ (∃ (q : Nat) (fs : List Value), u[q]? = some (m, .inr (8, fs))) ∧ ∃ po2 : Option Value → va_W → Prop, Mt l G yX8_footing mX8_footing 2 42 0 0 [.ref m, .int a1] u po2 ∧ ∀ v2 u2, po2 v2 u2 → v2 = some (.int o) ∧ J G X mL u2 (k + c1 + 0) (n + s1 + 0) 1421 [(0, .ref b), (1, .ref x), (2, .ref m), (3, .int (nI ix))] []) : J G X mL ws k n 528 [(0, .ref b), (1, .ref x), (2, .ref m), (3, .int (nI ix))] [] := by
  obtain ⟨q1, f1, hx⟩ := hx
  refine J.aload_n 1 dL_law_528 rfl ?_
  refine J.aload_n 0 dL_law_529 rfl ?_
  refine J.iload_n 3 dL_law_530 rfl ?_
  refine J.iconst (1 : Int32) dL_law_531 rfl ?_
  refine J.iadd dL_law_532 ?_
  refine J.topi (y := nI (ix + 1)) (nI_add ix 1) ?_
  refine J.sld S dL_law_533 rfl (by omega) hN e1 ?_
  refine J.callV0 q1 (ci := 7) (st := []) B h1 ml_L_57 mf_yX7_footing mi_yX7_footing rfl dL_law_534 hx rfl rfl rfl hkc hnc (fun v u hp => ?_)
  obtain ⟨o, rfl, ⟨q2, f2, hm⟩, po2, h3, h4⟩ := h2 v u hp
  show J G X mL _ _ _ 537 _ [.int o]
  refine J.aload_n 2 dL_law_537 rfl ?_
  refine J.aload_n 0 dL_law_538 rfl ?_
  refine J.iload_n 3 dL_law_539 rfl ?_
  refine J.iconst (1 : Int32) dL_law_540 rfl ?_
  refine J.iadd dL_law_541 ?_
  refine J.topi (y := nI (ix + 1)) (nI_add ix 1) ?_
  refine J.sld S dL_law_542 rfl (by omega) hN e1 ?_
  refine J.callV0 q2 (ci := 8) (st := [.int o]) B h3 ml_L_60 mf_yX8_footing mi_yX8_footing rfl dL_law_543 hm rfl rfl rfl (by omega) (by omega) (fun v2 u2 hp2 => ?_)
  obtain ⟨rfl, h5⟩ := h4 v2 u2 hp2
  show J G X mL _ _ _ 546 _ [.int o, .int o]
  refine J.icmp_eq dL_law_546 (fun _ => ?_) (fun z => absurd rfl z)
  exact h5
set_option maxHeartbeats 4000000 in
set_option maxRecDepth 100000 in
theorem lg_level {l : Launch} {G : jG} {X : jX} {ws : va_W} {k n b N x m ix c1 s1 : Nat} {xs : Nat → Int32} {po1 : Option Value → va_W → Prop} (B : jB0 l X 9 334 600000 7302250) (S : jS G X b N xs) (hN : N < 2 ^ 31) (hi : ix + 7 ≤ N)  (hkc : k + c1 ≤ 600000) (hnc : n + s1 ≤ 7302250) (hx : ∃ (q : Nat) (fs : List Value), ws[q]? = some (x, .inr (7, fs))) (h1 : Mt l G yX7_level mX7_level 2 44 c1 s1 [.ref x] ws po1) (h2 : ∀ v u, po1 v u → ∃ o : Int32, v = some (.int o) ∧ (∃ (q : Nat) (fs : List Value), u[q]? = some (m, .inr (8, fs))) ∧ ∃ po2 : Option Value → va_W → Prop, Mt l G yX8_level mX8_level 2 47 0 0 [.ref m] u po2 ∧ ∀ v2 u2, po2 v2 u2 → v2 = some (.int o) ∧ J G X mL u2 (k + c1 + 0) (n + s1 + 0) 1421 [(0, .ref b), (1, .ref x), (2, .ref m), (3, .int (nI ix))] []) : J G X mL ws k n 551 [(0, .ref b), (1, .ref x), (2, .ref m), (3, .int (nI ix))] [] := by
  obtain ⟨q1, f1, hx⟩ := hx
  refine J.aload_n 1 dL_law_551 rfl ?_
  refine J.callV0 q1 (ci := 7) (st := []) B h1 ml_L_61 mf_yX7_level mi_yX7_level rfl dL_law_552 hx rfl rfl rfl hkc hnc (fun v u hp => ?_)
  obtain ⟨o, rfl, ⟨q2, f2, hm⟩, po2, h3, h4⟩ := h2 v u hp
  show J G X mL _ _ _ 555 _ [.int o]
  refine J.aload_n 2 dL_law_555 rfl ?_
  refine J.callV0 q2 (ci := 8) (st := [.int o]) B h3 ml_L_65 mf_yX8_level mi_yX8_level rfl dL_law_556 hm rfl rfl rfl (by omega) (by omega) (fun v2 u2 hp2 => ?_)
  obtain ⟨rfl, h5⟩ := h4 v2 u2 hp2
  show J G X mL _ _ _ 559 _ [.int o, .int o]
  refine J.icmp_eq dL_law_559 (fun _ => ?_) (fun z => absurd rfl z)
  exact h5
set_option maxHeartbeats 4000000 in
set_option maxRecDepth 100000 in
theorem lg_levelOf {l : Launch} {G : jG} {X : jX} {ws : va_W} {k n b N x m ix c1 s1 : Nat} {xs : Nat → Int32} {a1 : Int32} {po1 : Option Value → va_W → Prop} (B : jB0 l X 9 334 600000 7302250) (S : jS G X b N xs) (hN : N < 2 ^ 31) (hi : ix + 7 ≤ N) (e1 : xs (ix + 1) = a1) (hkc : k + c1 ≤ 600000) (hnc : n + s1 ≤ 7302250) (hx : ∃ (q : Nat) (fs : List Value), ws[q]? = some (x, .inr (7, fs))) (h1 : Mt l G yX7_levelOf mX7_levelOf 4 87 c1 s1 [.ref x, .int a1] ws po1) (h2 : ∀ v u, po1 v u → ∃ o : Int32, v = some (.int o) ∧ (∃ (q : Nat) (fs : List Value), u[q]? = some (m, .inr (8, fs))) ∧ ∃ po2 : Option Value → va_W → Prop, Mt l G yX8_levelOf mX8_levelOf 3 64 0 0 [.ref m, .int a1] u po2 ∧ ∀ v2 u2, po2 v2 u2 → v2 = some (.int o) ∧ J G X mL u2 (k + c1 + 0) (n + s1 + 0) 1421 [(0, .ref b), (1, .ref x), (2, .ref m), (3, .int (nI ix))] []) : J G X mL ws k n 564 [(0, .ref b), (1, .ref x), (2, .ref m), (3, .int (nI ix))] [] := by
  obtain ⟨q1, f1, hx⟩ := hx
  refine J.aload_n 1 dL_law_564 rfl ?_
  refine J.aload_n 0 dL_law_565 rfl ?_
  refine J.iload_n 3 dL_law_566 rfl ?_
  refine J.iconst (1 : Int32) dL_law_567 rfl ?_
  refine J.iadd dL_law_568 ?_
  refine J.topi (y := nI (ix + 1)) (nI_add ix 1) ?_
  refine J.sld S dL_law_569 rfl (by omega) hN e1 ?_
  refine J.callV0 q1 (ci := 7) (st := []) B h1 ml_L_66 mf_yX7_levelOf mi_yX7_levelOf rfl dL_law_570 hx rfl rfl rfl hkc hnc (fun v u hp => ?_)
  obtain ⟨o, rfl, ⟨q2, f2, hm⟩, po2, h3, h4⟩ := h2 v u hp
  show J G X mL _ _ _ 573 _ [.int o]
  refine J.aload_n 2 dL_law_573 rfl ?_
  refine J.aload_n 0 dL_law_574 rfl ?_
  refine J.iload_n 3 dL_law_575 rfl ?_
  refine J.iconst (1 : Int32) dL_law_576 rfl ?_
  refine J.iadd dL_law_577 ?_
  refine J.topi (y := nI (ix + 1)) (nI_add ix 1) ?_
  refine J.sld S dL_law_578 rfl (by omega) hN e1 ?_
  refine J.callV0 q2 (ci := 8) (st := [.int o]) B h3 ml_L_69 mf_yX8_levelOf mi_yX8_levelOf rfl dL_law_579 hm rfl rfl rfl (by omega) (by omega) (fun v2 u2 hp2 => ?_)
  obtain ⟨rfl, h5⟩ := h4 v2 u2 hp2
  show J G X mL _ _ _ 582 _ [.int o, .int o]
  refine J.icmp_eq dL_law_582 (fun _ => ?_) (fun z => absurd rfl z)
  exact h5
set_option maxHeartbeats 4000000 in
set_option maxRecDepth 100000 in
theorem lg_mean {l : Launch} {G : jG} {X : jX} {ws : va_W} {k n b N x m ix c1 s1 : Nat} {xs : Nat → Int32} {a1 : Int32} {po1 : Option Value → va_W → Prop} (B : jB0 l X 9 334 600000 7302250) (S : jS G X b N xs) (hN : N < 2 ^ 31) (hi : ix + 7 ≤ N) (e1 : xs (ix + 1) = a1) (hkc : k + c1 ≤ 600000) (hnc : n + s1 ≤ 7302250) (hx : ∃ (q : Nat) (fs : List Value), ws[q]? = some (x, .inr (7, fs))) (h1 : Mt l G yX7_mean mX7_mean 4 87 c1 s1 [.ref x, .int a1] ws po1) (h2 : ∀ v u, po1 v u → ∃ o : Int32, v = some (.int o) ∧ (∃ (q : Nat) (fs : List Value), u[q]? = some (m, .inr (8, fs))) ∧ ∃ po2 : Option Value → va_W → Prop, Mt l G yX8_mean mX8_mean 3 64 0 0 [.ref m, .int a1] u po2 ∧ ∀ v2 u2, po2 v2 u2 → v2 = some (.int o) ∧ J G X mL u2 (k + c1 + 0) (n + s1 + 0) 1421 [(0, .ref b), (1, .ref x), (2, .ref m), (3, .int (nI ix))] []) : J G X mL ws k n 587 [(0, .ref b), (1, .ref x), (2, .ref m), (3, .int (nI ix))] [] := by
  obtain ⟨q1, f1, hx⟩ := hx
  refine J.aload_n 1 dL_law_587 rfl ?_
  refine J.aload_n 0 dL_law_588 rfl ?_
  refine J.iload_n 3 dL_law_589 rfl ?_
  refine J.iconst (1 : Int32) dL_law_590 rfl ?_
  refine J.iadd dL_law_591 ?_
  refine J.topi (y := nI (ix + 1)) (nI_add ix 1) ?_
  refine J.sld S dL_law_592 rfl (by omega) hN e1 ?_
  refine J.callV0 q1 (ci := 7) (st := []) B h1 ml_L_70 mf_yX7_mean mi_yX7_mean rfl dL_law_593 hx rfl rfl rfl hkc hnc (fun v u hp => ?_)
  obtain ⟨o, rfl, ⟨q2, f2, hm⟩, po2, h3, h4⟩ := h2 v u hp
  show J G X mL _ _ _ 596 _ [.int o]
  refine J.aload_n 2 dL_law_596 rfl ?_
  refine J.aload_n 0 dL_law_597 rfl ?_
  refine J.iload_n 3 dL_law_598 rfl ?_
  refine J.iconst (1 : Int32) dL_law_599 rfl ?_
  refine J.iadd dL_law_600 ?_
  refine J.topi (y := nI (ix + 1)) (nI_add ix 1) ?_
  refine J.sld S dL_law_601 rfl (by omega) hN e1 ?_
  refine J.callV0 q2 (ci := 8) (st := [.int o]) B h3 ml_L_73 mf_yX8_mean mi_yX8_mean rfl dL_law_602 hm rfl rfl rfl (by omega) (by omega) (fun v2 u2 hp2 => ?_)
  obtain ⟨rfl, h5⟩ := h4 v2 u2 hp2
  show J G X mL _ _ _ 605 _ [.int o, .int o]
  refine J.icmp_eq dL_law_605 (fun _ => ?_) (fun z => absurd rfl z)
  exact h5
set_option maxHeartbeats 4000000 in
set_option maxRecDepth 100000 in
theorem lg_phase {l : Launch} {G : jG} {X : jX} {ws : va_W} {k n b N x m ix c1 s1 : Nat} {xs : Nat → Int32} {a1 a2 a3 : Int32} {po1 : Option Value → va_W → Prop} (B : jB0 l X 9 334 600000 7302250) (S : jS G X b N xs) (hN : N < 2 ^ 31) (hi : ix + 7 ≤ N) (e1 : xs (ix + 1) = a1) (e2 : xs (ix + 2) = a2) (e3 : xs (ix + 3) = a3) (hkc : k + c1 ≤ 600000) (hnc : n + s1 ≤ 7302250) (hx : ∃ (q : Nat) (fs : List Value), ws[q]? = some (x, .inr (7, fs))) (h1 : Mt l G yX7_phase mX7_phase 1 22 c1 s1 [.ref x, .int a1, .int a2, .int a3] ws po1) (h2 : ∀ v u, po1 v u → ∃ o : Int32, v = some (.int o) ∧ (∃ (q : Nat) (fs : List Value), u[q]? = some (m, .inr (8, fs))) ∧ ∃ po2 : Option Value → va_W → Prop, Mt l G yX8_phase mX8_phase 2 42 0 0 [.ref m, .int a1, .int a2, .int a3] u po2 ∧ ∀ v2 u2, po2 v2 u2 → v2 = some (.int o) ∧ J G X mL u2 (k + c1 + 0) (n + s1 + 0) 1421 [(0, .ref b), (1, .ref x), (2, .ref m), (3, .int (nI ix))] []) : J G X mL ws k n 610 [(0, .ref b), (1, .ref x), (2, .ref m), (3, .int (nI ix))] [] := by
  obtain ⟨q1, f1, hx⟩ := hx
  refine J.aload_n 1 dL_law_610 rfl ?_
  refine J.aload_n 0 dL_law_611 rfl ?_
  refine J.iload_n 3 dL_law_612 rfl ?_
  refine J.iconst (1 : Int32) dL_law_613 rfl ?_
  refine J.iadd dL_law_614 ?_
  refine J.topi (y := nI (ix + 1)) (nI_add ix 1) ?_
  refine J.sld S dL_law_615 rfl (by omega) hN e1 ?_
  refine J.aload_n 0 dL_law_616 rfl ?_
  refine J.iload_n 3 dL_law_617 rfl ?_
  refine J.iconst (2 : Int32) dL_law_618 rfl ?_
  refine J.iadd dL_law_619 ?_
  refine J.topi (y := nI (ix + 2)) (nI_add ix 2) ?_
  refine J.sld S dL_law_620 rfl (by omega) hN e2 ?_
  refine J.aload_n 0 dL_law_621 rfl ?_
  refine J.iload_n 3 dL_law_622 rfl ?_
  refine J.iconst (3 : Int32) dL_law_623 rfl ?_
  refine J.iadd dL_law_624 ?_
  refine J.topi (y := nI (ix + 3)) (nI_add ix 3) ?_
  refine J.sld S dL_law_625 rfl (by omega) hN e3 ?_
  refine J.callV0 q1 (ci := 7) (st := []) B h1 ml_L_74 mf_yX7_phase mi_yX7_phase rfl dL_law_626 hx rfl rfl rfl hkc hnc (fun v u hp => ?_)
  obtain ⟨o, rfl, ⟨q2, f2, hm⟩, po2, h3, h4⟩ := h2 v u hp
  show J G X mL _ _ _ 629 _ [.int o]
  refine J.aload_n 2 dL_law_629 rfl ?_
  refine J.aload_n 0 dL_law_630 rfl ?_
  refine J.iload_n 3 dL_law_631 rfl ?_
  refine J.iconst (1 : Int32) dL_law_632 rfl ?_
  refine J.iadd dL_law_633 ?_
  refine J.topi (y := nI (ix + 1)) (nI_add ix 1) ?_
  refine J.sld S dL_law_634 rfl (by omega) hN e1 ?_
  refine J.aload_n 0 dL_law_635 rfl ?_
  refine J.iload_n 3 dL_law_636 rfl ?_
  refine J.iconst (2 : Int32) dL_law_637 rfl ?_
  refine J.iadd dL_law_638 ?_
  refine J.topi (y := nI (ix + 2)) (nI_add ix 2) ?_
  refine J.sld S dL_law_639 rfl (by omega) hN e2 ?_
  refine J.aload_n 0 dL_law_640 rfl ?_
  refine J.iload_n 3 dL_law_641 rfl ?_
  refine J.iconst (3 : Int32) dL_law_642 rfl ?_
  refine J.iadd dL_law_643 ?_
  refine J.topi (y := nI (ix + 3)) (nI_add ix 3) ?_
  refine J.sld S dL_law_644 rfl (by omega) hN e3 ?_
  refine J.callV0 q2 (ci := 8) (st := [.int o]) B h3 ml_L_77 mf_yX8_phase mi_yX8_phase rfl dL_law_645 hm rfl rfl rfl (by omega) (by omega) (fun v2 u2 hp2 => ?_)
  obtain ⟨rfl, h5⟩ := h4 v2 u2 hp2
  show J G X mL _ _ _ 648 _ [.int o, .int o]
  refine J.icmp_eq dL_law_648 (fun _ => ?_) (fun z => absurd rfl z)
  exact h5
set_option maxHeartbeats 4000000 in
set_option maxRecDepth 100000 in
theorem lg_string {l : Launch} {G : jG} {X : jX} {ws : va_W} {k n b N x m ix c1 s1 : Nat} {xs : Nat → Int32} {a1 a2 a3 : Int32} {po1 : Option Value → va_W → Prop} (B : jB0 l X 9 334 600000 7302250) (S : jS G X b N xs) (hN : N < 2 ^ 31) (hi : ix + 7 ≤ N) (e1 : xs (ix + 1) = a1) (e2 : xs (ix + 2) = a2) (e3 : xs (ix + 3) = a3) (hkc : k + c1 ≤ 600000) (hnc : n + s1 ≤ 7302250) (hx : ∃ (q : Nat) (fs : List Value), ws[q]? = some (x, .inr (7, fs))) (h1 : Mt l G yX7_string mX7_string 3 65 c1 s1 [.ref x, .int a1, .int a2, .int a3] ws po1) (h2 : ∀ v u, po1 v u → ∃ o : Int32, v = some (.int o) ∧ (∃ (q : Nat) (fs : List Value), u[q]? = some (m, .inr (8, fs))) ∧ ∃ po2 : Option Value → va_W → Prop, Mt l G yX8_string mX8_string 3 64 0 0 [.ref m, .int a1, .int a2, .int a3] u po2 ∧ ∀ v2 u2, po2 v2 u2 → v2 = some (.int o) ∧ J G X mL u2 (k + c1 + 0) (n + s1 + 0) 1421 [(0, .ref b), (1, .ref x), (2, .ref m), (3, .int (nI ix))] []) : J G X mL ws k n 653 [(0, .ref b), (1, .ref x), (2, .ref m), (3, .int (nI ix))] [] := by
  obtain ⟨q1, f1, hx⟩ := hx
  refine J.aload_n 1 dL_law_653 rfl ?_
  refine J.aload_n 0 dL_law_654 rfl ?_
  refine J.iload_n 3 dL_law_655 rfl ?_
  refine J.iconst (1 : Int32) dL_law_656 rfl ?_
  refine J.iadd dL_law_657 ?_
  refine J.topi (y := nI (ix + 1)) (nI_add ix 1) ?_
  refine J.sld S dL_law_658 rfl (by omega) hN e1 ?_
  refine J.aload_n 0 dL_law_659 rfl ?_
  refine J.iload_n 3 dL_law_660 rfl ?_
  refine J.iconst (2 : Int32) dL_law_661 rfl ?_
  refine J.iadd dL_law_662 ?_
  refine J.topi (y := nI (ix + 2)) (nI_add ix 2) ?_
  refine J.sld S dL_law_663 rfl (by omega) hN e2 ?_
  refine J.aload_n 0 dL_law_664 rfl ?_
  refine J.iload_n 3 dL_law_665 rfl ?_
  refine J.iconst (3 : Int32) dL_law_666 rfl ?_
  refine J.iadd dL_law_667 ?_
  refine J.topi (y := nI (ix + 3)) (nI_add ix 3) ?_
  refine J.sld S dL_law_668 rfl (by omega) hN e3 ?_
  refine J.callV0 q1 (ci := 7) (st := []) B h1 ml_L_78 mf_yX7_string mi_yX7_string rfl dL_law_669 hx rfl rfl rfl hkc hnc (fun v u hp => ?_)
  obtain ⟨o, rfl, ⟨q2, f2, hm⟩, po2, h3, h4⟩ := h2 v u hp
  show J G X mL _ _ _ 672 _ [.int o]
  refine J.aload_n 2 dL_law_672 rfl ?_
  refine J.aload_n 0 dL_law_673 rfl ?_
  refine J.iload_n 3 dL_law_674 rfl ?_
  refine J.iconst (1 : Int32) dL_law_675 rfl ?_
  refine J.iadd dL_law_676 ?_
  refine J.topi (y := nI (ix + 1)) (nI_add ix 1) ?_
  refine J.sld S dL_law_677 rfl (by omega) hN e1 ?_
  refine J.aload_n 0 dL_law_678 rfl ?_
  refine J.iload_n 3 dL_law_679 rfl ?_
  refine J.iconst (2 : Int32) dL_law_680 rfl ?_
  refine J.iadd dL_law_681 ?_
  refine J.topi (y := nI (ix + 2)) (nI_add ix 2) ?_
  refine J.sld S dL_law_682 rfl (by omega) hN e2 ?_
  refine J.aload_n 0 dL_law_683 rfl ?_
  refine J.iload_n 3 dL_law_684 rfl ?_
  refine J.iconst (3 : Int32) dL_law_685 rfl ?_
  refine J.iadd dL_law_686 ?_
  refine J.topi (y := nI (ix + 3)) (nI_add ix 3) ?_
  refine J.sld S dL_law_687 rfl (by omega) hN e3 ?_
  refine J.callV0 q2 (ci := 8) (st := [.int o]) B h3 ml_L_81 mf_yX8_string mi_yX8_string rfl dL_law_688 hm rfl rfl rfl (by omega) (by omega) (fun v2 u2 hp2 => ?_)
  obtain ⟨rfl, h5⟩ := h4 v2 u2 hp2
  show J G X mL _ _ _ 691 _ [.int o, .int o]
  refine J.icmp_eq dL_law_691 (fun _ => ?_) (fun z => absurd rfl z)
  exact h5
set_option maxHeartbeats 4000000 in
set_option maxRecDepth 100000 in
theorem lg_period {l : Launch} {G : jG} {X : jX} {ws : va_W} {k n b N x m ix c1 s1 : Nat} {xs : Nat → Int32} {a1 a2 a3 a4 : Int32} {po1 : Option Value → va_W → Prop} (B : jB0 l X 9 334 600000 7302250) (S : jS G X b N xs) (hN : N < 2 ^ 31) (hi : ix + 7 ≤ N) (e1 : xs (ix + 1) = a1) (e2 : xs (ix + 2) = a2) (e3 : xs (ix + 3) = a3) (e4 : xs (ix + 4) = a4) (hkc : k + c1 ≤ 600000) (hnc : n + s1 ≤ 7302250) (hx : ∃ (q : Nat) (fs : List Value), ws[q]? = some (x, .inr (7, fs))) (h1 : Mt l G yX7_period mX7_period 4 100 c1 s1 [.ref x, .int a1, .int a2, .int a3, .int a4] ws po1) (h2 : ∀ v u, po1 v u → ∃ o : Int32, v = some (.int o) ∧ (∃ (q : Nat) (fs : List Value), u[q]? = some (m, .inr (8, fs))) ∧ ∃ po2 : Option Value → va_W → Prop, Mt l G yX8_period mX8_period 3 80 0 0 [.ref m, .int a1, .int a2, .int a3, .int a4] u po2 ∧ ∀ v2 u2, po2 v2 u2 → v2 = some (.int o) ∧ J G X mL u2 (k + c1 + 0) (n + s1 + 0) 1421 [(0, .ref b), (1, .ref x), (2, .ref m), (3, .int (nI ix))] []) : J G X mL ws k n 696 [(0, .ref b), (1, .ref x), (2, .ref m), (3, .int (nI ix))] [] := by
  obtain ⟨q1, f1, hx⟩ := hx
  refine J.aload_n 1 dL_law_696 rfl ?_
  refine J.aload_n 0 dL_law_697 rfl ?_
  refine J.iload_n 3 dL_law_698 rfl ?_
  refine J.iconst (1 : Int32) dL_law_699 rfl ?_
  refine J.iadd dL_law_700 ?_
  refine J.topi (y := nI (ix + 1)) (nI_add ix 1) ?_
  refine J.sld S dL_law_701 rfl (by omega) hN e1 ?_
  refine J.aload_n 0 dL_law_702 rfl ?_
  refine J.iload_n 3 dL_law_703 rfl ?_
  refine J.iconst (2 : Int32) dL_law_704 rfl ?_
  refine J.iadd dL_law_705 ?_
  refine J.topi (y := nI (ix + 2)) (nI_add ix 2) ?_
  refine J.sld S dL_law_706 rfl (by omega) hN e2 ?_
  refine J.aload_n 0 dL_law_707 rfl ?_
  refine J.iload_n 3 dL_law_708 rfl ?_
  refine J.iconst (3 : Int32) dL_law_709 rfl ?_
  refine J.iadd dL_law_710 ?_
  refine J.topi (y := nI (ix + 3)) (nI_add ix 3) ?_
  refine J.sld S dL_law_711 rfl (by omega) hN e3 ?_
  refine J.aload_n 0 dL_law_712 rfl ?_
  refine J.iload_n 3 dL_law_713 rfl ?_
  refine J.iconst (4 : Int32) dL_law_714 rfl ?_
  refine J.iadd dL_law_715 ?_
  refine J.topi (y := nI (ix + 4)) (nI_add ix 4) ?_
  refine J.sld S dL_law_716 rfl (by omega) hN e4 ?_
  refine J.callV0 q1 (ci := 7) (st := []) B h1 ml_L_82 mf_yX7_period mi_yX7_period rfl dL_law_717 hx rfl rfl rfl hkc hnc (fun v u hp => ?_)
  obtain ⟨o, rfl, ⟨q2, f2, hm⟩, po2, h3, h4⟩ := h2 v u hp
  show J G X mL _ _ _ 720 _ [.int o]
  refine J.aload_n 2 dL_law_720 rfl ?_
  refine J.aload_n 0 dL_law_721 rfl ?_
  refine J.iload_n 3 dL_law_722 rfl ?_
  refine J.iconst (1 : Int32) dL_law_723 rfl ?_
  refine J.iadd dL_law_724 ?_
  refine J.topi (y := nI (ix + 1)) (nI_add ix 1) ?_
  refine J.sld S dL_law_725 rfl (by omega) hN e1 ?_
  refine J.aload_n 0 dL_law_726 rfl ?_
  refine J.iload_n 3 dL_law_727 rfl ?_
  refine J.iconst (2 : Int32) dL_law_728 rfl ?_
  refine J.iadd dL_law_729 ?_
  refine J.topi (y := nI (ix + 2)) (nI_add ix 2) ?_
  refine J.sld S dL_law_730 rfl (by omega) hN e2 ?_
  refine J.aload_n 0 dL_law_731 rfl ?_
  refine J.iload_n 3 dL_law_732 rfl ?_
  refine J.iconst (3 : Int32) dL_law_733 rfl ?_
  refine J.iadd dL_law_734 ?_
  refine J.topi (y := nI (ix + 3)) (nI_add ix 3) ?_
  refine J.sld S dL_law_735 rfl (by omega) hN e3 ?_
  refine J.aload_n 0 dL_law_736 rfl ?_
  refine J.iload_n 3 dL_law_737 rfl ?_
  refine J.iconst (4 : Int32) dL_law_738 rfl ?_
  refine J.iadd dL_law_739 ?_
  refine J.topi (y := nI (ix + 4)) (nI_add ix 4) ?_
  refine J.sld S dL_law_740 rfl (by omega) hN e4 ?_
  refine J.callV0 q2 (ci := 8) (st := [.int o]) B h3 ml_L_86 mf_yX8_period mi_yX8_period rfl dL_law_741 hm rfl rfl rfl (by omega) (by omega) (fun v2 u2 hp2 => ?_)
  obtain ⟨rfl, h5⟩ := h4 v2 u2 hp2
  show J G X mL _ _ _ 744 _ [.int o, .int o]
  refine J.icmp_eq dL_law_744 (fun _ => ?_) (fun z => absurd rfl z)
  exact h5
set_option maxHeartbeats 4000000 in
set_option maxRecDepth 100000 in
theorem lg_asWell {l : Launch} {G : jG} {X : jX} {ws : va_W} {k n b N x m ix c1 s1 : Nat} {xs : Nat → Int32} {a1 a2 a3 a4 a5 : Int32} {po1 : Option Value → va_W → Prop} (B : jB0 l X 9 334 600000 7302250) (S : jS G X b N xs) (hN : N < 2 ^ 31) (hi : ix + 7 ≤ N) (e1 : xs (ix + 1) = a1) (e2 : xs (ix + 2) = a2) (e3 : xs (ix + 3) = a3) (e4 : xs (ix + 4) = a4) (e5 : xs (ix + 5) = a5) (hkc : k + c1 ≤ 600000) (hnc : n + s1 ≤ 7302250) (hx : ∃ (q : Nat) (fs : List Value), ws[q]? = some (x, .inr (7, fs))) (h1 : Mt l G yX7_asWell mX7_asWell 4 100 c1 s1 [.ref x, .int a1, .int a2, .int a3, .int a4, .int a5] ws po1) (h2 : ∀ v u, po1 v u → ∃ o : Int32, v = some (.int o) ∧ (∃ (q : Nat) (fs : List Value), u[q]? = some (m, .inr (8, fs))) ∧ ∃ po2 : Option Value → va_W → Prop, Mt l G yX8_asWell mX8_asWell 3 80 0 0 [.ref m, .int a1, .int a2, .int a3, .int a4, .int a5] u po2 ∧ ∀ v2 u2, po2 v2 u2 → v2 = some (.int o) ∧ J G X mL u2 (k + c1 + 0) (n + s1 + 0) 1421 [(0, .ref b), (1, .ref x), (2, .ref m), (3, .int (nI ix))] []) : J G X mL ws k n 749 [(0, .ref b), (1, .ref x), (2, .ref m), (3, .int (nI ix))] [] := by
  obtain ⟨q1, f1, hx⟩ := hx
  refine J.aload_n 1 dL_law_749 rfl ?_
  refine J.aload_n 0 dL_law_750 rfl ?_
  refine J.iload_n 3 dL_law_751 rfl ?_
  refine J.iconst (1 : Int32) dL_law_752 rfl ?_
  refine J.iadd dL_law_753 ?_
  refine J.topi (y := nI (ix + 1)) (nI_add ix 1) ?_
  refine J.sld S dL_law_754 rfl (by omega) hN e1 ?_
  refine J.aload_n 0 dL_law_755 rfl ?_
  refine J.iload_n 3 dL_law_756 rfl ?_
  refine J.iconst (2 : Int32) dL_law_757 rfl ?_
  refine J.iadd dL_law_758 ?_
  refine J.topi (y := nI (ix + 2)) (nI_add ix 2) ?_
  refine J.sld S dL_law_759 rfl (by omega) hN e2 ?_
  refine J.aload_n 0 dL_law_760 rfl ?_
  refine J.iload_n 3 dL_law_761 rfl ?_
  refine J.iconst (3 : Int32) dL_law_762 rfl ?_
  refine J.iadd dL_law_763 ?_
  refine J.topi (y := nI (ix + 3)) (nI_add ix 3) ?_
  refine J.sld S dL_law_764 rfl (by omega) hN e3 ?_
  refine J.aload_n 0 dL_law_765 rfl ?_
  refine J.iload_n 3 dL_law_766 rfl ?_
  refine J.iconst (4 : Int32) dL_law_767 rfl ?_
  refine J.iadd dL_law_768 ?_
  refine J.topi (y := nI (ix + 4)) (nI_add ix 4) ?_
  refine J.sld S dL_law_769 rfl (by omega) hN e4 ?_
  refine J.aload_n 0 dL_law_770 rfl ?_
  refine J.iload_n 3 dL_law_771 rfl ?_
  refine J.iconst (5 : Int32) dL_law_772 rfl ?_
  refine J.iadd dL_law_773 ?_
  refine J.topi (y := nI (ix + 5)) (nI_add ix 5) ?_
  refine J.sld S dL_law_774 rfl (by omega) hN e5 ?_
  refine J.callV0 q1 (ci := 7) (st := []) B h1 ml_L_87 mf_yX7_asWell mi_yX7_asWell rfl dL_law_775 hx rfl rfl rfl hkc hnc (fun v u hp => ?_)
  obtain ⟨o, rfl, ⟨q2, f2, hm⟩, po2, h3, h4⟩ := h2 v u hp
  show J G X mL _ _ _ 778 _ [.int o]
  refine J.aload_n 2 dL_law_778 rfl ?_
  refine J.aload_n 0 dL_law_779 rfl ?_
  refine J.iload_n 3 dL_law_780 rfl ?_
  refine J.iconst (1 : Int32) dL_law_781 rfl ?_
  refine J.iadd dL_law_782 ?_
  refine J.topi (y := nI (ix + 1)) (nI_add ix 1) ?_
  refine J.sld S dL_law_783 rfl (by omega) hN e1 ?_
  refine J.aload_n 0 dL_law_784 rfl ?_
  refine J.iload_n 3 dL_law_785 rfl ?_
  refine J.iconst (2 : Int32) dL_law_786 rfl ?_
  refine J.iadd dL_law_787 ?_
  refine J.topi (y := nI (ix + 2)) (nI_add ix 2) ?_
  refine J.sld S dL_law_788 rfl (by omega) hN e2 ?_
  refine J.aload_n 0 dL_law_789 rfl ?_
  refine J.iload_n 3 dL_law_790 rfl ?_
  refine J.iconst (3 : Int32) dL_law_791 rfl ?_
  refine J.iadd dL_law_792 ?_
  refine J.topi (y := nI (ix + 3)) (nI_add ix 3) ?_
  refine J.sld S dL_law_793 rfl (by omega) hN e3 ?_
  refine J.aload_n 0 dL_law_794 rfl ?_
  refine J.iload_n 3 dL_law_795 rfl ?_
  refine J.iconst (4 : Int32) dL_law_796 rfl ?_
  refine J.iadd dL_law_797 ?_
  refine J.topi (y := nI (ix + 4)) (nI_add ix 4) ?_
  refine J.sld S dL_law_798 rfl (by omega) hN e4 ?_
  refine J.aload_n 0 dL_law_799 rfl ?_
  refine J.iload_n 3 dL_law_800 rfl ?_
  refine J.iconst (5 : Int32) dL_law_801 rfl ?_
  refine J.iadd dL_law_802 ?_
  refine J.topi (y := nI (ix + 5)) (nI_add ix 5) ?_
  refine J.sld S dL_law_803 rfl (by omega) hN e5 ?_
  refine J.callV0 q2 (ci := 8) (st := [.int o]) B h3 ml_L_90 mf_yX8_asWell mi_yX8_asWell rfl dL_law_804 hm rfl rfl rfl (by omega) (by omega) (fun v2 u2 hp2 => ?_)
  obtain ⟨rfl, h5⟩ := h4 v2 u2 hp2
  show J G X mL _ _ _ 807 _ [.int o, .int o]
  refine J.icmp_eq dL_law_807 (fun _ => ?_) (fun z => absurd rfl z)
  exact h5
set_option maxHeartbeats 4000000 in
set_option maxRecDepth 100000 in
theorem lg_depth {l : Launch} {G : jG} {X : jX} {ws : va_W} {k n b N x m ix c1 s1 : Nat} {xs : Nat → Int32} {a1 a2 a3 a4 : Int32} {po1 : Option Value → va_W → Prop} (B : jB0 l X 9 334 600000 7302250) (S : jS G X b N xs) (hN : N < 2 ^ 31) (hi : ix + 7 ≤ N) (e1 : xs (ix + 1) = a1) (e2 : xs (ix + 2) = a2) (e3 : xs (ix + 3) = a3) (e4 : xs (ix + 4) = a4) (hkc : k + c1 ≤ 600000) (hnc : n + s1 ≤ 7302250) (hx : ∃ (q : Nat) (fs : List Value), ws[q]? = some (x, .inr (7, fs))) (h1 : Mt l G yX7_depth mX7_depth 3 65 c1 s1 [.ref x, .int a1, .int a2, .int a3, .int a4] ws po1) (h2 : ∀ v u, po1 v u → ∃ o : Int32, v = some (.int o) ∧ (∃ (q : Nat) (fs : List Value), u[q]? = some (m, .inr (8, fs))) ∧ ∃ po2 : Option Value → va_W → Prop, Mt l G yX8_depth mX8_depth 3 64 0 0 [.ref m, .int a1, .int a2, .int a3, .int a4] u po2 ∧ ∀ v2 u2, po2 v2 u2 → v2 = some (.int o) ∧ J G X mL u2 (k + c1 + 0) (n + s1 + 0) 1421 [(0, .ref b), (1, .ref x), (2, .ref m), (3, .int (nI ix))] []) : J G X mL ws k n 812 [(0, .ref b), (1, .ref x), (2, .ref m), (3, .int (nI ix))] [] := by
  obtain ⟨q1, f1, hx⟩ := hx
  refine J.aload_n 1 dL_law_812 rfl ?_
  refine J.aload_n 0 dL_law_813 rfl ?_
  refine J.iload_n 3 dL_law_814 rfl ?_
  refine J.iconst (1 : Int32) dL_law_815 rfl ?_
  refine J.iadd dL_law_816 ?_
  refine J.topi (y := nI (ix + 1)) (nI_add ix 1) ?_
  refine J.sld S dL_law_817 rfl (by omega) hN e1 ?_
  refine J.aload_n 0 dL_law_818 rfl ?_
  refine J.iload_n 3 dL_law_819 rfl ?_
  refine J.iconst (2 : Int32) dL_law_820 rfl ?_
  refine J.iadd dL_law_821 ?_
  refine J.topi (y := nI (ix + 2)) (nI_add ix 2) ?_
  refine J.sld S dL_law_822 rfl (by omega) hN e2 ?_
  refine J.aload_n 0 dL_law_823 rfl ?_
  refine J.iload_n 3 dL_law_824 rfl ?_
  refine J.iconst (3 : Int32) dL_law_825 rfl ?_
  refine J.iadd dL_law_826 ?_
  refine J.topi (y := nI (ix + 3)) (nI_add ix 3) ?_
  refine J.sld S dL_law_827 rfl (by omega) hN e3 ?_
  refine J.aload_n 0 dL_law_828 rfl ?_
  refine J.iload_n 3 dL_law_829 rfl ?_
  refine J.iconst (4 : Int32) dL_law_830 rfl ?_
  refine J.iadd dL_law_831 ?_
  refine J.topi (y := nI (ix + 4)) (nI_add ix 4) ?_
  refine J.sld S dL_law_832 rfl (by omega) hN e4 ?_
  refine J.callV0 q1 (ci := 7) (st := []) B h1 ml_L_91 mf_yX7_depth mi_yX7_depth rfl dL_law_833 hx rfl rfl rfl hkc hnc (fun v u hp => ?_)
  obtain ⟨o, rfl, ⟨q2, f2, hm⟩, po2, h3, h4⟩ := h2 v u hp
  show J G X mL _ _ _ 836 _ [.int o]
  refine J.aload_n 2 dL_law_836 rfl ?_
  refine J.aload_n 0 dL_law_837 rfl ?_
  refine J.iload_n 3 dL_law_838 rfl ?_
  refine J.iconst (1 : Int32) dL_law_839 rfl ?_
  refine J.iadd dL_law_840 ?_
  refine J.topi (y := nI (ix + 1)) (nI_add ix 1) ?_
  refine J.sld S dL_law_841 rfl (by omega) hN e1 ?_
  refine J.aload_n 0 dL_law_842 rfl ?_
  refine J.iload_n 3 dL_law_843 rfl ?_
  refine J.iconst (2 : Int32) dL_law_844 rfl ?_
  refine J.iadd dL_law_845 ?_
  refine J.topi (y := nI (ix + 2)) (nI_add ix 2) ?_
  refine J.sld S dL_law_846 rfl (by omega) hN e2 ?_
  refine J.aload_n 0 dL_law_847 rfl ?_
  refine J.iload_n 3 dL_law_848 rfl ?_
  refine J.iconst (3 : Int32) dL_law_849 rfl ?_
  refine J.iadd dL_law_850 ?_
  refine J.topi (y := nI (ix + 3)) (nI_add ix 3) ?_
  refine J.sld S dL_law_851 rfl (by omega) hN e3 ?_
  refine J.aload_n 0 dL_law_852 rfl ?_
  refine J.iload_n 3 dL_law_853 rfl ?_
  refine J.iconst (4 : Int32) dL_law_854 rfl ?_
  refine J.iadd dL_law_855 ?_
  refine J.topi (y := nI (ix + 4)) (nI_add ix 4) ?_
  refine J.sld S dL_law_856 rfl (by omega) hN e4 ?_
  refine J.callV0 q2 (ci := 8) (st := [.int o]) B h3 ml_L_94 mf_yX8_depth mi_yX8_depth rfl dL_law_857 hm rfl rfl rfl (by omega) (by omega) (fun v2 u2 hp2 => ?_)
  obtain ⟨rfl, h5⟩ := h4 v2 u2 hp2
  show J G X mL _ _ _ 860 _ [.int o, .int o]
  refine J.icmp_eq dL_law_860 (fun _ => ?_) (fun z => absurd rfl z)
  exact h5
set_option maxHeartbeats 4000000 in
set_option maxRecDepth 100000 in
theorem lg_dip {l : Launch} {G : jG} {X : jX} {ws : va_W} {k n b N x m ix c1 s1 : Nat} {xs : Nat → Int32} {a1 a2 a3 : Int32} {po1 : Option Value → va_W → Prop} (B : jB0 l X 9 334 600000 7302250) (S : jS G X b N xs) (hN : N < 2 ^ 31) (hi : ix + 7 ≤ N) (e1 : xs (ix + 1) = a1) (e2 : xs (ix + 2) = a2) (e3 : xs (ix + 3) = a3) (hkc : k + c1 ≤ 600000) (hnc : n + s1 ≤ 7302250) (hx : ∃ (q : Nat) (fs : List Value), ws[q]? = some (x, .inr (7, fs))) (h1 : Mt l G yX7_dip mX7_dip 3 76 c1 s1 [.ref x, .int a1, .int a2, .int a3] ws po1) (h2 : ∀ v u, po1 v u → ∃ o : Int32, v = some (.int o) ∧ (∃ (q : Nat) (fs : List Value), u[q]? = some (m, .inr (8, fs))) ∧ ∃ po2 : Option Value → va_W → Prop, Mt l G yX8_dip mX8_dip 3 64 0 0 [.ref m, .int a1, .int a2, .int a3] u po2 ∧ ∀ v2 u2, po2 v2 u2 → v2 = some (.int o) ∧ J G X mL u2 (k + c1 + 0) (n + s1 + 0) 1421 [(0, .ref b), (1, .ref x), (2, .ref m), (3, .int (nI ix))] []) : J G X mL ws k n 865 [(0, .ref b), (1, .ref x), (2, .ref m), (3, .int (nI ix))] [] := by
  obtain ⟨q1, f1, hx⟩ := hx
  refine J.aload_n 1 dL_law_865 rfl ?_
  refine J.aload_n 0 dL_law_866 rfl ?_
  refine J.iload_n 3 dL_law_867 rfl ?_
  refine J.iconst (1 : Int32) dL_law_868 rfl ?_
  refine J.iadd dL_law_869 ?_
  refine J.topi (y := nI (ix + 1)) (nI_add ix 1) ?_
  refine J.sld S dL_law_870 rfl (by omega) hN e1 ?_
  refine J.aload_n 0 dL_law_871 rfl ?_
  refine J.iload_n 3 dL_law_872 rfl ?_
  refine J.iconst (2 : Int32) dL_law_873 rfl ?_
  refine J.iadd dL_law_874 ?_
  refine J.topi (y := nI (ix + 2)) (nI_add ix 2) ?_
  refine J.sld S dL_law_875 rfl (by omega) hN e2 ?_
  refine J.aload_n 0 dL_law_876 rfl ?_
  refine J.iload_n 3 dL_law_877 rfl ?_
  refine J.iconst (3 : Int32) dL_law_878 rfl ?_
  refine J.iadd dL_law_879 ?_
  refine J.topi (y := nI (ix + 3)) (nI_add ix 3) ?_
  refine J.sld S dL_law_880 rfl (by omega) hN e3 ?_
  refine J.callV0 q1 (ci := 7) (st := []) B h1 ml_L_95 mf_yX7_dip mi_yX7_dip rfl dL_law_881 hx rfl rfl rfl hkc hnc (fun v u hp => ?_)
  obtain ⟨o, rfl, ⟨q2, f2, hm⟩, po2, h3, h4⟩ := h2 v u hp
  show J G X mL _ _ _ 884 _ [.int o]
  refine J.aload_n 2 dL_law_884 rfl ?_
  refine J.aload_n 0 dL_law_885 rfl ?_
  refine J.iload_n 3 dL_law_886 rfl ?_
  refine J.iconst (1 : Int32) dL_law_887 rfl ?_
  refine J.iadd dL_law_888 ?_
  refine J.topi (y := nI (ix + 1)) (nI_add ix 1) ?_
  refine J.sld S dL_law_889 rfl (by omega) hN e1 ?_
  refine J.aload_n 0 dL_law_890 rfl ?_
  refine J.iload_n 3 dL_law_891 rfl ?_
  refine J.iconst (2 : Int32) dL_law_892 rfl ?_
  refine J.iadd dL_law_893 ?_
  refine J.topi (y := nI (ix + 2)) (nI_add ix 2) ?_
  refine J.sld S dL_law_894 rfl (by omega) hN e2 ?_
  refine J.aload_n 0 dL_law_895 rfl ?_
  refine J.iload_n 3 dL_law_896 rfl ?_
  refine J.iconst (3 : Int32) dL_law_897 rfl ?_
  refine J.iadd dL_law_898 ?_
  refine J.topi (y := nI (ix + 3)) (nI_add ix 3) ?_
  refine J.sld S dL_law_899 rfl (by omega) hN e3 ?_
  refine J.callV0 q2 (ci := 8) (st := [.int o]) B h3 ml_L_98 mf_yX8_dip mi_yX8_dip rfl dL_law_900 hm rfl rfl rfl (by omega) (by omega) (fun v2 u2 hp2 => ?_)
  obtain ⟨rfl, h5⟩ := h4 v2 u2 hp2
  show J G X mL _ _ _ 903 _ [.int o, .int o]
  refine J.icmp_eq dL_law_903 (fun _ => ?_) (fun z => absurd rfl z)
  exact h5
set_option maxHeartbeats 4000000 in
set_option maxRecDepth 100000 in
theorem lg_dipOf {l : Launch} {G : jG} {X : jX} {ws : va_W} {k n b N x m ix c1 s1 : Nat} {xs : Nat → Int32} {a1 : Int32} {po1 : Option Value → va_W → Prop} (B : jB0 l X 9 334 600000 7302250) (S : jS G X b N xs) (hN : N < 2 ^ 31) (hi : ix + 7 ≤ N) (e1 : xs (ix + 1) = a1) (hkc : k + c1 ≤ 600000) (hnc : n + s1 ≤ 7302250) (hx : ∃ (q : Nat) (fs : List Value), ws[q]? = some (x, .inr (7, fs))) (h1 : Mt l G yX7_dipOf mX7_dipOf 0 0 c1 s1 [.ref x, .int a1] ws po1) (h2 : ∀ v u, po1 v u → ∃ o : Int32, v = some (.int o) ∧ (∃ (q : Nat) (fs : List Value), u[q]? = some (m, .inr (8, fs))) ∧ ∃ po2 : Option Value → va_W → Prop, Mt l G yX8_dipOf mX8_dipOf 0 0 0 0 [.ref m, .int a1] u po2 ∧ ∀ v2 u2, po2 v2 u2 → v2 = some (.int o) ∧ J G X mL u2 (k + c1 + 0) (n + s1 + 0) 1421 [(0, .ref b), (1, .ref x), (2, .ref m), (3, .int (nI ix))] []) : J G X mL ws k n 908 [(0, .ref b), (1, .ref x), (2, .ref m), (3, .int (nI ix))] [] := by
  obtain ⟨q1, f1, hx⟩ := hx
  refine J.aload_n 1 dL_law_908 rfl ?_
  refine J.aload_n 0 dL_law_909 rfl ?_
  refine J.iload_n 3 dL_law_910 rfl ?_
  refine J.iconst (1 : Int32) dL_law_911 rfl ?_
  refine J.iadd dL_law_912 ?_
  refine J.topi (y := nI (ix + 1)) (nI_add ix 1) ?_
  refine J.sld S dL_law_913 rfl (by omega) hN e1 ?_
  refine J.callV0 q1 (ci := 7) (st := []) B h1 ml_L_99 mf_yX7_dipOf mi_yX7_dipOf rfl dL_law_914 hx rfl rfl rfl hkc hnc (fun v u hp => ?_)
  obtain ⟨o, rfl, ⟨q2, f2, hm⟩, po2, h3, h4⟩ := h2 v u hp
  show J G X mL _ _ _ 917 _ [.int o]
  refine J.aload_n 2 dL_law_917 rfl ?_
  refine J.aload_n 0 dL_law_918 rfl ?_
  refine J.iload_n 3 dL_law_919 rfl ?_
  refine J.iconst (1 : Int32) dL_law_920 rfl ?_
  refine J.iadd dL_law_921 ?_
  refine J.topi (y := nI (ix + 1)) (nI_add ix 1) ?_
  refine J.sld S dL_law_922 rfl (by omega) hN e1 ?_
  refine J.callV0 q2 (ci := 8) (st := [.int o]) B h3 ml_L_102 mf_yX8_dipOf mi_yX8_dipOf rfl dL_law_923 hm rfl rfl rfl (by omega) (by omega) (fun v2 u2 hp2 => ?_)
  obtain ⟨rfl, h5⟩ := h4 v2 u2 hp2
  show J G X mL _ _ _ 926 _ [.int o, .int o]
  refine J.icmp_eq dL_law_926 (fun _ => ?_) (fun z => absurd rfl z)
  exact h5
set_option maxHeartbeats 4000000 in
set_option maxRecDepth 100000 in
theorem lg_lows {l : Launch} {G : jG} {X : jX} {ws : va_W} {k n b N x m ix c1 s1 : Nat} {xs : Nat → Int32} {a1 a2 : Int32} {po1 : Option Value → va_W → Prop} (B : jB0 l X 9 334 600000 7302250) (S : jS G X b N xs) (hN : N < 2 ^ 31) (hi : ix + 7 ≤ N) (e1 : xs (ix + 1) = a1) (e2 : xs (ix + 2) = a2) (hkc : k + c1 ≤ 600000) (hnc : n + s1 ≤ 7302250) (hx : ∃ (q : Nat) (fs : List Value), ws[q]? = some (x, .inr (7, fs))) (h1 : Mt l G yX7_lows mX7_lows 5 110 c1 s1 [.ref x, .int a1, .int a2] ws po1) (h2 : ∀ v u, po1 v u → ∃ o : Int32, v = some (.int o) ∧ (∃ (q : Nat) (fs : List Value), u[q]? = some (m, .inr (8, fs))) ∧ ∃ po2 : Option Value → va_W → Prop, Mt l G yX8_lows mX8_lows 4 97 0 0 [.ref m, .int a1, .int a2] u po2 ∧ ∀ v2 u2, po2 v2 u2 → v2 = some (.int o) ∧ J G X mL u2 (k + c1 + 0) (n + s1 + 0) 1421 [(0, .ref b), (1, .ref x), (2, .ref m), (3, .int (nI ix))] []) : J G X mL ws k n 931 [(0, .ref b), (1, .ref x), (2, .ref m), (3, .int (nI ix))] [] := by
  obtain ⟨q1, f1, hx⟩ := hx
  refine J.aload_n 1 dL_law_931 rfl ?_
  refine J.aload_n 0 dL_law_932 rfl ?_
  refine J.iload_n 3 dL_law_933 rfl ?_
  refine J.iconst (1 : Int32) dL_law_934 rfl ?_
  refine J.iadd dL_law_935 ?_
  refine J.topi (y := nI (ix + 1)) (nI_add ix 1) ?_
  refine J.sld S dL_law_936 rfl (by omega) hN e1 ?_
  refine J.aload_n 0 dL_law_937 rfl ?_
  refine J.iload_n 3 dL_law_938 rfl ?_
  refine J.iconst (2 : Int32) dL_law_939 rfl ?_
  refine J.iadd dL_law_940 ?_
  refine J.topi (y := nI (ix + 2)) (nI_add ix 2) ?_
  refine J.sld S dL_law_941 rfl (by omega) hN e2 ?_
  refine J.callV0 q1 (ci := 7) (st := []) B h1 ml_L_103 mf_yX7_lows mi_yX7_lows rfl dL_law_942 hx rfl rfl rfl hkc hnc (fun v u hp => ?_)
  obtain ⟨o, rfl, ⟨q2, f2, hm⟩, po2, h3, h4⟩ := h2 v u hp
  show J G X mL _ _ _ 945 _ [.int o]
  refine J.aload_n 2 dL_law_945 rfl ?_
  refine J.aload_n 0 dL_law_946 rfl ?_
  refine J.iload_n 3 dL_law_947 rfl ?_
  refine J.iconst (1 : Int32) dL_law_948 rfl ?_
  refine J.iadd dL_law_949 ?_
  refine J.topi (y := nI (ix + 1)) (nI_add ix 1) ?_
  refine J.sld S dL_law_950 rfl (by omega) hN e1 ?_
  refine J.aload_n 0 dL_law_951 rfl ?_
  refine J.iload_n 3 dL_law_952 rfl ?_
  refine J.iconst (2 : Int32) dL_law_953 rfl ?_
  refine J.iadd dL_law_954 ?_
  refine J.topi (y := nI (ix + 2)) (nI_add ix 2) ?_
  refine J.sld S dL_law_955 rfl (by omega) hN e2 ?_
  refine J.callV0 q2 (ci := 8) (st := [.int o]) B h3 ml_L_106 mf_yX8_lows mi_yX8_lows rfl dL_law_956 hm rfl rfl rfl (by omega) (by omega) (fun v2 u2 hp2 => ?_)
  obtain ⟨rfl, h5⟩ := h4 v2 u2 hp2
  show J G X mL _ _ _ 959 _ [.int o, .int o]
  refine J.icmp_eq dL_law_959 (fun _ => ?_) (fun z => absurd rfl z)
  exact h5
set_option maxHeartbeats 4000000 in
set_option maxRecDepth 100000 in
theorem lg_low {l : Launch} {G : jG} {X : jX} {ws : va_W} {k n b N x m ix c1 s1 : Nat} {xs : Nat → Int32} {a1 a2 a3 : Int32} {po1 : Option Value → va_W → Prop} (B : jB0 l X 9 334 600000 7302250) (S : jS G X b N xs) (hN : N < 2 ^ 31) (hi : ix + 7 ≤ N) (e1 : xs (ix + 1) = a1) (e2 : xs (ix + 2) = a2) (e3 : xs (ix + 3) = a3) (hkc : k + c1 ≤ 600000) (hnc : n + s1 ≤ 7302250) (hx : ∃ (q : Nat) (fs : List Value), ws[q]? = some (x, .inr (7, fs))) (h1 : Mt l G yX7_low mX7_low 5 110 c1 s1 [.ref x, .int a1, .int a2, .int a3] ws po1) (h2 : ∀ v u, po1 v u → ∃ o : Int32, v = some (.int o) ∧ (∃ (q : Nat) (fs : List Value), u[q]? = some (m, .inr (8, fs))) ∧ ∃ po2 : Option Value → va_W → Prop, Mt l G yX8_low mX8_low 4 97 0 0 [.ref m, .int a1, .int a2, .int a3] u po2 ∧ ∀ v2 u2, po2 v2 u2 → v2 = some (.int o) ∧ J G X mL u2 (k + c1 + 0) (n + s1 + 0) 1421 [(0, .ref b), (1, .ref x), (2, .ref m), (3, .int (nI ix))] []) : J G X mL ws k n 964 [(0, .ref b), (1, .ref x), (2, .ref m), (3, .int (nI ix))] [] := by
  obtain ⟨q1, f1, hx⟩ := hx
  refine J.aload_n 1 dL_law_964 rfl ?_
  refine J.aload_n 0 dL_law_965 rfl ?_
  refine J.iload_n 3 dL_law_966 rfl ?_
  refine J.iconst (1 : Int32) dL_law_967 rfl ?_
  refine J.iadd dL_law_968 ?_
  refine J.topi (y := nI (ix + 1)) (nI_add ix 1) ?_
  refine J.sld S dL_law_969 rfl (by omega) hN e1 ?_
  refine J.aload_n 0 dL_law_970 rfl ?_
  refine J.iload_n 3 dL_law_971 rfl ?_
  refine J.iconst (2 : Int32) dL_law_972 rfl ?_
  refine J.iadd dL_law_973 ?_
  refine J.topi (y := nI (ix + 2)) (nI_add ix 2) ?_
  refine J.sld S dL_law_974 rfl (by omega) hN e2 ?_
  refine J.aload_n 0 dL_law_975 rfl ?_
  refine J.iload_n 3 dL_law_976 rfl ?_
  refine J.iconst (3 : Int32) dL_law_977 rfl ?_
  refine J.iadd dL_law_978 ?_
  refine J.topi (y := nI (ix + 3)) (nI_add ix 3) ?_
  refine J.sld S dL_law_979 rfl (by omega) hN e3 ?_
  refine J.callV0 q1 (ci := 7) (st := []) B h1 ml_L_107 mf_yX7_low mi_yX7_low rfl dL_law_980 hx rfl rfl rfl hkc hnc (fun v u hp => ?_)
  obtain ⟨o, rfl, ⟨q2, f2, hm⟩, po2, h3, h4⟩ := h2 v u hp
  show J G X mL _ _ _ 983 _ [.int o]
  refine J.aload_n 2 dL_law_983 rfl ?_
  refine J.aload_n 0 dL_law_984 rfl ?_
  refine J.iload_n 3 dL_law_985 rfl ?_
  refine J.iconst (1 : Int32) dL_law_986 rfl ?_
  refine J.iadd dL_law_987 ?_
  refine J.topi (y := nI (ix + 1)) (nI_add ix 1) ?_
  refine J.sld S dL_law_988 rfl (by omega) hN e1 ?_
  refine J.aload_n 0 dL_law_989 rfl ?_
  refine J.iload_n 3 dL_law_990 rfl ?_
  refine J.iconst (2 : Int32) dL_law_991 rfl ?_
  refine J.iadd dL_law_992 ?_
  refine J.topi (y := nI (ix + 2)) (nI_add ix 2) ?_
  refine J.sld S dL_law_993 rfl (by omega) hN e2 ?_
  refine J.aload_n 0 dL_law_994 rfl ?_
  refine J.iload_n 3 dL_law_995 rfl ?_
  refine J.iconst (3 : Int32) dL_law_996 rfl ?_
  refine J.iadd dL_law_997 ?_
  refine J.topi (y := nI (ix + 3)) (nI_add ix 3) ?_
  refine J.sld S dL_law_998 rfl (by omega) hN e3 ?_
  refine J.callV0 q2 (ci := 8) (st := [.int o]) B h3 ml_L_110 mf_yX8_low mi_yX8_low rfl dL_law_999 hm rfl rfl rfl (by omega) (by omega) (fun v2 u2 hp2 => ?_)
  obtain ⟨rfl, h5⟩ := h4 v2 u2 hp2
  show J G X mL _ _ _ 1002 _ [.int o, .int o]
  refine J.icmp_eq dL_law_1002 (fun _ => ?_) (fun z => absurd rfl z)
  exact h5
set_option maxHeartbeats 4000000 in
set_option maxRecDepth 100000 in
theorem lg_turn {l : Launch} {G : jG} {X : jX} {ws : va_W} {k n b N x m ix c1 s1 : Nat} {xs : Nat → Int32} {a1 a2 a3 a4 a5 a6 : Int32} {po1 : Option Value → va_W → Prop} (B : jB0 l X 9 334 600000 7302250) (S : jS G X b N xs) (hN : N < 2 ^ 31) (hi : ix + 7 ≤ N) (e1 : xs (ix + 1) = a1) (e2 : xs (ix + 2) = a2) (e3 : xs (ix + 3) = a3) (e4 : xs (ix + 4) = a4) (e5 : xs (ix + 5) = a5) (e6 : xs (ix + 6) = a6) (hkc : k + c1 ≤ 600000) (hnc : n + s1 ≤ 7302250) (hx : ∃ (q : Nat) (fs : List Value), ws[q]? = some (x, .inr (7, fs))) (h1 : Mt l G yX7_turn mX7_turn 6 135 c1 s1 [.ref x, .int a1, .int a2, .int a3, .int a4, .int a5, .int a6] ws po1) (h2 : ∀ v u, po1 v u → ∃ o : Int32, v = some (.int o) ∧ (∃ (q : Nat) (fs : List Value), u[q]? = some (m, .inr (8, fs))) ∧ ∃ po2 : Option Value → va_W → Prop, Mt l G yX8_turn mX8_turn 4 97 0 0 [.ref m, .int a1, .int a2, .int a3, .int a4, .int a5, .int a6] u po2 ∧ ∀ v2 u2, po2 v2 u2 → v2 = some (.int o) ∧ J G X mL u2 (k + c1 + 0) (n + s1 + 0) 1421 [(0, .ref b), (1, .ref x), (2, .ref m), (3, .int (nI ix))] []) : J G X mL ws k n 1007 [(0, .ref b), (1, .ref x), (2, .ref m), (3, .int (nI ix))] [] := by
  obtain ⟨q1, f1, hx⟩ := hx
  refine J.aload_n 1 dL_law_1007 rfl ?_
  refine J.aload_n 0 dL_law_1008 rfl ?_
  refine J.iload_n 3 dL_law_1009 rfl ?_
  refine J.iconst (1 : Int32) dL_law_1010 rfl ?_
  refine J.iadd dL_law_1011 ?_
  refine J.topi (y := nI (ix + 1)) (nI_add ix 1) ?_
  refine J.sld S dL_law_1012 rfl (by omega) hN e1 ?_
  refine J.aload_n 0 dL_law_1013 rfl ?_
  refine J.iload_n 3 dL_law_1014 rfl ?_
  refine J.iconst (2 : Int32) dL_law_1015 rfl ?_
  refine J.iadd dL_law_1016 ?_
  refine J.topi (y := nI (ix + 2)) (nI_add ix 2) ?_
  refine J.sld S dL_law_1017 rfl (by omega) hN e2 ?_
  refine J.aload_n 0 dL_law_1018 rfl ?_
  refine J.iload_n 3 dL_law_1019 rfl ?_
  refine J.iconst (3 : Int32) dL_law_1020 rfl ?_
  refine J.iadd dL_law_1021 ?_
  refine J.topi (y := nI (ix + 3)) (nI_add ix 3) ?_
  refine J.sld S dL_law_1022 rfl (by omega) hN e3 ?_
  refine J.aload_n 0 dL_law_1023 rfl ?_
  refine J.iload_n 3 dL_law_1024 rfl ?_
  refine J.iconst (4 : Int32) dL_law_1025 rfl ?_
  refine J.iadd dL_law_1026 ?_
  refine J.topi (y := nI (ix + 4)) (nI_add ix 4) ?_
  refine J.sld S dL_law_1027 rfl (by omega) hN e4 ?_
  refine J.aload_n 0 dL_law_1028 rfl ?_
  refine J.iload_n 3 dL_law_1029 rfl ?_
  refine J.iconst (5 : Int32) dL_law_1030 rfl ?_
  refine J.iadd dL_law_1031 ?_
  refine J.topi (y := nI (ix + 5)) (nI_add ix 5) ?_
  refine J.sld S dL_law_1032 rfl (by omega) hN e5 ?_
  refine J.aload_n 0 dL_law_1033 rfl ?_
  refine J.iload_n 3 dL_law_1034 rfl ?_
  refine J.bipush (6 : Int32) dL_law_1035 rfl ?_
  refine J.iadd dL_law_1037 ?_
  refine J.topi (y := nI (ix + 6)) (nI_add ix 6) ?_
  refine J.sld S dL_law_1038 rfl (by omega) hN e6 ?_
  refine J.callV0 q1 (ci := 7) (st := []) B h1 ml_L_111 mf_yX7_turn mi_yX7_turn rfl dL_law_1039 hx rfl rfl rfl hkc hnc (fun v u hp => ?_)
  obtain ⟨o, rfl, ⟨q2, f2, hm⟩, po2, h3, h4⟩ := h2 v u hp
  show J G X mL _ _ _ 1042 _ [.int o]
  refine J.aload_n 2 dL_law_1042 rfl ?_
  refine J.aload_n 0 dL_law_1043 rfl ?_
  refine J.iload_n 3 dL_law_1044 rfl ?_
  refine J.iconst (1 : Int32) dL_law_1045 rfl ?_
  refine J.iadd dL_law_1046 ?_
  refine J.topi (y := nI (ix + 1)) (nI_add ix 1) ?_
  refine J.sld S dL_law_1047 rfl (by omega) hN e1 ?_
  refine J.aload_n 0 dL_law_1048 rfl ?_
  refine J.iload_n 3 dL_law_1049 rfl ?_
  refine J.iconst (2 : Int32) dL_law_1050 rfl ?_
  refine J.iadd dL_law_1051 ?_
  refine J.topi (y := nI (ix + 2)) (nI_add ix 2) ?_
  refine J.sld S dL_law_1052 rfl (by omega) hN e2 ?_
  refine J.aload_n 0 dL_law_1053 rfl ?_
  refine J.iload_n 3 dL_law_1054 rfl ?_
  refine J.iconst (3 : Int32) dL_law_1055 rfl ?_
  refine J.iadd dL_law_1056 ?_
  refine J.topi (y := nI (ix + 3)) (nI_add ix 3) ?_
  refine J.sld S dL_law_1057 rfl (by omega) hN e3 ?_
  refine J.aload_n 0 dL_law_1058 rfl ?_
  refine J.iload_n 3 dL_law_1059 rfl ?_
  refine J.iconst (4 : Int32) dL_law_1060 rfl ?_
  refine J.iadd dL_law_1061 ?_
  refine J.topi (y := nI (ix + 4)) (nI_add ix 4) ?_
  refine J.sld S dL_law_1062 rfl (by omega) hN e4 ?_
  refine J.aload_n 0 dL_law_1063 rfl ?_
  refine J.iload_n 3 dL_law_1064 rfl ?_
  refine J.iconst (5 : Int32) dL_law_1065 rfl ?_
  refine J.iadd dL_law_1066 ?_
  refine J.topi (y := nI (ix + 5)) (nI_add ix 5) ?_
  refine J.sld S dL_law_1067 rfl (by omega) hN e5 ?_
  refine J.aload_n 0 dL_law_1068 rfl ?_
  refine J.iload_n 3 dL_law_1069 rfl ?_
  refine J.bipush (6 : Int32) dL_law_1070 rfl ?_
  refine J.iadd dL_law_1072 ?_
  refine J.topi (y := nI (ix + 6)) (nI_add ix 6) ?_
  refine J.sld S dL_law_1073 rfl (by omega) hN e6 ?_
  refine J.callV0 q2 (ci := 8) (st := [.int o]) B h3 ml_L_115 mf_yX8_turn mi_yX8_turn rfl dL_law_1074 hm rfl rfl rfl (by omega) (by omega) (fun v2 u2 hp2 => ?_)
  obtain ⟨rfl, h5⟩ := h4 v2 u2 hp2
  show J G X mL _ _ _ 1077 _ [.int o, .int o]
  refine J.icmp_eq dL_law_1077 (fun _ => ?_) (fun z => absurd rfl z)
  exact h5
set_option maxHeartbeats 4000000 in
set_option maxRecDepth 100000 in
theorem lg_late {l : Launch} {G : jG} {X : jX} {ws : va_W} {k n b N x m ix c1 s1 : Nat} {xs : Nat → Int32} {a1 a2 a3 a4 a5 a6 : Int32} {po1 : Option Value → va_W → Prop} (B : jB0 l X 9 334 600000 7302250) (S : jS G X b N xs) (hN : N < 2 ^ 31) (hi : ix + 7 ≤ N) (e1 : xs (ix + 1) = a1) (e2 : xs (ix + 2) = a2) (e3 : xs (ix + 3) = a3) (e4 : xs (ix + 4) = a4) (e5 : xs (ix + 5) = a5) (e6 : xs (ix + 6) = a6) (hkc : k + c1 ≤ 600000) (hnc : n + s1 ≤ 7302250) (hx : ∃ (q : Nat) (fs : List Value), ws[q]? = some (x, .inr (7, fs))) (h1 : Mt l G yX7_late mX7_late 6 135 c1 s1 [.ref x, .int a1, .int a2, .int a3, .int a4, .int a5, .int a6] ws po1) (h2 : ∀ v u, po1 v u → ∃ o : Int32, v = some (.int o) ∧ (∃ (q : Nat) (fs : List Value), u[q]? = some (m, .inr (8, fs))) ∧ ∃ po2 : Option Value → va_W → Prop, Mt l G yX8_late mX8_late 4 97 0 0 [.ref m, .int a1, .int a2, .int a3, .int a4, .int a5, .int a6] u po2 ∧ ∀ v2 u2, po2 v2 u2 → v2 = some (.int o) ∧ J G X mL u2 (k + c1 + 0) (n + s1 + 0) 1421 [(0, .ref b), (1, .ref x), (2, .ref m), (3, .int (nI ix))] []) : J G X mL ws k n 1082 [(0, .ref b), (1, .ref x), (2, .ref m), (3, .int (nI ix))] [] := by
  obtain ⟨q1, f1, hx⟩ := hx
  refine J.aload_n 1 dL_law_1082 rfl ?_
  refine J.aload_n 0 dL_law_1083 rfl ?_
  refine J.iload_n 3 dL_law_1084 rfl ?_
  refine J.iconst (1 : Int32) dL_law_1085 rfl ?_
  refine J.iadd dL_law_1086 ?_
  refine J.topi (y := nI (ix + 1)) (nI_add ix 1) ?_
  refine J.sld S dL_law_1087 rfl (by omega) hN e1 ?_
  refine J.aload_n 0 dL_law_1088 rfl ?_
  refine J.iload_n 3 dL_law_1089 rfl ?_
  refine J.iconst (2 : Int32) dL_law_1090 rfl ?_
  refine J.iadd dL_law_1091 ?_
  refine J.topi (y := nI (ix + 2)) (nI_add ix 2) ?_
  refine J.sld S dL_law_1092 rfl (by omega) hN e2 ?_
  refine J.aload_n 0 dL_law_1093 rfl ?_
  refine J.iload_n 3 dL_law_1094 rfl ?_
  refine J.iconst (3 : Int32) dL_law_1095 rfl ?_
  refine J.iadd dL_law_1096 ?_
  refine J.topi (y := nI (ix + 3)) (nI_add ix 3) ?_
  refine J.sld S dL_law_1097 rfl (by omega) hN e3 ?_
  refine J.aload_n 0 dL_law_1098 rfl ?_
  refine J.iload_n 3 dL_law_1099 rfl ?_
  refine J.iconst (4 : Int32) dL_law_1100 rfl ?_
  refine J.iadd dL_law_1101 ?_
  refine J.topi (y := nI (ix + 4)) (nI_add ix 4) ?_
  refine J.sld S dL_law_1102 rfl (by omega) hN e4 ?_
  refine J.aload_n 0 dL_law_1103 rfl ?_
  refine J.iload_n 3 dL_law_1104 rfl ?_
  refine J.iconst (5 : Int32) dL_law_1105 rfl ?_
  refine J.iadd dL_law_1106 ?_
  refine J.topi (y := nI (ix + 5)) (nI_add ix 5) ?_
  refine J.sld S dL_law_1107 rfl (by omega) hN e5 ?_
  refine J.aload_n 0 dL_law_1108 rfl ?_
  refine J.iload_n 3 dL_law_1109 rfl ?_
  refine J.bipush (6 : Int32) dL_law_1110 rfl ?_
  refine J.iadd dL_law_1112 ?_
  refine J.topi (y := nI (ix + 6)) (nI_add ix 6) ?_
  refine J.sld S dL_law_1113 rfl (by omega) hN e6 ?_
  refine J.callV0 q1 (ci := 7) (st := []) B h1 ml_L_116 mf_yX7_late mi_yX7_late rfl dL_law_1114 hx rfl rfl rfl hkc hnc (fun v u hp => ?_)
  obtain ⟨o, rfl, ⟨q2, f2, hm⟩, po2, h3, h4⟩ := h2 v u hp
  show J G X mL _ _ _ 1117 _ [.int o]
  refine J.aload_n 2 dL_law_1117 rfl ?_
  refine J.aload_n 0 dL_law_1118 rfl ?_
  refine J.iload_n 3 dL_law_1119 rfl ?_
  refine J.iconst (1 : Int32) dL_law_1120 rfl ?_
  refine J.iadd dL_law_1121 ?_
  refine J.topi (y := nI (ix + 1)) (nI_add ix 1) ?_
  refine J.sld S dL_law_1122 rfl (by omega) hN e1 ?_
  refine J.aload_n 0 dL_law_1123 rfl ?_
  refine J.iload_n 3 dL_law_1124 rfl ?_
  refine J.iconst (2 : Int32) dL_law_1125 rfl ?_
  refine J.iadd dL_law_1126 ?_
  refine J.topi (y := nI (ix + 2)) (nI_add ix 2) ?_
  refine J.sld S dL_law_1127 rfl (by omega) hN e2 ?_
  refine J.aload_n 0 dL_law_1128 rfl ?_
  refine J.iload_n 3 dL_law_1129 rfl ?_
  refine J.iconst (3 : Int32) dL_law_1130 rfl ?_
  refine J.iadd dL_law_1131 ?_
  refine J.topi (y := nI (ix + 3)) (nI_add ix 3) ?_
  refine J.sld S dL_law_1132 rfl (by omega) hN e3 ?_
  refine J.aload_n 0 dL_law_1133 rfl ?_
  refine J.iload_n 3 dL_law_1134 rfl ?_
  refine J.iconst (4 : Int32) dL_law_1135 rfl ?_
  refine J.iadd dL_law_1136 ?_
  refine J.topi (y := nI (ix + 4)) (nI_add ix 4) ?_
  refine J.sld S dL_law_1137 rfl (by omega) hN e4 ?_
  refine J.aload_n 0 dL_law_1138 rfl ?_
  refine J.iload_n 3 dL_law_1139 rfl ?_
  refine J.iconst (5 : Int32) dL_law_1140 rfl ?_
  refine J.iadd dL_law_1141 ?_
  refine J.topi (y := nI (ix + 5)) (nI_add ix 5) ?_
  refine J.sld S dL_law_1142 rfl (by omega) hN e5 ?_
  refine J.aload_n 0 dL_law_1143 rfl ?_
  refine J.iload_n 3 dL_law_1144 rfl ?_
  refine J.bipush (6 : Int32) dL_law_1145 rfl ?_
  refine J.iadd dL_law_1147 ?_
  refine J.topi (y := nI (ix + 6)) (nI_add ix 6) ?_
  refine J.sld S dL_law_1148 rfl (by omega) hN e6 ?_
  refine J.callV0 q2 (ci := 8) (st := [.int o]) B h3 ml_L_119 mf_yX8_late mi_yX8_late rfl dL_law_1149 hm rfl rfl rfl (by omega) (by omega) (fun v2 u2 hp2 => ?_)
  obtain ⟨rfl, h5⟩ := h4 v2 u2 hp2
  show J G X mL _ _ _ 1152 _ [.int o, .int o]
  refine J.icmp_eq dL_law_1152 (fun _ => ?_) (fun z => absurd rfl z)
  exact h5
set_option maxHeartbeats 4000000 in
set_option maxRecDepth 100000 in
theorem lg_bent {l : Launch} {G : jG} {X : jX} {ws : va_W} {k n b N x m ix c1 s1 : Nat} {xs : Nat → Int32} {a1 a2 a3 a4 a5 a6 : Int32} {po1 : Option Value → va_W → Prop} (B : jB0 l X 9 334 600000 7302250) (S : jS G X b N xs) (hN : N < 2 ^ 31) (hi : ix + 7 ≤ N) (e1 : xs (ix + 1) = a1) (e2 : xs (ix + 2) = a2) (e3 : xs (ix + 3) = a3) (e4 : xs (ix + 4) = a4) (e5 : xs (ix + 5) = a5) (e6 : xs (ix + 6) = a6) (hkc : k + c1 ≤ 600000) (hnc : n + s1 ≤ 7302250) (hx : ∃ (q : Nat) (fs : List Value), ws[q]? = some (x, .inr (7, fs))) (h1 : Mt l G yX7_bent mX7_bent 6 135 c1 s1 [.ref x, .int a1, .int a2, .int a3, .int a4, .int a5, .int a6] ws po1) (h2 : ∀ v u, po1 v u → ∃ o : Int32, v = some (.int o) ∧ (∃ (q : Nat) (fs : List Value), u[q]? = some (m, .inr (8, fs))) ∧ ∃ po2 : Option Value → va_W → Prop, Mt l G yX8_bent mX8_bent 4 97 0 0 [.ref m, .int a1, .int a2, .int a3, .int a4, .int a5, .int a6] u po2 ∧ ∀ v2 u2, po2 v2 u2 → v2 = some (.int o) ∧ J G X mL u2 (k + c1 + 0) (n + s1 + 0) 1421 [(0, .ref b), (1, .ref x), (2, .ref m), (3, .int (nI ix))] []) : J G X mL ws k n 1157 [(0, .ref b), (1, .ref x), (2, .ref m), (3, .int (nI ix))] [] := by
  obtain ⟨q1, f1, hx⟩ := hx
  refine J.aload_n 1 dL_law_1157 rfl ?_
  refine J.aload_n 0 dL_law_1158 rfl ?_
  refine J.iload_n 3 dL_law_1159 rfl ?_
  refine J.iconst (1 : Int32) dL_law_1160 rfl ?_
  refine J.iadd dL_law_1161 ?_
  refine J.topi (y := nI (ix + 1)) (nI_add ix 1) ?_
  refine J.sld S dL_law_1162 rfl (by omega) hN e1 ?_
  refine J.aload_n 0 dL_law_1163 rfl ?_
  refine J.iload_n 3 dL_law_1164 rfl ?_
  refine J.iconst (2 : Int32) dL_law_1165 rfl ?_
  refine J.iadd dL_law_1166 ?_
  refine J.topi (y := nI (ix + 2)) (nI_add ix 2) ?_
  refine J.sld S dL_law_1167 rfl (by omega) hN e2 ?_
  refine J.aload_n 0 dL_law_1168 rfl ?_
  refine J.iload_n 3 dL_law_1169 rfl ?_
  refine J.iconst (3 : Int32) dL_law_1170 rfl ?_
  refine J.iadd dL_law_1171 ?_
  refine J.topi (y := nI (ix + 3)) (nI_add ix 3) ?_
  refine J.sld S dL_law_1172 rfl (by omega) hN e3 ?_
  refine J.aload_n 0 dL_law_1173 rfl ?_
  refine J.iload_n 3 dL_law_1174 rfl ?_
  refine J.iconst (4 : Int32) dL_law_1175 rfl ?_
  refine J.iadd dL_law_1176 ?_
  refine J.topi (y := nI (ix + 4)) (nI_add ix 4) ?_
  refine J.sld S dL_law_1177 rfl (by omega) hN e4 ?_
  refine J.aload_n 0 dL_law_1178 rfl ?_
  refine J.iload_n 3 dL_law_1179 rfl ?_
  refine J.iconst (5 : Int32) dL_law_1180 rfl ?_
  refine J.iadd dL_law_1181 ?_
  refine J.topi (y := nI (ix + 5)) (nI_add ix 5) ?_
  refine J.sld S dL_law_1182 rfl (by omega) hN e5 ?_
  refine J.aload_n 0 dL_law_1183 rfl ?_
  refine J.iload_n 3 dL_law_1184 rfl ?_
  refine J.bipush (6 : Int32) dL_law_1185 rfl ?_
  refine J.iadd dL_law_1187 ?_
  refine J.topi (y := nI (ix + 6)) (nI_add ix 6) ?_
  refine J.sld S dL_law_1188 rfl (by omega) hN e6 ?_
  refine J.callV0 q1 (ci := 7) (st := []) B h1 ml_L_120 mf_yX7_bent mi_yX7_bent rfl dL_law_1189 hx rfl rfl rfl hkc hnc (fun v u hp => ?_)
  obtain ⟨o, rfl, ⟨q2, f2, hm⟩, po2, h3, h4⟩ := h2 v u hp
  show J G X mL _ _ _ 1192 _ [.int o]
  refine J.aload_n 2 dL_law_1192 rfl ?_
  refine J.aload_n 0 dL_law_1193 rfl ?_
  refine J.iload_n 3 dL_law_1194 rfl ?_
  refine J.iconst (1 : Int32) dL_law_1195 rfl ?_
  refine J.iadd dL_law_1196 ?_
  refine J.topi (y := nI (ix + 1)) (nI_add ix 1) ?_
  refine J.sld S dL_law_1197 rfl (by omega) hN e1 ?_
  refine J.aload_n 0 dL_law_1198 rfl ?_
  refine J.iload_n 3 dL_law_1199 rfl ?_
  refine J.iconst (2 : Int32) dL_law_1200 rfl ?_
  refine J.iadd dL_law_1201 ?_
  refine J.topi (y := nI (ix + 2)) (nI_add ix 2) ?_
  refine J.sld S dL_law_1202 rfl (by omega) hN e2 ?_
  refine J.aload_n 0 dL_law_1203 rfl ?_
  refine J.iload_n 3 dL_law_1204 rfl ?_
  refine J.iconst (3 : Int32) dL_law_1205 rfl ?_
  refine J.iadd dL_law_1206 ?_
  refine J.topi (y := nI (ix + 3)) (nI_add ix 3) ?_
  refine J.sld S dL_law_1207 rfl (by omega) hN e3 ?_
  refine J.aload_n 0 dL_law_1208 rfl ?_
  refine J.iload_n 3 dL_law_1209 rfl ?_
  refine J.iconst (4 : Int32) dL_law_1210 rfl ?_
  refine J.iadd dL_law_1211 ?_
  refine J.topi (y := nI (ix + 4)) (nI_add ix 4) ?_
  refine J.sld S dL_law_1212 rfl (by omega) hN e4 ?_
  refine J.aload_n 0 dL_law_1213 rfl ?_
  refine J.iload_n 3 dL_law_1214 rfl ?_
  refine J.iconst (5 : Int32) dL_law_1215 rfl ?_
  refine J.iadd dL_law_1216 ?_
  refine J.topi (y := nI (ix + 5)) (nI_add ix 5) ?_
  refine J.sld S dL_law_1217 rfl (by omega) hN e5 ?_
  refine J.aload_n 0 dL_law_1218 rfl ?_
  refine J.iload_n 3 dL_law_1219 rfl ?_
  refine J.bipush (6 : Int32) dL_law_1220 rfl ?_
  refine J.iadd dL_law_1222 ?_
  refine J.topi (y := nI (ix + 6)) (nI_add ix 6) ?_
  refine J.sld S dL_law_1223 rfl (by omega) hN e6 ?_
  refine J.callV0 q2 (ci := 8) (st := [.int o]) B h3 ml_L_123 mf_yX8_bent mi_yX8_bent rfl dL_law_1224 hm rfl rfl rfl (by omega) (by omega) (fun v2 u2 hp2 => ?_)
  obtain ⟨rfl, h5⟩ := h4 v2 u2 hp2
  show J G X mL _ _ _ 1227 _ [.int o, .int o]
  refine J.icmp_eq dL_law_1227 (fun _ => ?_) (fun z => absurd rfl z)
  exact h5
set_option maxHeartbeats 4000000 in
set_option maxRecDepth 100000 in
theorem lg_rule {l : Launch} {G : jG} {X : jX} {ws : va_W} {k n b N x m ix c1 s1 : Nat} {xs : Nat → Int32} {a1 a2 a3 a4 : Int32} {po1 : Option Value → va_W → Prop} (B : jB0 l X 9 334 600000 7302250) (S : jS G X b N xs) (hN : N < 2 ^ 31) (hi : ix + 7 ≤ N) (e1 : xs (ix + 1) = a1) (e2 : xs (ix + 2) = a2) (e3 : xs (ix + 3) = a3) (e4 : xs (ix + 4) = a4) (hkc : k + c1 ≤ 600000) (hnc : n + s1 ≤ 7302250) (hx : ∃ (q : Nat) (fs : List Value), ws[q]? = some (x, .inr (7, fs))) (h1 : Mt l G yX7_rule mX7_rule 2 44 c1 s1 [.ref x, .int a1, .int a2, .int a3, .int a4] ws po1) (h2 : ∀ v u, po1 v u → ∃ o : Int32, v = some (.int o) ∧ (∃ (q : Nat) (fs : List Value), u[q]? = some (m, .inr (8, fs))) ∧ ∃ po2 : Option Value → va_W → Prop, Mt l G yX8_rule mX8_rule 1 22 0 0 [.ref m, .int a1, .int a2, .int a3, .int a4] u po2 ∧ ∀ v2 u2, po2 v2 u2 → v2 = some (.int o) ∧ J G X mL u2 (k + c1 + 0) (n + s1 + 0) 1421 [(0, .ref b), (1, .ref x), (2, .ref m), (3, .int (nI ix))] []) : J G X mL ws k n 1232 [(0, .ref b), (1, .ref x), (2, .ref m), (3, .int (nI ix))] [] := by
  obtain ⟨q1, f1, hx⟩ := hx
  refine J.aload_n 1 dL_law_1232 rfl ?_
  refine J.aload_n 0 dL_law_1233 rfl ?_
  refine J.iload_n 3 dL_law_1234 rfl ?_
  refine J.iconst (1 : Int32) dL_law_1235 rfl ?_
  refine J.iadd dL_law_1236 ?_
  refine J.topi (y := nI (ix + 1)) (nI_add ix 1) ?_
  refine J.sld S dL_law_1237 rfl (by omega) hN e1 ?_
  refine J.aload_n 0 dL_law_1238 rfl ?_
  refine J.iload_n 3 dL_law_1239 rfl ?_
  refine J.iconst (2 : Int32) dL_law_1240 rfl ?_
  refine J.iadd dL_law_1241 ?_
  refine J.topi (y := nI (ix + 2)) (nI_add ix 2) ?_
  refine J.sld S dL_law_1242 rfl (by omega) hN e2 ?_
  refine J.aload_n 0 dL_law_1243 rfl ?_
  refine J.iload_n 3 dL_law_1244 rfl ?_
  refine J.iconst (3 : Int32) dL_law_1245 rfl ?_
  refine J.iadd dL_law_1246 ?_
  refine J.topi (y := nI (ix + 3)) (nI_add ix 3) ?_
  refine J.sld S dL_law_1247 rfl (by omega) hN e3 ?_
  refine J.aload_n 0 dL_law_1248 rfl ?_
  refine J.iload_n 3 dL_law_1249 rfl ?_
  refine J.iconst (4 : Int32) dL_law_1250 rfl ?_
  refine J.iadd dL_law_1251 ?_
  refine J.topi (y := nI (ix + 4)) (nI_add ix 4) ?_
  refine J.sld S dL_law_1252 rfl (by omega) hN e4 ?_
  refine J.callV0 q1 (ci := 7) (st := []) B h1 ml_L_124 mf_yX7_rule mi_yX7_rule rfl dL_law_1253 hx rfl rfl rfl hkc hnc (fun v u hp => ?_)
  obtain ⟨o, rfl, ⟨q2, f2, hm⟩, po2, h3, h4⟩ := h2 v u hp
  show J G X mL _ _ _ 1256 _ [.int o]
  refine J.aload_n 2 dL_law_1256 rfl ?_
  refine J.aload_n 0 dL_law_1257 rfl ?_
  refine J.iload_n 3 dL_law_1258 rfl ?_
  refine J.iconst (1 : Int32) dL_law_1259 rfl ?_
  refine J.iadd dL_law_1260 ?_
  refine J.topi (y := nI (ix + 1)) (nI_add ix 1) ?_
  refine J.sld S dL_law_1261 rfl (by omega) hN e1 ?_
  refine J.aload_n 0 dL_law_1262 rfl ?_
  refine J.iload_n 3 dL_law_1263 rfl ?_
  refine J.iconst (2 : Int32) dL_law_1264 rfl ?_
  refine J.iadd dL_law_1265 ?_
  refine J.topi (y := nI (ix + 2)) (nI_add ix 2) ?_
  refine J.sld S dL_law_1266 rfl (by omega) hN e2 ?_
  refine J.aload_n 0 dL_law_1267 rfl ?_
  refine J.iload_n 3 dL_law_1268 rfl ?_
  refine J.iconst (3 : Int32) dL_law_1269 rfl ?_
  refine J.iadd dL_law_1270 ?_
  refine J.topi (y := nI (ix + 3)) (nI_add ix 3) ?_
  refine J.sld S dL_law_1271 rfl (by omega) hN e3 ?_
  refine J.aload_n 0 dL_law_1272 rfl ?_
  refine J.iload_n 3 dL_law_1273 rfl ?_
  refine J.iconst (4 : Int32) dL_law_1274 rfl ?_
  refine J.iadd dL_law_1275 ?_
  refine J.topi (y := nI (ix + 4)) (nI_add ix 4) ?_
  refine J.sld S dL_law_1276 rfl (by omega) hN e4 ?_
  refine J.callV0 q2 (ci := 8) (st := [.int o]) B h3 ml_L_127 mf_yX8_rule mi_yX8_rule rfl dL_law_1277 hm rfl rfl rfl (by omega) (by omega) (fun v2 u2 hp2 => ?_)
  obtain ⟨rfl, h5⟩ := h4 v2 u2 hp2
  show J G X mL _ _ _ 1280 _ [.int o, .int o]
  refine J.icmp_eq dL_law_1280 (fun _ => ?_) (fun z => absurd rfl z)
  exact h5
set_option maxHeartbeats 4000000 in
set_option maxRecDepth 100000 in
theorem lg_classOf {l : Launch} {G : jG} {X : jX} {ws : va_W} {k n b N x m ix c1 s1 : Nat} {xs : Nat → Int32} {a1 : Int32} {po1 : Option Value → va_W → Prop} (B : jB0 l X 9 334 600000 7302250) (S : jS G X b N xs) (hN : N < 2 ^ 31) (hi : ix + 7 ≤ N) (e1 : xs (ix + 1) = a1) (hkc : k + c1 ≤ 600000) (hnc : n + s1 ≤ 7302250) (hx : ∃ (q : Nat) (fs : List Value), ws[q]? = some (x, .inr (7, fs))) (h1 : Mt l G yX7_classOf mX7_classOf 4 87 c1 s1 [.ref x, .int a1] ws po1) (h2 : ∀ v u, po1 v u → ∃ o : Int32, v = some (.int o) ∧ (∃ (q : Nat) (fs : List Value), u[q]? = some (m, .inr (8, fs))) ∧ ∃ po2 : Option Value → va_W → Prop, Mt l G yX8_classOf mX8_classOf 5 118 0 0 [.ref m, .int a1] u po2 ∧ ∀ v2 u2, po2 v2 u2 → v2 = some (.int o) ∧ J G X mL u2 (k + c1 + 0) (n + s1 + 0) 1421 [(0, .ref b), (1, .ref x), (2, .ref m), (3, .int (nI ix))] []) : J G X mL ws k n 1285 [(0, .ref b), (1, .ref x), (2, .ref m), (3, .int (nI ix))] [] := by
  obtain ⟨q1, f1, hx⟩ := hx
  refine J.aload_n 1 dL_law_1285 rfl ?_
  refine J.aload_n 0 dL_law_1286 rfl ?_
  refine J.iload_n 3 dL_law_1287 rfl ?_
  refine J.iconst (1 : Int32) dL_law_1288 rfl ?_
  refine J.iadd dL_law_1289 ?_
  refine J.topi (y := nI (ix + 1)) (nI_add ix 1) ?_
  refine J.sld S dL_law_1290 rfl (by omega) hN e1 ?_
  refine J.callV0 q1 (ci := 7) (st := []) B h1 ml_L_128 mf_yX7_classOf mi_yX7_classOf rfl dL_law_1291 hx rfl rfl rfl hkc hnc (fun v u hp => ?_)
  obtain ⟨o, rfl, ⟨q2, f2, hm⟩, po2, h3, h4⟩ := h2 v u hp
  show J G X mL _ _ _ 1294 _ [.int o]
  refine J.aload_n 2 dL_law_1294 rfl ?_
  refine J.aload_n 0 dL_law_1295 rfl ?_
  refine J.iload_n 3 dL_law_1296 rfl ?_
  refine J.iconst (1 : Int32) dL_law_1297 rfl ?_
  refine J.iadd dL_law_1298 ?_
  refine J.topi (y := nI (ix + 1)) (nI_add ix 1) ?_
  refine J.sld S dL_law_1299 rfl (by omega) hN e1 ?_
  refine J.callV0 q2 (ci := 8) (st := [.int o]) B h3 ml_L_131 mf_yX8_classOf mi_yX8_classOf rfl dL_law_1300 hm rfl rfl rfl (by omega) (by omega) (fun v2 u2 hp2 => ?_)
  obtain ⟨rfl, h5⟩ := h4 v2 u2 hp2
  show J G X mL _ _ _ 1303 _ [.int o, .int o]
  refine J.icmp_eq dL_law_1303 (fun _ => ?_) (fun z => absurd rfl z)
  exact h5
set_option maxHeartbeats 4000000 in
set_option maxRecDepth 100000 in
theorem lg_watch {l : Launch} {G : jG} {X : jX} {ws : va_W} {k n b N x m ix c1 s1 : Nat} {xs : Nat → Int32} {po1 : Option Value → va_W → Prop} (B : jB0 l X 9 334 600000 7302250) (S : jS G X b N xs) (hN : N < 2 ^ 31) (hi : ix + 7 ≤ N)  (hkc : k + c1 ≤ 600000) (hnc : n + s1 ≤ 7302250) (hx : ∃ (q : Nat) (fs : List Value), ws[q]? = some (x, .inr (7, fs))) (h1 : Mt l G yX7_watch mX7_watch 4 85 c1 s1 [.ref x] ws po1) (h2 : ∀ v u, po1 v u → ∃ o : Int32, v = some (.int o) ∧ (∃ (q : Nat) (fs : List Value), u[q]? = some (m, .inr (8, fs))) ∧ ∃ po2 : Option Value → va_W → Prop, Mt l G yX8_watch mX8_watch 5 118 0 0 [.ref m] u po2 ∧ ∀ v2 u2, po2 v2 u2 → v2 = some (.int o) ∧ J G X mL u2 (k + c1 + 0) (n + s1 + 0) 1421 [(0, .ref b), (1, .ref x), (2, .ref m), (3, .int (nI ix))] []) : J G X mL ws k n 1308 [(0, .ref b), (1, .ref x), (2, .ref m), (3, .int (nI ix))] [] := by
  obtain ⟨q1, f1, hx⟩ := hx
  refine J.aload_n 1 dL_law_1308 rfl ?_
  refine J.callV0 q1 (ci := 7) (st := []) B h1 ml_L_132 mf_yX7_watch mi_yX7_watch rfl dL_law_1309 hx rfl rfl rfl hkc hnc (fun v u hp => ?_)
  obtain ⟨o, rfl, ⟨q2, f2, hm⟩, po2, h3, h4⟩ := h2 v u hp
  show J G X mL _ _ _ 1312 _ [.int o]
  refine J.aload_n 2 dL_law_1312 rfl ?_
  refine J.callV0 q2 (ci := 8) (st := [.int o]) B h3 ml_L_135 mf_yX8_watch mi_yX8_watch rfl dL_law_1313 hm rfl rfl rfl (by omega) (by omega) (fun v2 u2 hp2 => ?_)
  obtain ⟨rfl, h5⟩ := h4 v2 u2 hp2
  show J G X mL _ _ _ 1316 _ [.int o, .int o]
  refine J.icmp_eq dL_law_1316 (fun _ => ?_) (fun z => absurd rfl z)
  exact h5
set_option maxHeartbeats 4000000 in
set_option maxRecDepth 100000 in
theorem lg_alarms {l : Launch} {G : jG} {X : jX} {ws : va_W} {k n b N x m ix c1 s1 : Nat} {xs : Nat → Int32} {po1 : Option Value → va_W → Prop} (B : jB0 l X 9 334 600000 7302250) (S : jS G X b N xs) (hN : N < 2 ^ 31) (hi : ix + 7 ≤ N)  (hkc : k + c1 ≤ 600000) (hnc : n + s1 ≤ 7302250) (hx : ∃ (q : Nat) (fs : List Value), ws[q]? = some (x, .inr (7, fs))) (h1 : Mt l G yX7_alarms mX7_alarms 0 0 c1 s1 [.ref x] ws po1) (h2 : ∀ v u, po1 v u → ∃ o : Int32, v = some (.int o) ∧ (∃ (q : Nat) (fs : List Value), u[q]? = some (m, .inr (8, fs))) ∧ ∃ po2 : Option Value → va_W → Prop, Mt l G yX8_alarms mX8_alarms 0 0 0 0 [.ref m] u po2 ∧ ∀ v2 u2, po2 v2 u2 → v2 = some (.int o) ∧ J G X mL u2 (k + c1 + 0) (n + s1 + 0) 1421 [(0, .ref b), (1, .ref x), (2, .ref m), (3, .int (nI ix))] []) : J G X mL ws k n 1321 [(0, .ref b), (1, .ref x), (2, .ref m), (3, .int (nI ix))] [] := by
  obtain ⟨q1, f1, hx⟩ := hx
  refine J.aload_n 1 dL_law_1321 rfl ?_
  refine J.callV0 q1 (ci := 7) (st := []) B h1 ml_L_136 mf_yX7_alarms mi_yX7_alarms rfl dL_law_1322 hx rfl rfl rfl hkc hnc (fun v u hp => ?_)
  obtain ⟨o, rfl, ⟨q2, f2, hm⟩, po2, h3, h4⟩ := h2 v u hp
  show J G X mL _ _ _ 1325 _ [.int o]
  refine J.aload_n 2 dL_law_1325 rfl ?_
  refine J.callV0 q2 (ci := 8) (st := [.int o]) B h3 ml_L_139 mf_yX8_alarms mi_yX8_alarms rfl dL_law_1326 hm rfl rfl rfl (by omega) (by omega) (fun v2 u2 hp2 => ?_)
  obtain ⟨rfl, h5⟩ := h4 v2 u2 hp2
  show J G X mL _ _ _ 1329 _ [.int o, .int o]
  refine J.icmp_eq dL_law_1329 (fun _ => ?_) (fun z => absurd rfl z)
  exact h5
set_option maxHeartbeats 4000000 in
set_option maxRecDepth 100000 in
theorem lg_asked {l : Launch} {G : jG} {X : jX} {ws : va_W} {k n b N x m ix c1 s1 : Nat} {xs : Nat → Int32} {po1 : Option Value → va_W → Prop} (B : jB0 l X 9 334 600000 7302250) (S : jS G X b N xs) (hN : N < 2 ^ 31) (hi : ix + 7 ≤ N)  (hkc : k + c1 ≤ 600000) (hnc : n + s1 ≤ 7302250) (hx : ∃ (q : Nat) (fs : List Value), ws[q]? = some (x, .inr (7, fs))) (h1 : Mt l G yX7_asked mX7_asked 0 0 c1 s1 [.ref x] ws po1) (h2 : ∀ v u, po1 v u → ∃ o : Int64, v = some (.long o) ∧ (∃ (q : Nat) (fs : List Value), u[q]? = some (m, .inr (8, fs))) ∧ ∃ po2 : Option Value → va_W → Prop, Mt l G yX8_asked mX8_asked 0 0 0 0 [.ref m] u po2 ∧ ∀ v2 u2, po2 v2 u2 → v2 = some (.long o) ∧ J G X mL u2 (k + c1 + 0) (n + s1 + 0) 1421 [(0, .ref b), (1, .ref x), (2, .ref m), (3, .int (nI ix))] []) : J G X mL ws k n 1334 [(0, .ref b), (1, .ref x), (2, .ref m), (3, .int (nI ix))] [] := by
  obtain ⟨q1, f1, hx⟩ := hx
  refine J.aload_n 1 dL_law_1334 rfl ?_
  refine J.callV0 q1 (ci := 7) (st := []) B h1 ml_L_140 mf_yX7_asked mi_yX7_asked rfl dL_law_1335 hx rfl rfl rfl hkc hnc (fun v u hp => ?_)
  obtain ⟨o, rfl, ⟨q2, f2, hm⟩, po2, h3, h4⟩ := h2 v u hp
  show J G X mL _ _ _ 1338 _ [.long o]
  refine J.aload_n 2 dL_law_1338 rfl ?_
  refine J.callV0 q2 (ci := 8) (st := [.long o]) B h3 ml_L_144 mf_yX8_asked mi_yX8_asked rfl dL_law_1339 hm rfl rfl rfl (by omega) (by omega) (fun v2 u2 hp2 => ?_)
  obtain ⟨rfl, h5⟩ := h4 v2 u2 hp2
  show J G X mL _ _ _ 1342 _ [.long o, .long o]
  refine J.lcmp dL_law_1342 ?_
  refine J.if_eq dL_law_1343 (fun _ => ?_) (fun z => absurd ((lg_cmp_eq o o).mpr rfl) z)
  exact h5
set_option maxHeartbeats 4000000 in
set_option maxRecDepth 100000 in
theorem lg_count {l : Launch} {G : jG} {X : jX} {ws : va_W} {k n b N x m ix c1 s1 : Nat} {xs : Nat → Int32} {a1 : Int32} {po1 : Option Value → va_W → Prop} (B : jB0 l X 9 334 600000 7302250) (S : jS G X b N xs) (hN : N < 2 ^ 31) (hi : ix + 7 ≤ N) (e1 : xs (ix + 1) = a1) (hkc : k + c1 ≤ 600000) (hnc : n + s1 ≤ 7302250) (hx : ∃ (q : Nat) (fs : List Value), ws[q]? = some (x, .inr (7, fs))) (h1 : Mt l G yX7_count mX7_count 1 23 c1 s1 [.ref x, .int a1] ws po1) (h2 : ∀ v u, po1 v u → ∃ o : Int32, v = some (.int o) ∧ (∃ (q : Nat) (fs : List Value), u[q]? = some (m, .inr (8, fs))) ∧ ∃ po2 : Option Value → va_W → Prop, Mt l G yX8_count mX8_count 2 45 0 0 [.ref m, .int a1] u po2 ∧ ∀ v2 u2, po2 v2 u2 → v2 = some (.int o) ∧ J G X mL u2 (k + c1 + 0) (n + s1 + 0) 1421 [(0, .ref b), (1, .ref x), (2, .ref m), (3, .int (nI ix))] []) : J G X mL ws k n 1348 [(0, .ref b), (1, .ref x), (2, .ref m), (3, .int (nI ix))] [] := by
  obtain ⟨q1, f1, hx⟩ := hx
  refine J.aload_n 1 dL_law_1348 rfl ?_
  refine J.aload_n 0 dL_law_1349 rfl ?_
  refine J.iload_n 3 dL_law_1350 rfl ?_
  refine J.iconst (1 : Int32) dL_law_1351 rfl ?_
  refine J.iadd dL_law_1352 ?_
  refine J.topi (y := nI (ix + 1)) (nI_add ix 1) ?_
  refine J.sld S dL_law_1353 rfl (by omega) hN e1 ?_
  refine J.callV0 q1 (ci := 7) (st := []) B h1 ml_L_145 mf_yX7_count mi_yX7_count rfl dL_law_1354 hx rfl rfl rfl hkc hnc (fun v u hp => ?_)
  obtain ⟨o, rfl, ⟨q2, f2, hm⟩, po2, h3, h4⟩ := h2 v u hp
  show J G X mL _ _ _ 1357 _ [.int o]
  refine J.aload_n 2 dL_law_1357 rfl ?_
  refine J.aload_n 0 dL_law_1358 rfl ?_
  refine J.iload_n 3 dL_law_1359 rfl ?_
  refine J.iconst (1 : Int32) dL_law_1360 rfl ?_
  refine J.iadd dL_law_1361 ?_
  refine J.topi (y := nI (ix + 1)) (nI_add ix 1) ?_
  refine J.sld S dL_law_1362 rfl (by omega) hN e1 ?_
  refine J.callV0 q2 (ci := 8) (st := [.int o]) B h3 ml_L_148 mf_yX8_count mi_yX8_count rfl dL_law_1363 hm rfl rfl rfl (by omega) (by omega) (fun v2 u2 hp2 => ?_)
  obtain ⟨rfl, h5⟩ := h4 v2 u2 hp2
  show J G X mL _ _ _ 1366 _ [.int o, .int o]
  refine J.icmp_eq dL_law_1366 (fun _ => ?_) (fun z => absurd rfl z)
  exact h5
set_option maxHeartbeats 4000000 in
set_option maxRecDepth 100000 in
theorem lg_finding {l : Launch} {G : jG} {X : jX} {ws : va_W} {k n b N x m ix c1 s1 : Nat} {xs : Nat → Int32} {po1 : Option Value → va_W → Prop} (B : jB0 l X 9 334 600000 7302250) (S : jS G X b N xs) (hN : N < 2 ^ 31) (hi : ix + 7 ≤ N)  (hkc : k + c1 ≤ 600000) (hnc : n + s1 ≤ 7302250) (hx : ∃ (q : Nat) (fs : List Value), ws[q]? = some (x, .inr (7, fs))) (h1 : Mt l G yX7_finding mX7_finding 0 0 c1 s1 [.ref x] ws po1) (h2 : ∀ v u, po1 v u → ∃ o : Int32, v = some (.int o) ∧ (∃ (q : Nat) (fs : List Value), u[q]? = some (m, .inr (8, fs))) ∧ ∃ po2 : Option Value → va_W → Prop, Mt l G yX8_finding mX8_finding 0 0 0 0 [.ref m] u po2 ∧ ∀ v2 u2, po2 v2 u2 → v2 = some (.int o) ∧ J G X mL u2 (k + c1 + 0) (n + s1 + 0) 1421 [(0, .ref b), (1, .ref x), (2, .ref m), (3, .int (nI ix))] []) : J G X mL ws k n 1371 [(0, .ref b), (1, .ref x), (2, .ref m), (3, .int (nI ix))] [] := by
  obtain ⟨q1, f1, hx⟩ := hx
  refine J.aload_n 1 dL_law_1371 rfl ?_
  refine J.callV0 q1 (ci := 7) (st := []) B h1 ml_L_149 mf_yX7_finding mi_yX7_finding rfl dL_law_1372 hx rfl rfl rfl hkc hnc (fun v u hp => ?_)
  obtain ⟨o, rfl, ⟨q2, f2, hm⟩, po2, h3, h4⟩ := h2 v u hp
  show J G X mL _ _ _ 1375 _ [.int o]
  refine J.aload_n 2 dL_law_1375 rfl ?_
  refine J.callV0 q2 (ci := 8) (st := [.int o]) B h3 ml_L_152 mf_yX8_finding mi_yX8_finding rfl dL_law_1376 hm rfl rfl rfl (by omega) (by omega) (fun v2 u2 hp2 => ?_)
  obtain ⟨rfl, h5⟩ := h4 v2 u2 hp2
  show J G X mL _ _ _ 1379 _ [.int o, .int o]
  refine J.icmp_eq dL_law_1379 (fun _ => ?_) (fun z => absurd rfl z)
  exact h5
set_option maxHeartbeats 4000000 in
set_option maxRecDepth 100000 in
theorem lg_findings {l : Launch} {G : jG} {X : jX} {ws : va_W} {k n b N x m ix c1 s1 : Nat} {xs : Nat → Int32} {a1 : Int32} {po1 : Option Value → va_W → Prop} (B : jB0 l X 9 334 600000 7302250) (S : jS G X b N xs) (hN : N < 2 ^ 31) (hi : ix + 7 ≤ N) (e1 : xs (ix + 1) = a1) (hkc : k + c1 ≤ 600000) (hnc : n + s1 ≤ 7302250) (hx : ∃ (q : Nat) (fs : List Value), ws[q]? = some (x, .inr (7, fs))) (h1 : Mt l G yX7_findings mX7_findings 0 0 c1 s1 [.ref x, .int a1] ws po1) (h2 : ∀ v u, po1 v u → ∃ o : Int32, v = some (.int o) ∧ (∃ (q : Nat) (fs : List Value), u[q]? = some (m, .inr (8, fs))) ∧ ∃ po2 : Option Value → va_W → Prop, Mt l G yX8_findings mX8_findings 1 22 0 0 [.ref m, .int a1] u po2 ∧ ∀ v2 u2, po2 v2 u2 → v2 = some (.int o) ∧ J G X mL u2 (k + c1 + 0) (n + s1 + 0) 1421 [(0, .ref b), (1, .ref x), (2, .ref m), (3, .int (nI ix))] []) : J G X mL ws k n 1384 [(0, .ref b), (1, .ref x), (2, .ref m), (3, .int (nI ix))] [] := by
  obtain ⟨q1, f1, hx⟩ := hx
  refine J.aload_n 1 dL_law_1384 rfl ?_
  refine J.aload_n 0 dL_law_1385 rfl ?_
  refine J.iload_n 3 dL_law_1386 rfl ?_
  refine J.iconst (1 : Int32) dL_law_1387 rfl ?_
  refine J.iadd dL_law_1388 ?_
  refine J.topi (y := nI (ix + 1)) (nI_add ix 1) ?_
  refine J.sld S dL_law_1389 rfl (by omega) hN e1 ?_
  refine J.callV0 q1 (ci := 7) (st := []) B h1 ml_L_153 mf_yX7_findings mi_yX7_findings rfl dL_law_1390 hx rfl rfl rfl hkc hnc (fun v u hp => ?_)
  obtain ⟨o, rfl, ⟨q2, f2, hm⟩, po2, h3, h4⟩ := h2 v u hp
  show J G X mL _ _ _ 1393 _ [.int o]
  refine J.aload_n 2 dL_law_1393 rfl ?_
  refine J.aload_n 0 dL_law_1394 rfl ?_
  refine J.iload_n 3 dL_law_1395 rfl ?_
  refine J.iconst (1 : Int32) dL_law_1396 rfl ?_
  refine J.iadd dL_law_1397 ?_
  refine J.topi (y := nI (ix + 1)) (nI_add ix 1) ?_
  refine J.sld S dL_law_1398 rfl (by omega) hN e1 ?_
  refine J.callV0 q2 (ci := 8) (st := [.int o]) B h3 ml_L_156 mf_yX8_findings mi_yX8_findings rfl dL_law_1399 hm rfl rfl rfl (by omega) (by omega) (fun v2 u2 hp2 => ?_)
  obtain ⟨rfl, h5⟩ := h4 v2 u2 hp2
  show J G X mL _ _ _ 1402 _ [.int o, .int o]
  refine J.icmp_eq dL_law_1402 (fun _ => ?_) (fun z => absurd rfl z)
  exact h5
set_option maxHeartbeats 4000000 in
set_option maxRecDepth 100000 in
theorem lg_digest {l : Launch} {G : jG} {X : jX} {ws : va_W} {k n b N x m ix c1 s1 : Nat} {xs : Nat → Int32} {po1 : Option Value → va_W → Prop} (B : jB0 l X 9 334 600000 7302250) (S : jS G X b N xs) (hN : N < 2 ^ 31) (hi : ix + 7 ≤ N)  (hkc : k + c1 ≤ 600000) (hnc : n + s1 ≤ 7302250) (hx : ∃ (q : Nat) (fs : List Value), ws[q]? = some (x, .inr (7, fs))) (h1 : Mt l G yX7_digest mX7_digest 1 25 c1 s1 [.ref x] ws po1) (h2 : ∀ v u, po1 v u → ∃ o : Int64, v = some (.long o) ∧ (∃ (q : Nat) (fs : List Value), u[q]? = some (m, .inr (8, fs))) ∧ ∃ po2 : Option Value → va_W → Prop, Mt l G yX8_digest mX8_digest 0 0 0 0 [.ref m] u po2 ∧ ∀ v2 u2, po2 v2 u2 → v2 = some (.long o) ∧ J G X mL u2 (k + c1 + 0) (n + s1 + 0) 1421 [(0, .ref b), (1, .ref x), (2, .ref m), (3, .int (nI ix))] []) : J G X mL ws k n 1407 [(0, .ref b), (1, .ref x), (2, .ref m), (3, .int (nI ix))] [] := by
  obtain ⟨q1, f1, hx⟩ := hx
  refine J.aload_n 1 dL_law_1407 rfl ?_
  refine J.callV0 q1 (ci := 7) (st := []) B h1 ml_L_157 mf_yX7_digest mi_yX7_digest rfl dL_law_1408 hx rfl rfl rfl hkc hnc (fun v u hp => ?_)
  obtain ⟨o, rfl, ⟨q2, f2, hm⟩, po2, h3, h4⟩ := h2 v u hp
  show J G X mL _ _ _ 1411 _ [.long o]
  refine J.aload_n 2 dL_law_1411 rfl ?_
  refine J.callV0 q2 (ci := 8) (st := [.long o]) B h3 ml_L_160 mf_yX8_digest mi_yX8_digest rfl dL_law_1412 hm rfl rfl rfl (by omega) (by omega) (fun v2 u2 hp2 => ?_)
  obtain ⟨rfl, h5⟩ := h4 v2 u2 hp2
  show J G X mL _ _ _ 1415 _ [.long o, .long o]
  refine J.lcmp dL_law_1415 ?_
  refine J.if_eq dL_law_1416 (fun _ => ?_) (fun z => absurd ((lg_cmp_eq o o).mpr rfl) z)
  exact h5
