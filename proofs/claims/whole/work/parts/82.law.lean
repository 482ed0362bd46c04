/-! ===== the law: its cases, its loop ===== -/
/-- the law, by whatever name -/
abbrev yLn (nm : String) : MethodName := ⟨RL, nm, "([I)Z"⟩
set_option maxRecDepth 4000 in
theorem lc_0 {nm : String} {G : GG} {b N : Nat} {xs : Nat → Int32} {dc : Nat} {I : Nat → Nat → Int32} {L : Nat → Nat → Int64} {bc bs i : Nat} {Post : Option Value → Mem → Prop} (hgx : gx G 1 = .ref b) (hN : N < 2 ^ 31) (hi : i + 6 ≤ N) (h : Inv dc I L) (hk : ∀ dc I L, Inv dc I L → VL (ZS G b N xs) G (yLn nm) cL_law 4 (some .boolean) 20 bc bs 1195 [.float 1, .ref 0, .ref 39, .int (nI i)] [] (Mm dc I L) Post) : VL (ZS G b N xs) G (yLn nm) cL_law 4 (some .boolean) 20 (bc + 3) (bs + 38) 172 [.float 1, .ref 0, .ref 39, .int (nI i)] [] (Mm dc I L) Post := by
  obtain ⟨PX, hX, hT⟩ := op_door (G := G) h (xs (i + 1)) (xs (i + 2)) (xs (i + 3))
  refine w_ald1 dL_law_172 ?_
  refine w_ald0 hgx dL_law_173 ?_
  refine w_ild3 dL_law_174 ?_
  refine w_icN (n := 1) dL_law_175 (by decide) ?_
  refine w_iadd dL_law_176 ?_
  refine w_sld (j := i + 1) dL_law_177 (nI_add i 1) (by omega) hN ?_
  refine w_ald0 hgx dL_law_178 ?_
  refine w_ild3 dL_law_179 ?_
  refine w_icN (n := 2) dL_law_180 (by decide) ?_
  refine w_iadd dL_law_181 ?_
  refine w_sld (j := i + 2) dL_law_182 (nI_add i 2) (by omega) hN ?_
  refine w_ald0 hgx dL_law_183 ?_
  refine w_ild3 dL_law_184 ?_
  refine w_icN (n := 3) dL_law_185 (by decide) ?_
  refine w_iadd dL_law_186 ?_
  refine w_sld (j := i + 3) dL_law_187 (nI_add i 3) (by omega) hN ?_
  refine VL.invV (bc := bc) (bs := bs) (bc' := 3) (bs' := 38) (st := []) (av := [.int (xs (i + 1)), .int (xs (i + 2)), .int (xs (i + 3))]) hX lk_L_13 dL_law_188 (by decide) (Nat.le_of_ble_eq_true rfl) rfl rfl (show _ < 78 + 3 * _ by omega) (fun r μ1 hp => ?_)
  obtain ⟨x, dc1, I1, L1, rfl, rfl, hM⟩ := hT r μ1 hp
  show VL (ZS G b N xs) G (yLn nm) cL_law 4 (some .boolean) 20 bc bs 191 [.float 1, .ref 0, .ref 39, .int (nI i)] [.int x] (Mm dc1 I1 L1) Post
  refine w_ald2 dL_law_191 ?_
  refine w_ald0 hgx dL_law_192 ?_
  refine w_ild3 dL_law_193 ?_
  refine w_icN (n := 1) dL_law_194 (by decide) ?_
  refine w_iadd dL_law_195 ?_
  refine w_sld (j := i + 1) dL_law_196 (nI_add i 1) (by omega) hN ?_
  refine w_ald0 hgx dL_law_197 ?_
  refine w_ild3 dL_law_198 ?_
  refine w_icN (n := 2) dL_law_199 (by decide) ?_
  refine w_iadd dL_law_200 ?_
  refine w_sld (j := i + 2) dL_law_201 (nI_add i 2) (by omega) hN ?_
  refine w_ald0 hgx dL_law_202 ?_
  refine w_ild3 dL_law_203 ?_
  refine w_icN (n := 3) dL_law_204 (by decide) ?_
  refine w_iadd dL_law_205 ?_
  refine w_sld (j := i + 3) dL_law_206 (nI_add i 3) (by omega) hN ?_
  refine VL.invV (bc := bc) (bs := bs) (bc' := 0) (bs' := 0) (st := [.int x]) (av := [.int (xs (i + 1)), .int (xs (i + 2)), .int (xs (i + 3))]) hM lk_L_17 dL_law_207 (by decide) (Nat.le_of_ble_eq_true rfl) rfl rfl (show _ < 78 + 3 * _ by omega) (fun r μ2 hp2 => ?_)
  obtain ⟨rfl, dc2, I2, L2, rfl, hI2⟩ := hp2
  show VL (ZS G b N xs) G (yLn nm) cL_law 4 (some .boolean) 20 bc bs 210 [.float 1, .ref 0, .ref 39, .int (nI i)] [.int x, .int x] (Mm dc2 I2 L2) Post
  exact w_icmp_eq (tgt := 1195) dL_law_210 (by decide) (fun _ => hk dc2 I2 L2 hI2) (fun z => absurd rfl z)
set_option maxRecDepth 4000 in
theorem lc_1 {nm : String} {G : GG} {b N : Nat} {xs : Nat → Int32} {dc : Nat} {I : Nat → Nat → Int32} {L : Nat → Nat → Int64} {bc bs i : Nat} {Post : Option Value → Mem → Prop} (hgx : gx G 1 = .ref b) (hN : N < 2 ^ 31) (hi : i + 6 ≤ N) (h : Inv dc I L) (hk : ∀ dc I L, Inv dc I L → VL (ZS G b N xs) G (yLn nm) cL_law 4 (some .boolean) 20 bc bs 1195 [.float 1, .ref 0, .ref 39, .int (nI i)] [] (Mm dc I L) Post) : VL (ZS G b N xs) G (yLn nm) cL_law 4 (some .boolean) 20 (bc + 3) (bs + 38) 215 [.float 1, .ref 0, .ref 39, .int (nI i)] [] (Mm dc I L) Post := by
  obtain ⟨PX, hX, hT⟩ := op_near (G := G) h (xs (i + 1)) (xs (i + 2))
  refine VL.mono (Nat.le_refl _) (Nat.le_add_right bc 3) (Nat.le_add_right bs 38) (fun _ _ z => z) ?_
  refine w_ald1 dL_law_215 ?_
  refine w_ald0 hgx dL_law_216 ?_
  refine w_ild3 dL_law_217 ?_
  refine w_icN (n := 1) dL_law_218 (by decide) ?_
  refine w_iadd dL_law_219 ?_
  refine w_sld (j := i + 1) dL_law_220 (nI_add i 1) (by omega) hN ?_
  refine w_ald0 hgx dL_law_221 ?_
  refine w_ild3 dL_law_222 ?_
  refine w_icN (n := 2) dL_law_223 (by decide) ?_
  refine w_iadd dL_law_224 ?_
  refine w_sld (j := i + 2) dL_law_225 (nI_add i 2) (by omega) hN ?_
  refine VL.invV (bc := bc) (bs := bs) (bc' := 0) (bs' := 0) (st := []) (av := [.int (xs (i + 1)), .int (xs (i + 2))]) hX lk_L_18 dL_law_226 (by decide) (Nat.le_of_ble_eq_true rfl) rfl rfl (show _ < 78 + 3 * _ by omega) (fun r μ1 hp => ?_)
  obtain ⟨x, dc1, I1, L1, rfl, rfl, hM⟩ := hT r μ1 hp
  show VL (ZS G b N xs) G (yLn nm) cL_law 4 (some .boolean) 20 bc bs 229 [.float 1, .ref 0, .ref 39, .int (nI i)] [.int x] (Mm dc1 I1 L1) Post
  refine w_ald2 dL_law_229 ?_
  refine w_ald0 hgx dL_law_230 ?_
  refine w_ild3 dL_law_231 ?_
  refine w_icN (n := 1) dL_law_232 (by decide) ?_
  refine w_iadd dL_law_233 ?_
  refine w_sld (j := i + 1) dL_law_234 (nI_add i 1) (by omega) hN ?_
  refine w_ald0 hgx dL_law_235 ?_
  refine w_ild3 dL_law_236 ?_
  refine w_icN (n := 2) dL_law_237 (by decide) ?_
  refine w_iadd dL_law_238 ?_
  refine w_sld (j := i + 2) dL_law_239 (nI_add i 2) (by omega) hN ?_
  refine VL.invV (bc := bc) (bs := bs) (bc' := 0) (bs' := 0) (st := [.int x]) (av := [.int (xs (i + 1)), .int (xs (i + 2))]) hM lk_L_22 dL_law_240 (by decide) (Nat.le_of_ble_eq_true rfl) rfl rfl (show _ < 78 + 3 * _ by omega) (fun r μ2 hp2 => ?_)
  obtain ⟨rfl, dc2, I2, L2, rfl, hI2⟩ := hp2
  show VL (ZS G b N xs) G (yLn nm) cL_law 4 (some .boolean) 20 bc bs 243 [.float 1, .ref 0, .ref 39, .int (nI i)] [.int x, .int x] (Mm dc2 I2 L2) Post
  exact w_icmp_eq (tgt := 1195) dL_law_243 (by decide) (fun _ => hk dc2 I2 L2 hI2) (fun z => absurd rfl z)
set_option maxRecDepth 4000 in
theorem lc_2 {nm : String} {G : GG} {b N : Nat} {xs : Nat → Int32} {dc : Nat} {I : Nat → Nat → Int32} {L : Nat → Nat → Int64} {bc bs i : Nat} {Post : Option Value → Mem → Prop} (hgx : gx G 1 = .ref b) (hN : N < 2 ^ 31) (hi : i + 6 ≤ N) (h : Inv dc I L) (hk : ∀ dc I L, Inv dc I L → VL (ZS G b N xs) G (yLn nm) cL_law 4 (some .boolean) 20 bc bs 1195 [.float 1, .ref 0, .ref 39, .int (nI i)] [] (Mm dc I L) Post) : VL (ZS G b N xs) G (yLn nm) cL_law 4 (some .boolean) 20 (bc + 3) (bs + 38) 248 [.float 1, .ref 0, .ref 39, .int (nI i)] [] (Mm dc I L) Post := by
  obtain ⟨PX, hX, hT⟩ := op_row (G := G) h (xs (i + 1)) (xs (i + 2)) (xs (i + 3))
  refine VL.mono (Nat.le_refl _) (Nat.le_add_right bc 3) (Nat.le_add_right bs 38) (fun _ _ z => z) ?_
  refine w_ald1 dL_law_248 ?_
  refine w_ald0 hgx dL_law_249 ?_
  refine w_ild3 dL_law_250 ?_
  refine w_icN (n := 1) dL_law_251 (by decide) ?_
  refine w_iadd dL_law_252 ?_
  refine w_sld (j := i + 1) dL_law_253 (nI_add i 1) (by omega) hN ?_
  refine w_ald0 hgx dL_law_254 ?_
  refine w_ild3 dL_law_255 ?_
  refine w_icN (n := 2) dL_law_256 (by decide) ?_
  refine w_iadd dL_law_257 ?_
  refine w_sld (j := i + 2) dL_law_258 (nI_add i 2) (by omega) hN ?_
  refine w_ald0 hgx dL_law_259 ?_
  refine w_ild3 dL_law_260 ?_
  refine w_icN (n := 3) dL_law_261 (by decide) ?_
  refine w_iadd dL_law_262 ?_
  refine w_sld (j := i + 3) dL_law_263 (nI_add i 3) (by omega) hN ?_
  refine VL.invV (bc := bc) (bs := bs) (bc' := 0) (bs' := 0) (st := []) (av := [.int (xs (i + 1)), .int (xs (i + 2)), .int (xs (i + 3))]) hX lk_L_23 dL_law_264 (by decide) (Nat.le_of_ble_eq_true rfl) rfl rfl (show _ < 78 + 3 * _ by omega) (fun r μ1 hp => ?_)
  obtain ⟨x, dc1, I1, L1, rfl, rfl, hM⟩ := hT r μ1 hp
  show VL (ZS G b N xs) G (yLn nm) cL_law 4 (some .boolean) 20 bc bs 267 [.float 1, .ref 0, .ref 39, .int (nI i)] [.int x] (Mm dc1 I1 L1) Post
  refine w_ald2 dL_law_267 ?_
  refine w_ald0 hgx dL_law_268 ?_
  refine w_ild3 dL_law_269 ?_
  refine w_icN (n := 1) dL_law_270 (by decide) ?_
  refine w_iadd dL_law_271 ?_
  refine w_sld (j := i + 1) dL_law_272 (nI_add i 1) (by omega) hN ?_
  refine w_ald0 hgx dL_law_273 ?_
  refine w_ild3 dL_law_274 ?_
  refine w_icN (n := 2) dL_law_275 (by decide) ?_
  refine w_iadd dL_law_276 ?_
  refine w_sld (j := i + 2) dL_law_277 (nI_add i 2) (by omega) hN ?_
  refine w_ald0 hgx dL_law_278 ?_
  refine w_ild3 dL_law_279 ?_
  refine w_icN (n := 3) dL_law_280 (by decide) ?_
  refine w_iadd dL_law_281 ?_
  refine w_sld (j := i + 3) dL_law_282 (nI_add i 3) (by omega) hN ?_
  refine VL.invV (bc := bc) (bs := bs) (bc' := 0) (bs' := 0) (st := [.int x]) (av := [.int (xs (i + 1)), .int (xs (i + 2)), .int (xs (i + 3))]) hM lk_L_26 dL_law_283 (by decide) (Nat.le_of_ble_eq_true rfl) rfl rfl (show _ < 78 + 3 * _ by omega) (fun r μ2 hp2 => ?_)
  obtain ⟨rfl, dc2, I2, L2, rfl, hI2⟩ := hp2
  show VL (ZS G b N xs) G (yLn nm) cL_law 4 (some .boolean) 20 bc bs 286 [.float 1, .ref 0, .ref 39, .int (nI i)] [.int x, .int x] (Mm dc2 I2 L2) Post
  exact w_icmp_eq (tgt := 1195) dL_law_286 (by decide) (fun _ => hk dc2 I2 L2 hI2) (fun z => absurd rfl z)
set_option maxRecDepth 4000 in
theorem lc_3 {nm : String} {G : GG} {b N : Nat} {xs : Nat → Int32} {dc : Nat} {I : Nat → Nat → Int32} {L : Nat → Nat → Int64} {bc bs i : Nat} {Post : Option Value → Mem → Prop} (hgx : gx G 1 = .ref b) (hN : N < 2 ^ 31) (hi : i + 6 ≤ N) (h : Inv dc I L) (hk : ∀ dc I L, Inv dc I L → VL (ZS G b N xs) G (yLn nm) cL_law 4 (some .boolean) 20 bc bs 1195 [.float 1, .ref 0, .ref 39, .int (nI i)] [] (Mm dc I L) Post) : VL (ZS G b N xs) G (yLn nm) cL_law 4 (some .boolean) 20 (bc + 3) (bs + 38) 291 [.float 1, .ref 0, .ref 39, .int (nI i)] [] (Mm dc I L) Post := by
  obtain ⟨PX, hX, hT⟩ := op_set (G := G) h (xs (i + 1)) (xs (i + 2)) (((xs (i + 3)).toInt64 <<< ((nI 32).toInt64 &&& 63)) ||| ((xs (i + 4)).toInt64 &&& 4294967295))
  refine VL.mono (Nat.le_refl _) (Nat.le_add_right bc 3) (Nat.le_add_right bs 38) (fun _ _ z => z) ?_
  refine w_ald1 dL_law_291 ?_
  refine w_ald0 hgx dL_law_292 ?_
  refine w_ild3 dL_law_293 ?_
  refine w_icN (n := 1) dL_law_294 (by decide) ?_
  refine w_iadd dL_law_295 ?_
  refine w_sld (j := i + 1) dL_law_296 (nI_add i 1) (by omega) hN ?_
  refine w_ald0 hgx dL_law_297 ?_
  refine w_ild3 dL_law_298 ?_
  refine w_icN (n := 2) dL_law_299 (by decide) ?_
  refine w_iadd dL_law_300 ?_
  refine w_sld (j := i + 2) dL_law_301 (nI_add i 2) (by omega) hN ?_
  refine w_ald0 hgx dL_law_302 ?_
  refine w_ild3 dL_law_303 ?_
  refine w_icN (n := 3) dL_law_304 (by decide) ?_
  refine w_iadd dL_law_305 ?_
  refine w_sld (j := i + 3) dL_law_306 (nI_add i 3) (by omega) hN ?_
  refine w_i2l dL_law_307 ?_
  refine w_bipush (v := nI 32) dL_law_308 (by decide) ?_
  refine w_lshl dL_law_310 ?_
  refine w_ald0 hgx dL_law_311 ?_
  refine w_ild3 dL_law_312 ?_
  refine w_icN (n := 4) dL_law_313 (by decide) ?_
  refine w_iadd dL_law_314 ?_
  refine w_sld (j := i + 4) dL_law_315 (nI_add i 4) (by omega) hN ?_
  refine w_i2l dL_law_316 ?_
  refine w_ldc2 dL_law_317 kc_L_27 ?_
  refine w_land dL_law_320 ?_
  refine w_lor dL_law_321 ?_
  refine VL.invV (bc := bc) (bs := bs) (bc' := 0) (bs' := 0) (st := []) (av := [.int (xs (i + 1)), .int (xs (i + 2)), .long (((xs (i + 3)).toInt64 <<< ((nI 32).toInt64 &&& 63)) ||| ((xs (i + 4)).toInt64 &&& 4294967295))]) hX lk_L_29 dL_law_322 (by decide) (Nat.le_of_ble_eq_true rfl) rfl rfl (show _ < 78 + 3 * _ by omega) (fun r μ1 hp => ?_)
  obtain ⟨x, dc1, I1, L1, rfl, rfl, hM⟩ := hT r μ1 hp
  show VL (ZS G b N xs) G (yLn nm) cL_law 4 (some .boolean) 20 bc bs 325 [.float 1, .ref 0, .ref 39, .int (nI i)] [.int x] (Mm dc1 I1 L1) Post
  refine w_ald2 dL_law_325 ?_
  refine w_ald0 hgx dL_law_326 ?_
  refine w_ild3 dL_law_327 ?_
  refine w_icN (n := 1) dL_law_328 (by decide) ?_
  refine w_iadd dL_law_329 ?_
  refine w_sld (j := i + 1) dL_law_330 (nI_add i 1) (by omega) hN ?_
  refine w_ald0 hgx dL_law_331 ?_
  refine w_ild3 dL_law_332 ?_
  refine w_icN (n := 2) dL_law_333 (by decide) ?_
  refine w_iadd dL_law_334 ?_
  refine w_sld (j := i + 2) dL_law_335 (nI_add i 2) (by omega) hN ?_
  refine w_ald0 hgx dL_law_336 ?_
  refine w_ild3 dL_law_337 ?_
  refine w_icN (n := 3) dL_law_338 (by decide) ?_
  refine w_iadd dL_law_339 ?_
  refine w_sld (j := i + 3) dL_law_340 (nI_add i 3) (by omega) hN ?_
  refine w_i2l dL_law_341 ?_
  refine w_bipush (v := nI 32) dL_law_342 (by decide) ?_
  refine w_lshl dL_law_344 ?_
  refine w_ald0 hgx dL_law_345 ?_
  refine w_ild3 dL_law_346 ?_
  refine w_icN (n := 4) dL_law_347 (by decide) ?_
  refine w_iadd dL_law_348 ?_
  refine w_sld (j := i + 4) dL_law_349 (nI_add i 4) (by omega) hN ?_
  refine w_i2l dL_law_350 ?_
  refine w_ldc2 dL_law_351 kc_L_27 ?_
  refine w_land dL_law_354 ?_
  refine w_lor dL_law_355 ?_
  refine VL.invV (bc := bc) (bs := bs) (bc' := 0) (bs' := 0) (st := [.int x]) (av := [.int (xs (i + 1)), .int (xs (i + 2)), .long (((xs (i + 3)).toInt64 <<< ((nI 32).toInt64 &&& 63)) ||| ((xs (i + 4)).toInt64 &&& 4294967295))]) hM lk_L_33 dL_law_356 (by decide) (Nat.le_of_ble_eq_true rfl) rfl rfl (show _ < 78 + 3 * _ by omega) (fun r μ2 hp2 => ?_)
  obtain ⟨rfl, dc2, I2, L2, rfl, hI2⟩ := hp2
  show VL (ZS G b N xs) G (yLn nm) cL_law 4 (some .boolean) 20 bc bs 359 [.float 1, .ref 0, .ref 39, .int (nI i)] [.int x, .int x] (Mm dc2 I2 L2) Post
  exact w_icmp_eq (tgt := 1195) dL_law_359 (by decide) (fun _ => hk dc2 I2 L2 hI2) (fun z => absurd rfl z)
set_option maxRecDepth 4000 in
theorem lc_4 {nm : String} {G : GG} {b N : Nat} {xs : Nat → Int32} {dc : Nat} {I : Nat → Nat → Int32} {L : Nat → Nat → Int64} {bc bs i : Nat} {Post : Option Value → Mem → Prop} (hgx : gx G 1 = .ref b) (hN : N < 2 ^ 31) (hi : i + 6 ≤ N) (h : Inv dc I L) (hk : ∀ dc I L, Inv dc I L → VL (ZS G b N xs) G (yLn nm) cL_law 4 (some .boolean) 20 bc bs 1195 [.float 1, .ref 0, .ref 39, .int (nI i)] [] (Mm dc I L) Post) : VL (ZS G b N xs) G (yLn nm) cL_law 4 (some .boolean) 20 (bc + 3) (bs + 38) 364 [.float 1, .ref 0, .ref 39, .int (nI i)] [] (Mm dc I L) Post := by
  obtain ⟨PX, hX, hT⟩ := op_copy (G := G) h (xs (i + 1)) (xs (i + 2)) (xs (i + 3)) (xs (i + 4)) (xs (i + 5))
  refine VL.mono (Nat.le_refl _) (Nat.le_add_right bc 3) (Nat.le_add_right bs 38) (fun _ _ z => z) ?_
  refine w_ald1 dL_law_364 ?_
  refine w_ald0 hgx dL_law_365 ?_
  refine w_ild3 dL_law_366 ?_
  refine w_icN (n := 1) dL_law_367 (by decide) ?_
  refine w_iadd dL_law_368 ?_
  refine w_sld (j := i + 1) dL_law_369 (nI_add i 1) (by omega) hN ?_
  refine w_ald0 hgx dL_law_370 ?_
  refine w_ild3 dL_law_371 ?_
  refine w_icN (n := 2) dL_law_372 (by decide) ?_
  refine w_iadd dL_law_373 ?_
  refine w_sld (j := i + 2) dL_law_374 (nI_add i 2) (by omega) hN ?_
  refine w_ald0 hgx dL_law_375 ?_
  refine w_ild3 dL_law_376 ?_
  refine w_icN (n := 3) dL_law_377 (by decide) ?_
  refine w_iadd dL_law_378 ?_
  refine w_sld (j := i + 3) dL_law_379 (nI_add i 3) (by omega) hN ?_
  refine w_ald0 hgx dL_law_380 ?_
  refine w_ild3 dL_law_381 ?_
  refine w_icN (n := 4) dL_law_382 (by decide) ?_
  refine w_iadd dL_law_383 ?_
  refine w_sld (j := i + 4) dL_law_384 (nI_add i 4) (by omega) hN ?_
  refine w_ald0 hgx dL_law_385 ?_
  refine w_ild3 dL_law_386 ?_
  refine w_icN (n := 5) dL_law_387 (by decide) ?_
  refine w_iadd dL_law_388 ?_
  refine w_sld (j := i + 5) dL_law_389 (nI_add i 5) (by omega) hN ?_
  refine VL.invV (bc := bc) (bs := bs) (bc' := 0) (bs' := 0) (st := []) (av := [.int (xs (i + 1)), .int (xs (i + 2)), .int (xs (i + 3)), .int (xs (i + 4)), .int (xs (i + 5))]) hX lk_L_34 dL_law_390 (by decide) (Nat.le_of_ble_eq_true rfl) rfl rfl (show _ < 78 + 3 * _ by omega) (fun r μ1 hp => ?_)
  obtain ⟨x, dc1, I1, L1, rfl, rfl, hM⟩ := hT r μ1 hp
  show VL (ZS G b N xs) G (yLn nm) cL_law 4 (some .boolean) 20 bc bs 393 [.float 1, .ref 0, .ref 39, .int (nI i)] [.int x] (Mm dc1 I1 L1) Post
  refine w_ald2 dL_law_393 ?_
  refine w_ald0 hgx dL_law_394 ?_
  refine w_ild3 dL_law_395 ?_
  refine w_icN (n := 1) dL_law_396 (by decide) ?_
  refine w_iadd dL_law_397 ?_
  refine w_sld (j := i + 1) dL_law_398 (nI_add i 1) (by omega) hN ?_
  refine w_ald0 hgx dL_law_399 ?_
  refine w_ild3 dL_law_400 ?_
  refine w_icN (n := 2) dL_law_401 (by decide) ?_
  refine w_iadd dL_law_402 ?_
  refine w_sld (j := i + 2) dL_law_403 (nI_add i 2) (by omega) hN ?_
  refine w_ald0 hgx dL_law_404 ?_
  refine w_ild3 dL_law_405 ?_
  refine w_icN (n := 3) dL_law_406 (by decide) ?_
  refine w_iadd dL_law_407 ?_
  refine w_sld (j := i + 3) dL_law_408 (nI_add i 3) (by omega) hN ?_
  refine w_ald0 hgx dL_law_409 ?_
  refine w_ild3 dL_law_410 ?_
  refine w_icN (n := 4) dL_law_411 (by decide) ?_
  refine w_iadd dL_law_412 ?_
  refine w_sld (j := i + 4) dL_law_413 (nI_add i 4) (by omega) hN ?_
  refine w_ald0 hgx dL_law_414 ?_
  refine w_ild3 dL_law_415 ?_
  refine w_icN (n := 5) dL_law_416 (by decide) ?_
  refine w_iadd dL_law_417 ?_
  refine w_sld (j := i + 5) dL_law_418 (nI_add i 5) (by omega) hN ?_
  refine VL.invV (bc := bc) (bs := bs) (bc' := 0) (bs' := 0) (st := [.int x]) (av := [.int (xs (i + 1)), .int (xs (i + 2)), .int (xs (i + 3)), .int (xs (i + 4)), .int (xs (i + 5))]) hM lk_L_38 dL_law_419 (by decide) (Nat.le_of_ble_eq_true rfl) rfl rfl (show _ < 78 + 3 * _ by omega) (fun r μ2 hp2 => ?_)
  obtain ⟨rfl, dc2, I2, L2, rfl, hI2⟩ := hp2
  show VL (ZS G b N xs) G (yLn nm) cL_law 4 (some .boolean) 20 bc bs 422 [.float 1, .ref 0, .ref 39, .int (nI i)] [.int x, .int x] (Mm dc2 I2 L2) Post
  exact w_icmp_eq (tgt := 1195) dL_law_422 (by decide) (fun _ => hk dc2 I2 L2 hI2) (fun z => absurd rfl z)
set_option maxRecDepth 4000 in
theorem lc_5 {nm : String} {G : GG} {b N : Nat} {xs : Nat → Int32} {dc : Nat} {I : Nat → Nat → Int32} {L : Nat → Nat → Int64} {bc bs i : Nat} {Post : Option Value → Mem → Prop} (hgx : gx G 1 = .ref b) (hN : N < 2 ^ 31) (hi : i + 6 ≤ N) (h : Inv dc I L) (hk : ∀ dc I L, Inv dc I L → VL (ZS G b N xs) G (yLn nm) cL_law 4 (some .boolean) 20 bc bs 1195 [.float 1, .ref 0, .ref 39, .int (nI i)] [] (Mm dc I L) Post) : VL (ZS G b N xs) G (yLn nm) cL_law 4 (some .boolean) 20 (bc + 3) (bs + 38) 427 [.float 1, .ref 0, .ref 39, .int (nI i)] [] (Mm dc I L) Post := by
  obtain ⟨x, hX, hM⟩ := op_element (G := G) h (xs (i + 1)) (xs (i + 2))
  refine VL.mono (Nat.le_refl _) (Nat.le_add_right bc 3) (Nat.le_add_right bs 38) (fun _ _ z => z) ?_
  refine w_ald1 dL_law_427 ?_
  refine w_ald0 hgx dL_law_428 ?_
  refine w_ild3 dL_law_429 ?_
  refine w_icN (n := 1) dL_law_430 (by decide) ?_
  refine w_iadd dL_law_431 ?_
  refine w_sld (j := i + 1) dL_law_432 (nI_add i 1) (by omega) hN ?_
  refine w_ald0 hgx dL_law_433 ?_
  refine w_ild3 dL_law_434 ?_
  refine w_icN (n := 2) dL_law_435 (by decide) ?_
  refine w_iadd dL_law_436 ?_
  refine w_sld (j := i + 2) dL_law_437 (nI_add i 2) (by omega) hN ?_
  refine VL.invV (bc := bc) (bs := bs) (bc' := 0) (bs' := 0) (st := []) (av := [.int (xs (i + 1)), .int (xs (i + 2))]) hX lk_L_39 dL_law_438 (by decide) (Nat.le_of_ble_eq_true rfl) rfl rfl (show _ < 78 + 3 * _ by omega) (fun r μ1 hp => ?_)
  obtain ⟨rfl, rfl⟩ := hp
  show VL (ZS G b N xs) G (yLn nm) cL_law 4 (some .boolean) 20 bc bs 441 [.float 1, .ref 0, .ref 39, .int (nI i)] [.long x] (Mm dc I L) Post
  refine w_ald2 dL_law_441 ?_
  refine w_ald0 hgx dL_law_442 ?_
  refine w_ild3 dL_law_443 ?_
  refine w_icN (n := 1) dL_law_444 (by decide) ?_
  refine w_iadd dL_law_445 ?_
  refine w_sld (j := i + 1) dL_law_446 (nI_add i 1) (by omega) hN ?_
  refine w_ald0 hgx dL_law_447 ?_
  refine w_ild3 dL_law_448 ?_
  refine w_icN (n := 2) dL_law_449 (by decide) ?_
  refine w_iadd dL_law_450 ?_
  refine w_sld (j := i + 2) dL_law_451 (nI_add i 2) (by omega) hN ?_
  refine VL.invV (bc := bc) (bs := bs) (bc' := 0) (bs' := 0) (st := [.long x]) (av := [.int (xs (i + 1)), .int (xs (i + 2))]) hM lk_L_43 dL_law_452 (by decide) (Nat.le_of_ble_eq_true rfl) rfl rfl (show _ < 78 + 3 * _ by omega) (fun r μ2 hp2 => ?_)
  obtain ⟨rfl, dc2, I2, L2, rfl, hI2⟩ := hp2
  show VL (ZS G b N xs) G (yLn nm) cL_law 4 (some .boolean) 20 bc bs 455 [.float 1, .ref 0, .ref 39, .int (nI i)] [.long x, .long x] (Mm dc2 I2 L2) Post
  refine w_lcmp dL_law_455 ?_
  exact w_if_eq (tgt := 1195) dL_law_456 (by decide) (fun _ => hk dc2 I2 L2 hI2) (fun z => absurd (lcmp0.mpr rfl) z)
set_option maxRecDepth 4000 in
theorem lc_6 {nm : String} {G : GG} {b N : Nat} {xs : Nat → Int32} {dc : Nat} {I : Nat → Nat → Int32} {L : Nat → Nat → Int64} {bc bs i : Nat} {Post : Option Value → Mem → Prop} (hgx : gx G 1 = .ref b) (hN : N < 2 ^ 31) (hi : i + 6 ≤ N) (h : Inv dc I L) (hk : ∀ dc I L, Inv dc I L → VL (ZS G b N xs) G (yLn nm) cL_law 4 (some .boolean) 20 bc bs 1195 [.float 1, .ref 0, .ref 39, .int (nI i)] [] (Mm dc I L) Post) : VL (ZS G b N xs) G (yLn nm) cL_law 4 (some .boolean) 20 (bc + 3) (bs + 38) 461 [.float 1, .ref 0, .ref 39, .int (nI i)] [] (Mm dc I L) Post := by
  obtain ⟨PX, hX, hT⟩ := op_show (G := G) h (xs (i + 1)) (xs (i + 2))
  refine VL.mono (Nat.le_refl _) (Nat.le_add_right bc 3) (Nat.le_add_right bs 38) (fun _ _ z => z) ?_
  refine w_ald1 dL_law_461 ?_
  refine w_ald0 hgx dL_law_462 ?_
  refine w_ild3 dL_law_463 ?_
  refine w_icN (n := 1) dL_law_464 (by decide) ?_
  refine w_iadd dL_law_465 ?_
  refine w_sld (j := i + 1) dL_law_466 (nI_add i 1) (by omega) hN ?_
  refine w_ald0 hgx dL_law_467 ?_
  refine w_ild3 dL_law_468 ?_
  refine w_icN (n := 2) dL_law_469 (by decide) ?_
  refine w_iadd dL_law_470 ?_
  refine w_sld (j := i + 2) dL_law_471 (nI_add i 2) (by omega) hN ?_
  refine VL.invV (bc := bc) (bs := bs) (bc' := 0) (bs' := 0) (st := []) (av := [.int (xs (i + 1)), .int (xs (i + 2))]) hX lk_L_44 dL_law_472 (by decide) (Nat.le_of_ble_eq_true rfl) rfl rfl (show _ < 78 + 3 * _ by omega) (fun r μ1 hp => ?_)
  obtain ⟨x, dc1, I1, L1, rfl, rfl, hM⟩ := hT r μ1 hp
  show VL (ZS G b N xs) G (yLn nm) cL_law 4 (some .boolean) 20 bc bs 475 [.float 1, .ref 0, .ref 39, .int (nI i)] [.int x] (Mm dc1 I1 L1) Post
  refine w_ald2 dL_law_475 ?_
  refine w_ald0 hgx dL_law_476 ?_
  refine w_ild3 dL_law_477 ?_
  refine w_icN (n := 1) dL_law_478 (by decide) ?_
  refine w_iadd dL_law_479 ?_
  refine w_sld (j := i + 1) dL_law_480 (nI_add i 1) (by omega) hN ?_
  refine w_ald0 hgx dL_law_481 ?_
  refine w_ild3 dL_law_482 ?_
  refine w_icN (n := 2) dL_law_483 (by decide) ?_
  refine w_iadd dL_law_484 ?_
  refine w_sld (j := i + 2) dL_law_485 (nI_add i 2) (by omega) hN ?_
  refine VL.invV (bc := bc) (bs := bs) (bc' := 0) (bs' := 0) (st := [.int x]) (av := [.int (xs (i + 1)), .int (xs (i + 2))]) hM lk_L_47 dL_law_486 (by decide) (Nat.le_of_ble_eq_true rfl) rfl rfl (show _ < 78 + 3 * _ by omega) (fun r μ2 hp2 => ?_)
  obtain ⟨rfl, dc2, I2, L2, rfl, hI2⟩ := hp2
  show VL (ZS G b N xs) G (yLn nm) cL_law 4 (some .boolean) 20 bc bs 489 [.float 1, .ref 0, .ref 39, .int (nI i)] [.int x, .int x] (Mm dc2 I2 L2) Post
  exact w_icmp_eq (tgt := 1195) dL_law_489 (by decide) (fun _ => hk dc2 I2 L2 hI2) (fun z => absurd rfl z)
set_option maxRecDepth 4000 in
theorem lc_7 {nm : String} {G : GG} {b N : Nat} {xs : Nat → Int32} {dc : Nat} {I : Nat → Nat → Int32} {L : Nat → Nat → Int64} {bc bs i : Nat} {Post : Option Value → Mem → Prop} (hgx : gx G 1 = .ref b) (hN : N < 2 ^ 31) (hi : i + 6 ≤ N) (h : Inv dc I L) (hk : ∀ dc I L, Inv dc I L → VL (ZS G b N xs) G (yLn nm) cL_law 4 (some .boolean) 20 bc bs 1195 [.float 1, .ref 0, .ref 39, .int (nI i)] [] (Mm dc I L) Post) : VL (ZS G b N xs) G (yLn nm) cL_law 4 (some .boolean) 20 (bc + 3) (bs + 38) 494 [.float 1, .ref 0, .ref 39, .int (nI i)] [] (Mm dc I L) Post := by
  obtain ⟨PX, hX, hT⟩ := op_holds (G := G) h (xs (i + 1))
  refine VL.mono (Nat.le_refl _) (Nat.le_add_right bc 3) (Nat.le_add_right bs 38) (fun _ _ z => z) ?_
  refine w_ald1 dL_law_494 ?_
  refine w_ald0 hgx dL_law_495 ?_
  refine w_ild3 dL_law_496 ?_
  refine w_icN (n := 1) dL_law_497 (by decide) ?_
  refine w_iadd dL_law_498 ?_
  refine w_sld (j := i + 1) dL_law_499 (nI_add i 1) (by omega) hN ?_
  refine VL.invV (bc := bc) (bs := bs) (bc' := 0) (bs' := 0) (st := []) (av := [.int (xs (i + 1))]) hX lk_L_48 dL_law_500 (by decide) (Nat.le_of_ble_eq_true rfl) rfl rfl (show _ < 78 + 3 * _ by omega) (fun r μ1 hp => ?_)
  obtain ⟨x, dc1, I1, L1, rfl, rfl, hM⟩ := hT r μ1 hp
  show VL (ZS G b N xs) G (yLn nm) cL_law 4 (some .boolean) 20 bc bs 503 [.float 1, .ref 0, .ref 39, .int (nI i)] [.int x] (Mm dc1 I1 L1) Post
  refine w_ald2 dL_law_503 ?_
  refine w_ald0 hgx dL_law_504 ?_
  refine w_ild3 dL_law_505 ?_
  refine w_icN (n := 1) dL_law_506 (by decide) ?_
  refine w_iadd dL_law_507 ?_
  refine w_sld (j := i + 1) dL_law_508 (nI_add i 1) (by omega) hN ?_
  refine VL.invV (bc := bc) (bs := bs) (bc' := 0) (bs' := 0) (st := [.int x]) (av := [.int (xs (i + 1))]) hM lk_L_52 dL_law_509 (by decide) (Nat.le_of_ble_eq_true rfl) rfl rfl (show _ < 78 + 3 * _ by omega) (fun r μ2 hp2 => ?_)
  obtain ⟨rfl, dc2, I2, L2, rfl, hI2⟩ := hp2
  show VL (ZS G b N xs) G (yLn nm) cL_law 4 (some .boolean) 20 bc bs 512 [.float 1, .ref 0, .ref 39, .int (nI i)] [.int x, .int x] (Mm dc2 I2 L2) Post
  exact w_icmp_eq (tgt := 1195) dL_law_512 (by decide) (fun _ => hk dc2 I2 L2 hI2) (fun z => absurd rfl z)
set_option maxRecDepth 4000 in
theorem lc_8 {nm : String} {G : GG} {b N : Nat} {xs : Nat → Int32} {dc : Nat} {I : Nat → Nat → Int32} {L : Nat → Nat → Int64} {bc bs i : Nat} {Post : Option Value → Mem → Prop} (hgx : gx G 1 = .ref b) (hN : N < 2 ^ 31) (hi : i + 6 ≤ N) (h : Inv dc I L) (hk : ∀ dc I L, Inv dc I L → VL (ZS G b N xs) G (yLn nm) cL_law 4 (some .boolean) 20 bc bs 1195 [.float 1, .ref 0, .ref 39, .int (nI i)] [] (Mm dc I L) Post) : VL (ZS G b N xs) G (yLn nm) cL_law 4 (some .boolean) 20 (bc + 3) (bs + 38) 517 [.float 1, .ref 0, .ref 39, .int (nI i)] [] (Mm dc I L) Post := by
  obtain ⟨PX, hX, hT⟩ := op_blockIn (G := G) h (xs (i + 1))
  refine VL.mono (Nat.le_refl _) (Nat.le_add_right bc 3) (Nat.le_add_right bs 38) (fun _ _ z => z) ?_
  refine w_ald1 dL_law_517 ?_
  refine w_ald0 hgx dL_law_518 ?_
  refine w_ild3 dL_law_519 ?_
  refine w_icN (n := 1) dL_law_520 (by decide) ?_
  refine w_iadd dL_law_521 ?_
  refine w_sld (j := i + 1) dL_law_522 (nI_add i 1) (by omega) hN ?_
  refine VL.invV (bc := bc) (bs := bs) (bc' := 0) (bs' := 0) (st := []) (av := [.int (xs (i + 1))]) hX lk_L_53 dL_law_523 (by decide) (Nat.le_of_ble_eq_true rfl) rfl rfl (show _ < 78 + 3 * _ by omega) (fun r μ1 hp => ?_)
  obtain ⟨x, dc1, I1, L1, rfl, rfl, hM⟩ := hT r μ1 hp
  show VL (ZS G b N xs) G (yLn nm) cL_law 4 (some .boolean) 20 bc bs 526 [.float 1, .ref 0, .ref 39, .int (nI i)] [.int x] (Mm dc1 I1 L1) Post
  refine w_ald2 dL_law_526 ?_
  refine w_ald0 hgx dL_law_527 ?_
  refine w_ild3 dL_law_528 ?_
  refine w_icN (n := 1) dL_law_529 (by decide) ?_
  refine w_iadd dL_law_530 ?_
  refine w_sld (j := i + 1) dL_law_531 (nI_add i 1) (by omega) hN ?_
  refine VL.invV (bc := bc) (bs := bs) (bc' := 0) (bs' := 0) (st := [.int x]) (av := [.int (xs (i + 1))]) hM lk_L_56 dL_law_532 (by decide) (Nat.le_of_ble_eq_true rfl) rfl rfl (show _ < 78 + 3 * _ by omega) (fun r μ2 hp2 => ?_)
  obtain ⟨rfl, dc2, I2, L2, rfl, hI2⟩ := hp2
  show VL (ZS G b N xs) G (yLn nm) cL_law 4 (some .boolean) 20 bc bs 535 [.float 1, .ref 0, .ref 39, .int (nI i)] [.int x, .int x] (Mm dc2 I2 L2) Post
  exact w_icmp_eq (tgt := 1195) dL_law_535 (by decide) (fun _ => hk dc2 I2 L2 hI2) (fun z => absurd rfl z)
set_option maxRecDepth 4000 in
theorem lc_9 {nm : String} {G : GG} {b N : Nat} {xs : Nat → Int32} {dc : Nat} {I : Nat → Nat → Int32} {L : Nat → Nat → Int64} {bc bs i : Nat} {Post : Option Value → Mem → Prop} (hgx : gx G 1 = .ref b) (hN : N < 2 ^ 31) (hi : i + 6 ≤ N) (h : Inv dc I L) (hk : ∀ dc I L, Inv dc I L → VL (ZS G b N xs) G (yLn nm) cL_law 4 (some .boolean) 20 bc bs 1195 [.float 1, .ref 0, .ref 39, .int (nI i)] [] (Mm dc I L) Post) : VL (ZS G b N xs) G (yLn nm) cL_law 4 (some .boolean) 20 (bc + 3) (bs + 38) 540 [.float 1, .ref 0, .ref 39, .int (nI i)] [] (Mm dc I L) Post := by
  obtain ⟨PX, hX, hT⟩ := op_law (G := G) h (xs (i + 1))
  refine VL.mono (Nat.le_refl _) (Nat.le_add_right bc 3) (Nat.le_add_right bs 38) (fun _ _ z => z) ?_
  refine w_ald1 dL_law_540 ?_
  refine w_ald0 hgx dL_law_541 ?_
  refine w_ild3 dL_law_542 ?_
  refine w_icN (n := 1) dL_law_543 (by decide) ?_
  refine w_iadd dL_law_544 ?_
  refine w_sld (j := i + 1) dL_law_545 (nI_add i 1) (by omega) hN ?_
  refine VL.invV (bc := bc) (bs := bs) (bc' := 0) (bs' := 0) (st := []) (av := [.int (xs (i + 1))]) hX lk_L_57 dL_law_546 (by decide) (Nat.le_of_ble_eq_true rfl) rfl rfl (show _ < 78 + 3 * _ by omega) (fun r μ1 hp => ?_)
  obtain ⟨x, dc1, I1, L1, rfl, rfl, hM⟩ := hT r μ1 hp
  show VL (ZS G b N xs) G (yLn nm) cL_law 4 (some .boolean) 20 bc bs 549 [.float 1, .ref 0, .ref 39, .int (nI i)] [.int x] (Mm dc1 I1 L1) Post
  refine w_ald2 dL_law_549 ?_
  refine w_ald0 hgx dL_law_550 ?_
  refine w_ild3 dL_law_551 ?_
  refine w_icN (n := 1) dL_law_552 (by decide) ?_
  refine w_iadd dL_law_553 ?_
  refine w_sld (j := i + 1) dL_law_554 (nI_add i 1) (by omega) hN ?_
  refine VL.invV (bc := bc) (bs := bs) (bc' := 0) (bs' := 0) (st := [.int x]) (av := [.int (xs (i + 1))]) hM lk_L_60 dL_law_555 (by decide) (Nat.le_of_ble_eq_true rfl) rfl rfl (show _ < 78 + 3 * _ by omega) (fun r μ2 hp2 => ?_)
  obtain ⟨rfl, dc2, I2, L2, rfl, hI2⟩ := hp2
  show VL (ZS G b N xs) G (yLn nm) cL_law 4 (some .boolean) 20 bc bs 558 [.float 1, .ref 0, .ref 39, .int (nI i)] [.int x, .int x] (Mm dc2 I2 L2) Post
  exact w_icmp_eq (tgt := 1195) dL_law_558 (by decide) (fun _ => hk dc2 I2 L2 hI2) (fun z => absurd rfl z)
set_option maxRecDepth 4000 in
theorem lc_10 {nm : String} {G : GG} {b N : Nat} {xs : Nat → Int32} {dc : Nat} {I : Nat → Nat → Int32} {L : Nat → Nat → Int64} {bc bs i : Nat} {Post : Option Value → Mem → Prop} (hgx : gx G 1 = .ref b) (hN : N < 2 ^ 31) (hi : i + 6 ≤ N) (h : Inv dc I L) (hk : ∀ dc I L, Inv dc I L → VL (ZS G b N xs) G (yLn nm) cL_law 4 (some .boolean) 20 bc bs 1195 [.float 1, .ref 0, .ref 39, .int (nI i)] [] (Mm dc I L) Post) : VL (ZS G b N xs) G (yLn nm) cL_law 4 (some .boolean) 20 (bc + 3) (bs + 38) 563 [.float 1, .ref 0, .ref 39, .int (nI i)] [] (Mm dc I L) Post := by
  obtain ⟨PX, hX, hT⟩ := op_fault (G := G) h 
  refine VL.mono (Nat.le_refl _) (Nat.le_add_right bc 3) (Nat.le_add_right bs 38) (fun _ _ z => z) ?_
  refine w_ald1 dL_law_563 ?_
  refine VL.invV (bc := bc) (bs := bs) (bc' := 0) (bs' := 0) (st := []) (av := []) hX lk_L_61 dL_law_564 (by decide) (Nat.le_of_ble_eq_true rfl) rfl rfl (show _ < 78 + 3 * _ by omega) (fun r μ1 hp => ?_)
  obtain ⟨x, dc1, I1, L1, rfl, rfl, hM⟩ := hT r μ1 hp
  show VL (ZS G b N xs) G (yLn nm) cL_law 4 (some .boolean) 20 bc bs 567 [.float 1, .ref 0, .ref 39, .int (nI i)] [.int x] (Mm dc1 I1 L1) Post
  refine w_ald2 dL_law_567 ?_
  refine VL.invV (bc := bc) (bs := bs) (bc' := 0) (bs' := 0) (st := [.int x]) (av := []) hM lk_L_65 dL_law_568 (by decide) (Nat.le_of_ble_eq_true rfl) rfl rfl (show _ < 78 + 3 * _ by omega) (fun r μ2 hp2 => ?_)
  obtain ⟨rfl, dc2, I2, L2, rfl, hI2⟩ := hp2
  show VL (ZS G b N xs) G (yLn nm) cL_law 4 (some .boolean) 20 bc bs 571 [.float 1, .ref 0, .ref 39, .int (nI i)] [.int x, .int x] (Mm dc2 I2 L2) Post
  exact w_icmp_eq (tgt := 1195) dL_law_571 (by decide) (fun _ => hk dc2 I2 L2 hI2) (fun z => absurd rfl z)
set_option maxRecDepth 4000 in
theorem lc_11 {nm : String} {G : GG} {b N : Nat} {xs : Nat → Int32} {dc : Nat} {I : Nat → Nat → Int32} {L : Nat → Nat → Int64} {bc bs i : Nat} {Post : Option Value → Mem → Prop} (hgx : gx G 1 = .ref b) (hN : N < 2 ^ 31) (hi : i + 6 ≤ N) (h : Inv dc I L) (hk : ∀ dc I L, Inv dc I L → VL (ZS G b N xs) G (yLn nm) cL_law 4 (some .boolean) 20 bc bs 1195 [.float 1, .ref 0, .ref 39, .int (nI i)] [] (Mm dc I L) Post) : VL (ZS G b N xs) G (yLn nm) cL_law 4 (some .boolean) 20 (bc + 3) (bs + 38) 576 [.float 1, .ref 0, .ref 39, .int (nI i)] [] (Mm dc I L) Post := by
  obtain ⟨PX, hX, hT⟩ := op_truth (G := G) h (xs (i + 1)) (xs (i + 2))
  refine VL.mono (Nat.le_refl _) (Nat.le_add_right bc 3) (Nat.le_add_right bs 38) (fun _ _ z => z) ?_
  refine w_ald1 dL_law_576 ?_
  refine w_ald0 hgx dL_law_577 ?_
  refine w_ild3 dL_law_578 ?_
  refine w_icN (n := 1) dL_law_579 (by decide) ?_
  refine w_iadd dL_law_580 ?_
  refine w_sld (j := i + 1) dL_law_581 (nI_add i 1) (by omega) hN ?_
  refine w_ald0 hgx dL_law_582 ?_
  refine w_ild3 dL_law_583 ?_
  refine w_icN (n := 2) dL_law_584 (by decide) ?_
  refine w_iadd dL_law_585 ?_
  refine w_sld (j := i + 2) dL_law_586 (nI_add i 2) (by omega) hN ?_
  refine VL.invV (bc := bc) (bs := bs) (bc' := 0) (bs' := 0) (st := []) (av := [.int (xs (i + 1)), .int (xs (i + 2))]) hX lk_L_66 dL_law_587 (by decide) (Nat.le_of_ble_eq_true rfl) rfl rfl (show _ < 78 + 3 * _ by omega) (fun r μ1 hp => ?_)
  obtain ⟨x, dc1, I1, L1, rfl, rfl, hM⟩ := hT r μ1 hp
  show VL (ZS G b N xs) G (yLn nm) cL_law 4 (some .boolean) 20 bc bs 590 [.float 1, .ref 0, .ref 39, .int (nI i)] [.int x] (Mm dc1 I1 L1) Post
  refine w_ald2 dL_law_590 ?_
  refine w_ald0 hgx dL_law_591 ?_
  refine w_ild3 dL_law_592 ?_
  refine w_icN (n := 1) dL_law_593 (by decide) ?_
  refine w_iadd dL_law_594 ?_
  refine w_sld (j := i + 1) dL_law_595 (nI_add i 1) (by omega) hN ?_
  refine w_ald0 hgx dL_law_596 ?_
  refine w_ild3 dL_law_597 ?_
  refine w_icN (n := 2) dL_law_598 (by decide) ?_
  refine w_iadd dL_law_599 ?_
  refine w_sld (j := i + 2) dL_law_600 (nI_add i 2) (by omega) hN ?_
  refine VL.invV (bc := bc) (bs := bs) (bc' := 0) (bs' := 0) (st := [.int x]) (av := [.int (xs (i + 1)), .int (xs (i + 2))]) hM lk_L_69 dL_law_601 (by decide) (Nat.le_of_ble_eq_true rfl) rfl rfl (show _ < 78 + 3 * _ by omega) (fun r μ2 hp2 => ?_)
  obtain ⟨rfl, dc2, I2, L2, rfl, hI2⟩ := hp2
  show VL (ZS G b N xs) G (yLn nm) cL_law 4 (some .boolean) 20 bc bs 604 [.float 1, .ref 0, .ref 39, .int (nI i)] [.int x, .int x] (Mm dc2 I2 L2) Post
  exact w_icmp_eq (tgt := 1195) dL_law_604 (by decide) (fun _ => hk dc2 I2 L2 hI2) (fun z => absurd rfl z)
set_option maxRecDepth 4000 in
theorem lc_12 {nm : String} {G : GG} {b N : Nat} {xs : Nat → Int32} {dc : Nat} {I : Nat → Nat → Int32} {L : Nat → Nat → Int64} {bc bs i : Nat} {Post : Option Value → Mem → Prop} (hgx : gx G 1 = .ref b) (hN : N < 2 ^ 31) (hi : i + 6 ≤ N) (h : Inv dc I L) (hk : ∀ dc I L, Inv dc I L → VL (ZS G b N xs) G (yLn nm) cL_law 4 (some .boolean) 20 bc bs 1195 [.float 1, .ref 0, .ref 39, .int (nI i)] [] (Mm dc I L) Post) : VL (ZS G b N xs) G (yLn nm) cL_law 4 (some .boolean) 20 (bc + 3) (bs + 38) 609 [.float 1, .ref 0, .ref 39, .int (nI i)] [] (Mm dc I L) Post := by
  obtain ⟨PX, hX, hT⟩ := op_paper (G := G) h (xs (i + 1))
  refine VL.mono (Nat.le_refl _) (Nat.le_add_right bc 3) (Nat.le_add_right bs 38) (fun _ _ z => z) ?_
  refine w_ald1 dL_law_609 ?_
  refine w_ald0 hgx dL_law_610 ?_
  refine w_ild3 dL_law_611 ?_
  refine w_icN (n := 1) dL_law_612 (by decide) ?_
  refine w_iadd dL_law_613 ?_
  refine w_sld (j := i + 1) dL_law_614 (nI_add i 1) (by omega) hN ?_
  refine VL.invV (bc := bc) (bs := bs) (bc' := 0) (bs' := 0) (st := []) (av := [.int (xs (i + 1))]) hX lk_L_70 dL_law_615 (by decide) (Nat.le_of_ble_eq_true rfl) rfl rfl (show _ < 78 + 3 * _ by omega) (fun r μ1 hp => ?_)
  obtain ⟨x, dc1, I1, L1, rfl, rfl, hM⟩ := hT r μ1 hp
  show VL (ZS G b N xs) G (yLn nm) cL_law 4 (some .boolean) 20 bc bs 618 [.float 1, .ref 0, .ref 39, .int (nI i)] [.int x] (Mm dc1 I1 L1) Post
  refine w_ald2 dL_law_618 ?_
  refine w_ald0 hgx dL_law_619 ?_
  refine w_ild3 dL_law_620 ?_
  refine w_icN (n := 1) dL_law_621 (by decide) ?_
  refine w_iadd dL_law_622 ?_
  refine w_sld (j := i + 1) dL_law_623 (nI_add i 1) (by omega) hN ?_
  refine VL.invV (bc := bc) (bs := bs) (bc' := 0) (bs' := 0) (st := [.int x]) (av := [.int (xs (i + 1))]) hM lk_L_73 dL_law_624 (by decide) (Nat.le_of_ble_eq_true rfl) rfl rfl (show _ < 78 + 3 * _ by omega) (fun r μ2 hp2 => ?_)
  obtain ⟨rfl, dc2, I2, L2, rfl, hI2⟩ := hp2
  show VL (ZS G b N xs) G (yLn nm) cL_law 4 (some .boolean) 20 bc bs 627 [.float 1, .ref 0, .ref 39, .int (nI i)] [.int x, .int x] (Mm dc2 I2 L2) Post
  exact w_icmp_eq (tgt := 1195) dL_law_627 (by decide) (fun _ => hk dc2 I2 L2 hI2) (fun z => absurd rfl z)
set_option maxRecDepth 4000 in
theorem lc_13 {nm : String} {G : GG} {b N : Nat} {xs : Nat → Int32} {dc : Nat} {I : Nat → Nat → Int32} {L : Nat → Nat → Int64} {bc bs i : Nat} {Post : Option Value → Mem → Prop} (hgx : gx G 1 = .ref b) (hN : N < 2 ^ 31) (hi : i + 6 ≤ N) (h : Inv dc I L) (hk : ∀ dc I L, Inv dc I L → VL (ZS G b N xs) G (yLn nm) cL_law 4 (some .boolean) 20 bc bs 1195 [.float 1, .ref 0, .ref 39, .int (nI i)] [] (Mm dc I L) Post) : VL (ZS G b N xs) G (yLn nm) cL_law 4 (some .boolean) 20 (bc + 3) (bs + 38) 632 [.float 1, .ref 0, .ref 39, .int (nI i)] [] (Mm dc I L) Post := by
  obtain ⟨PX, hX, hT⟩ := op_knock (G := G) h (xs (i + 1)) (xs (i + 2))
  refine VL.mono (Nat.le_refl _) (Nat.le_add_right bc 3) (Nat.le_add_right bs 38) (fun _ _ z => z) ?_
  refine w_ald1 dL_law_632 ?_
  refine w_ald0 hgx dL_law_633 ?_
  refine w_ild3 dL_law_634 ?_
  refine w_icN (n := 1) dL_law_635 (by decide) ?_
  refine w_iadd dL_law_636 ?_
  refine w_sld (j := i + 1) dL_law_637 (nI_add i 1) (by omega) hN ?_
  refine w_ald0 hgx dL_law_638 ?_
  refine w_ild3 dL_law_639 ?_
  refine w_icN (n := 2) dL_law_640 (by decide) ?_
  refine w_iadd dL_law_641 ?_
  refine w_sld (j := i + 2) dL_law_642 (nI_add i 2) (by omega) hN ?_
  refine VL.invV (bc := bc) (bs := bs) (bc' := 0) (bs' := 0) (st := []) (av := [.int (xs (i + 1)), .int (xs (i + 2))]) hX lk_L_74 dL_law_643 (by decide) (Nat.le_of_ble_eq_true rfl) rfl rfl (show _ < 78 + 3 * _ by omega) (fun r μ1 hp => ?_)
  obtain ⟨x, dc1, I1, L1, rfl, rfl, hM⟩ := hT r μ1 hp
  show VL (ZS G b N xs) G (yLn nm) cL_law 4 (some .boolean) 20 bc bs 646 [.float 1, .ref 0, .ref 39, .int (nI i)] [.int x] (Mm dc1 I1 L1) Post
  refine w_ald2 dL_law_646 ?_
  refine w_ald0 hgx dL_law_647 ?_
  refine w_ild3 dL_law_648 ?_
  refine w_icN (n := 1) dL_law_649 (by decide) ?_
  refine w_iadd dL_law_650 ?_
  refine w_sld (j := i + 1) dL_law_651 (nI_add i 1) (by omega) hN ?_
  refine w_ald0 hgx dL_law_652 ?_
  refine w_ild3 dL_law_653 ?_
  refine w_icN (n := 2) dL_law_654 (by decide) ?_
  refine w_iadd dL_law_655 ?_
  refine w_sld (j := i + 2) dL_law_656 (nI_add i 2) (by omega) hN ?_
  refine VL.invV (bc := bc) (bs := bs) (bc' := 0) (bs' := 0) (st := [.int x]) (av := [.int (xs (i + 1)), .int (xs (i + 2))]) hM lk_L_77 dL_law_657 (by decide) (Nat.le_of_ble_eq_true rfl) rfl rfl (show _ < 78 + 3 * _ by omega) (fun r μ2 hp2 => ?_)
  obtain ⟨rfl, dc2, I2, L2, rfl, hI2⟩ := hp2
  show VL (ZS G b N xs) G (yLn nm) cL_law 4 (some .boolean) 20 bc bs 660 [.float 1, .ref 0, .ref 39, .int (nI i)] [.int x, .int x] (Mm dc2 I2 L2) Post
  exact w_icmp_eq (tgt := 1195) dL_law_660 (by decide) (fun _ => hk dc2 I2 L2 hI2) (fun z => absurd rfl z)
set_option maxRecDepth 4000 in
theorem lc_14 {nm : String} {G : GG} {b N : Nat} {xs : Nat → Int32} {dc : Nat} {I : Nat → Nat → Int32} {L : Nat → Nat → Int64} {bc bs i : Nat} {Post : Option Value → Mem → Prop} (hgx : gx G 1 = .ref b) (hN : N < 2 ^ 31) (hi : i + 6 ≤ N) (h : Inv dc I L) (hk : ∀ dc I L, Inv dc I L → VL (ZS G b N xs) G (yLn nm) cL_law 4 (some .boolean) 20 bc bs 1195 [.float 1, .ref 0, .ref 39, .int (nI i)] [] (Mm dc I L) Post) : VL (ZS G b N xs) G (yLn nm) cL_law 4 (some .boolean) 20 (bc + 3) (bs + 38) 665 [.float 1, .ref 0, .ref 39, .int (nI i)] [] (Mm dc I L) Post := by
  obtain ⟨PX, hX, hT⟩ := op_proxy (G := G) h (xs (i + 1)) (xs (i + 2))
  refine VL.mono (Nat.le_refl _) (Nat.le_add_right bc 3) (Nat.le_add_right bs 38) (fun _ _ z => z) ?_
  refine w_ald1 dL_law_665 ?_
  refine w_ald0 hgx dL_law_666 ?_
  refine w_ild3 dL_law_667 ?_
  refine w_icN (n := 1) dL_law_668 (by decide) ?_
  refine w_iadd dL_law_669 ?_
  refine w_sld (j := i + 1) dL_law_670 (nI_add i 1) (by omega) hN ?_
  refine w_ald0 hgx dL_law_671 ?_
  refine w_ild3 dL_law_672 ?_
  refine w_icN (n := 2) dL_law_673 (by decide) ?_
  refine w_iadd dL_law_674 ?_
  refine w_sld (j := i + 2) dL_law_675 (nI_add i 2) (by omega) hN ?_
  refine VL.invV (bc := bc) (bs := bs) (bc' := 0) (bs' := 0) (st := []) (av := [.int (xs (i + 1)), .int (xs (i + 2))]) hX lk_L_78 dL_law_676 (by decide) (Nat.le_of_ble_eq_true rfl) rfl rfl (show _ < 78 + 3 * _ by omega) (fun r μ1 hp => ?_)
  obtain ⟨x, dc1, I1, L1, rfl, rfl, hM⟩ := hT r μ1 hp
  show VL (ZS G b N xs) G (yLn nm) cL_law 4 (some .boolean) 20 bc bs 679 [.float 1, .ref 0, .ref 39, .int (nI i)] [.int x] (Mm dc1 I1 L1) Post
  refine w_ald2 dL_law_679 ?_
  refine w_ald0 hgx dL_law_680 ?_
  refine w_ild3 dL_law_681 ?_
  refine w_icN (n := 1) dL_law_682 (by decide) ?_
  refine w_iadd dL_law_683 ?_
  refine w_sld (j := i + 1) dL_law_684 (nI_add i 1) (by omega) hN ?_
  refine w_ald0 hgx dL_law_685 ?_
  refine w_ild3 dL_law_686 ?_
  refine w_icN (n := 2) dL_law_687 (by decide) ?_
  refine w_iadd dL_law_688 ?_
  refine w_sld (j := i + 2) dL_law_689 (nI_add i 2) (by omega) hN ?_
  refine VL.invV (bc := bc) (bs := bs) (bc' := 0) (bs' := 0) (st := [.int x]) (av := [.int (xs (i + 1)), .int (xs (i + 2))]) hM lk_L_81 dL_law_690 (by decide) (Nat.le_of_ble_eq_true rfl) rfl rfl (show _ < 78 + 3 * _ by omega) (fun r μ2 hp2 => ?_)
  obtain ⟨rfl, dc2, I2, L2, rfl, hI2⟩ := hp2
  show VL (ZS G b N xs) G (yLn nm) cL_law 4 (some .boolean) 20 bc bs 693 [.float 1, .ref 0, .ref 39, .int (nI i)] [.int x, .int x] (Mm dc2 I2 L2) Post
  exact w_icmp_eq (tgt := 1195) dL_law_693 (by decide) (fun _ => hk dc2 I2 L2 hI2) (fun z => absurd rfl z)
set_option maxRecDepth 4000 in
theorem lc_15 {nm : String} {G : GG} {b N : Nat} {xs : Nat → Int32} {dc : Nat} {I : Nat → Nat → Int32} {L : Nat → Nat → Int64} {bc bs i : Nat} {Post : Option Value → Mem → Prop} (hgx : gx G 1 = .ref b) (hN : N < 2 ^ 31) (hi : i + 6 ≤ N) (h : Inv dc I L) (hk : ∀ dc I L, Inv dc I L → VL (ZS G b N xs) G (yLn nm) cL_law 4 (some .boolean) 20 bc bs 1195 [.float 1, .ref 0, .ref 39, .int (nI i)] [] (Mm dc I L) Post) : VL (ZS G b N xs) G (yLn nm) cL_law 4 (some .boolean) 20 (bc + 3) (bs + 38) 698 [.float 1, .ref 0, .ref 39, .int (nI i)] [] (Mm dc I L) Post := by
  obtain ⟨PX, hX, hT⟩ := op_twice (G := G) h (xs (i + 1)) (xs (i + 2)) (xs (i + 3)) (xs (i + 4))
  refine VL.mono (Nat.le_refl _) (Nat.le_add_right bc 3) (Nat.le_add_right bs 38) (fun _ _ z => z) ?_
  refine w_ald1 dL_law_698 ?_
  refine w_ald0 hgx dL_law_699 ?_
  refine w_ild3 dL_law_700 ?_
  refine w_icN (n := 1) dL_law_701 (by decide) ?_
  refine w_iadd dL_law_702 ?_
  refine w_sld (j := i + 1) dL_law_703 (nI_add i 1) (by omega) hN ?_
  refine w_ald0 hgx dL_law_704 ?_
  refine w_ild3 dL_law_705 ?_
  refine w_icN (n := 2) dL_law_706 (by decide) ?_
  refine w_iadd dL_law_707 ?_
  refine w_sld (j := i + 2) dL_law_708 (nI_add i 2) (by omega) hN ?_
  refine w_ald0 hgx dL_law_709 ?_
  refine w_ild3 dL_law_710 ?_
  refine w_icN (n := 3) dL_law_711 (by decide) ?_
  refine w_iadd dL_law_712 ?_
  refine w_sld (j := i + 3) dL_law_713 (nI_add i 3) (by omega) hN ?_
  refine w_ald0 hgx dL_law_714 ?_
  refine w_ild3 dL_law_715 ?_
  refine w_icN (n := 4) dL_law_716 (by decide) ?_
  refine w_iadd dL_law_717 ?_
  refine w_sld (j := i + 4) dL_law_718 (nI_add i 4) (by omega) hN ?_
  refine VL.invV (bc := bc) (bs := bs) (bc' := 0) (bs' := 0) (st := []) (av := [.int (xs (i + 1)), .int (xs (i + 2)), .int (xs (i + 3)), .int (xs (i + 4))]) hX lk_L_82 dL_law_719 (by decide) (Nat.le_of_ble_eq_true rfl) rfl rfl (show _ < 78 + 3 * _ by omega) (fun r μ1 hp => ?_)
  obtain ⟨x, dc1, I1, L1, rfl, rfl, hM⟩ := hT r μ1 hp
  show VL (ZS G b N xs) G (yLn nm) cL_law 4 (some .boolean) 20 bc bs 722 [.float 1, .ref 0, .ref 39, .int (nI i)] [.int x] (Mm dc1 I1 L1) Post
  refine w_ald2 dL_law_722 ?_
  refine w_ald0 hgx dL_law_723 ?_
  refine w_ild3 dL_law_724 ?_
  refine w_icN (n := 1) dL_law_725 (by decide) ?_
  refine w_iadd dL_law_726 ?_
  refine w_sld (j := i + 1) dL_law_727 (nI_add i 1) (by omega) hN ?_
  refine w_ald0 hgx dL_law_728 ?_
  refine w_ild3 dL_law_729 ?_
  refine w_icN (n := 2) dL_law_730 (by decide) ?_
  refine w_iadd dL_law_731 ?_
  refine w_sld (j := i + 2) dL_law_732 (nI_add i 2) (by omega) hN ?_
  refine w_ald0 hgx dL_law_733 ?_
  refine w_ild3 dL_law_734 ?_
  refine w_icN (n := 3) dL_law_735 (by decide) ?_
  refine w_iadd dL_law_736 ?_
  refine w_sld (j := i + 3) dL_law_737 (nI_add i 3) (by omega) hN ?_
  refine w_ald0 hgx dL_law_738 ?_
  refine w_ild3 dL_law_739 ?_
  refine w_icN (n := 4) dL_law_740 (by decide) ?_
  refine w_iadd dL_law_741 ?_
  refine w_sld (j := i + 4) dL_law_742 (nI_add i 4) (by omega) hN ?_
  refine VL.invV (bc := bc) (bs := bs) (bc' := 0) (bs' := 0) (st := [.int x]) (av := [.int (xs (i + 1)), .int (xs (i + 2)), .int (xs (i + 3)), .int (xs (i + 4))]) hM lk_L_86 dL_law_743 (by decide) (Nat.le_of_ble_eq_true rfl) rfl rfl (show _ < 78 + 3 * _ by omega) (fun r μ2 hp2 => ?_)
  obtain ⟨rfl, dc2, I2, L2, rfl, hI2⟩ := hp2
  show VL (ZS G b N xs) G (yLn nm) cL_law 4 (some .boolean) 20 bc bs 746 [.float 1, .ref 0, .ref 39, .int (nI i)] [.int x, .int x] (Mm dc2 I2 L2) Post
  exact w_icmp_eq (tgt := 1195) dL_law_746 (by decide) (fun _ => hk dc2 I2 L2 hI2) (fun z => absurd rfl z)
set_option maxRecDepth 4000 in
theorem lc_16 {nm : String} {G : GG} {b N : Nat} {xs : Nat → Int32} {dc : Nat} {I : Nat → Nat → Int32} {L : Nat → Nat → Int64} {bc bs i : Nat} {Post : Option Value → Mem → Prop} (hgx : gx G 1 = .ref b) (hN : N < 2 ^ 31) (hi : i + 6 ≤ N) (h : Inv dc I L) (hk : ∀ dc I L, Inv dc I L → VL (ZS G b N xs) G (yLn nm) cL_law 4 (some .boolean) 20 bc bs 1195 [.float 1, .ref 0, .ref 39, .int (nI i)] [] (Mm dc I L) Post) : VL (ZS G b N xs) G (yLn nm) cL_law 4 (some .boolean) 20 (bc + 3) (bs + 38) 751 [.float 1, .ref 0, .ref 39, .int (nI i)] [] (Mm dc I L) Post := by
  obtain ⟨PX, hX, hT⟩ := op_fill (G := G) h 
  refine VL.mono (Nat.le_refl _) (Nat.le_add_right bc 3) (Nat.le_add_right bs 38) (fun _ _ z => z) ?_
  refine w_ald1 dL_law_751 ?_
  refine VL.invV (bc := bc) (bs := bs) (bc' := 0) (bs' := 0) (st := []) (av := []) hX lk_L_87 dL_law_752 (by decide) (Nat.le_of_ble_eq_true rfl) rfl rfl (show _ < 78 + 3 * _ by omega) (fun r μ1 hp => ?_)
  obtain ⟨x, dc1, I1, L1, rfl, rfl, hM⟩ := hT r μ1 hp
  show VL (ZS G b N xs) G (yLn nm) cL_law 4 (some .boolean) 20 bc bs 755 [.float 1, .ref 0, .ref 39, .int (nI i)] [.int x] (Mm dc1 I1 L1) Post
  refine w_ald2 dL_law_755 ?_
  refine VL.invV (bc := bc) (bs := bs) (bc' := 0) (bs' := 0) (st := [.int x]) (av := []) hM lk_L_90 dL_law_756 (by decide) (Nat.le_of_ble_eq_true rfl) rfl rfl (show _ < 78 + 3 * _ by omega) (fun r μ2 hp2 => ?_)
  obtain ⟨rfl, dc2, I2, L2, rfl, hI2⟩ := hp2
  show VL (ZS G b N xs) G (yLn nm) cL_law 4 (some .boolean) 20 bc bs 759 [.float 1, .ref 0, .ref 39, .int (nI i)] [.int x, .int x] (Mm dc2 I2 L2) Post
  exact w_icmp_eq (tgt := 1195) dL_law_759 (by decide) (fun _ => hk dc2 I2 L2 hI2) (fun z => absurd rfl z)
set_option maxRecDepth 4000 in
theorem lc_17 {nm : String} {G : GG} {b N : Nat} {xs : Nat → Int32} {dc : Nat} {I : Nat → Nat → Int32} {L : Nat → Nat → Int64} {bc bs i : Nat} {Post : Option Value → Mem → Prop} (hgx : gx G 1 = .ref b) (hN : N < 2 ^ 31) (hi : i + 6 ≤ N) (h : Inv dc I L) (hk : ∀ dc I L, Inv dc I L → VL (ZS G b N xs) G (yLn nm) cL_law 4 (some .boolean) 20 bc bs 1195 [.float 1, .ref 0, .ref 39, .int (nI i)] [] (Mm dc I L) Post) : VL (ZS G b N xs) G (yLn nm) cL_law 4 (some .boolean) 20 (bc + 3) (bs + 38) 764 [.float 1, .ref 0, .ref 39, .int (nI i)] [] (Mm dc I L) Post := by
  obtain ⟨PX, hX, hT⟩ := op_from (G := G) h (xs (i + 1))
  refine VL.mono (Nat.le_refl _) (Nat.le_add_right bc 3) (Nat.le_add_right bs 38) (fun _ _ z => z) ?_
  refine w_ald1 dL_law_764 ?_
  refine w_ald0 hgx dL_law_765 ?_
  refine w_ild3 dL_law_766 ?_
  refine w_icN (n := 1) dL_law_767 (by decide) ?_
  refine w_iadd dL_law_768 ?_
  refine w_sld (j := i + 1) dL_law_769 (nI_add i 1) (by omega) hN ?_
  refine VL.invV (bc := bc) (bs := bs) (bc' := 0) (bs' := 0) (st := []) (av := [.int (xs (i + 1))]) hX lk_L_91 dL_law_770 (by decide) (Nat.le_of_ble_eq_true rfl) rfl rfl (show _ < 78 + 3 * _ by omega) (fun r μ1 hp => ?_)
  obtain ⟨x, dc1, I1, L1, rfl, rfl, hM⟩ := hT r μ1 hp
  show VL (ZS G b N xs) G (yLn nm) cL_law 4 (some .boolean) 20 bc bs 773 [.float 1, .ref 0, .ref 39, .int (nI i)] [.int x] (Mm dc1 I1 L1) Post
  refine w_ald2 dL_law_773 ?_
  refine w_ald0 hgx dL_law_774 ?_
  refine w_ild3 dL_law_775 ?_
  refine w_icN (n := 1) dL_law_776 (by decide) ?_
  refine w_iadd dL_law_777 ?_
  refine w_sld (j := i + 1) dL_law_778 (nI_add i 1) (by omega) hN ?_
  refine VL.invV (bc := bc) (bs := bs) (bc' := 0) (bs' := 0) (st := [.int x]) (av := [.int (xs (i + 1))]) hM lk_L_94 dL_law_779 (by decide) (Nat.le_of_ble_eq_true rfl) rfl rfl (show _ < 78 + 3 * _ by omega) (fun r μ2 hp2 => ?_)
  obtain ⟨rfl, dc2, I2, L2, rfl, hI2⟩ := hp2
  show VL (ZS G b N xs) G (yLn nm) cL_law 4 (some .boolean) 20 bc bs 782 [.float 1, .ref 0, .ref 39, .int (nI i)] [.int x, .int x] (Mm dc2 I2 L2) Post
  exact w_icmp_eq (tgt := 1195) dL_law_782 (by decide) (fun _ => hk dc2 I2 L2 hI2) (fun z => absurd rfl z)
set_option maxRecDepth 4000 in
theorem lc_18 {nm : String} {G : GG} {b N : Nat} {xs : Nat → Int32} {dc : Nat} {I : Nat → Nat → Int32} {L : Nat → Nat → Int64} {bc bs i : Nat} {Post : Option Value → Mem → Prop} (hgx : gx G 1 = .ref b) (hN : N < 2 ^ 31) (hi : i + 6 ≤ N) (h : Inv dc I L) (hk : ∀ dc I L, Inv dc I L → VL (ZS G b N xs) G (yLn nm) cL_law 4 (some .boolean) 20 bc bs 1195 [.float 1, .ref 0, .ref 39, .int (nI i)] [] (Mm dc I L) Post) : VL (ZS G b N xs) G (yLn nm) cL_law 4 (some .boolean) 20 (bc + 3) (bs + 38) 787 [.float 1, .ref 0, .ref 39, .int (nI i)] [] (Mm dc I L) Post := by
  obtain ⟨PX, hX, hT⟩ := op_about (G := G) h (xs (i + 1)) (xs (i + 2))
  refine VL.mono (Nat.le_refl _) (Nat.le_add_right bc 3) (Nat.le_add_right bs 38) (fun _ _ z => z) ?_
  refine w_ald1 dL_law_787 ?_
  refine w_ald0 hgx dL_law_788 ?_
  refine w_ild3 dL_law_789 ?_
  refine w_icN (n := 1) dL_law_790 (by decide) ?_
  refine w_iadd dL_law_791 ?_
  refine w_sld (j := i + 1) dL_law_792 (nI_add i 1) (by omega) hN ?_
  refine w_ald0 hgx dL_law_793 ?_
  refine w_ild3 dL_law_794 ?_
  refine w_icN (n := 2) dL_law_795 (by decide) ?_
  refine w_iadd dL_law_796 ?_
  refine w_sld (j := i + 2) dL_law_797 (nI_add i 2) (by omega) hN ?_
  refine VL.invV (bc := bc) (bs := bs) (bc' := 0) (bs' := 0) (st := []) (av := [.int (xs (i + 1)), .int (xs (i + 2))]) hX lk_L_95 dL_law_798 (by decide) (Nat.le_of_ble_eq_true rfl) rfl rfl (show _ < 78 + 3 * _ by omega) (fun r μ1 hp => ?_)
  obtain ⟨x, dc1, I1, L1, rfl, rfl, hM⟩ := hT r μ1 hp
  show VL (ZS G b N xs) G (yLn nm) cL_law 4 (some .boolean) 20 bc bs 801 [.float 1, .ref 0, .ref 39, .int (nI i)] [.int x] (Mm dc1 I1 L1) Post
  refine w_ald2 dL_law_801 ?_
  refine w_ald0 hgx dL_law_802 ?_
  refine w_ild3 dL_law_803 ?_
  refine w_icN (n := 1) dL_law_804 (by decide) ?_
  refine w_iadd dL_law_805 ?_
  refine w_sld (j := i + 1) dL_law_806 (nI_add i 1) (by omega) hN ?_
  refine w_ald0 hgx dL_law_807 ?_
  refine w_ild3 dL_law_808 ?_
  refine w_icN (n := 2) dL_law_809 (by decide) ?_
  refine w_iadd dL_law_810 ?_
  refine w_sld (j := i + 2) dL_law_811 (nI_add i 2) (by omega) hN ?_
  refine VL.invV (bc := bc) (bs := bs) (bc' := 0) (bs' := 0) (st := [.int x]) (av := [.int (xs (i + 1)), .int (xs (i + 2))]) hM lk_L_98 dL_law_812 (by decide) (Nat.le_of_ble_eq_true rfl) rfl rfl (show _ < 78 + 3 * _ by omega) (fun r μ2 hp2 => ?_)
  obtain ⟨rfl, dc2, I2, L2, rfl, hI2⟩ := hp2
  show VL (ZS G b N xs) G (yLn nm) cL_law 4 (some .boolean) 20 bc bs 815 [.float 1, .ref 0, .ref 39, .int (nI i)] [.int x, .int x] (Mm dc2 I2 L2) Post
  exact w_icmp_eq (tgt := 1195) dL_law_815 (by decide) (fun _ => hk dc2 I2 L2 hI2) (fun z => absurd rfl z)
set_option maxRecDepth 4000 in
theorem lc_19 {nm : String} {G : GG} {b N : Nat} {xs : Nat → Int32} {dc : Nat} {I : Nat → Nat → Int32} {L : Nat → Nat → Int64} {bc bs i : Nat} {Post : Option Value → Mem → Prop} (hgx : gx G 1 = .ref b) (hN : N < 2 ^ 31) (hi : i + 6 ≤ N) (h : Inv dc I L) (hk : ∀ dc I L, Inv dc I L → VL (ZS G b N xs) G (yLn nm) cL_law 4 (some .boolean) 20 bc bs 1195 [.float 1, .ref 0, .ref 39, .int (nI i)] [] (Mm dc I L) Post) : VL (ZS G b N xs) G (yLn nm) cL_law 4 (some .boolean) 20 (bc + 3) (bs + 38) 820 [.float 1, .ref 0, .ref 39, .int (nI i)] [] (Mm dc I L) Post := by
  obtain ⟨PX, hX, hT⟩ := op_age (G := G) h (xs (i + 1)) (xs (i + 2))
  refine VL.mono (Nat.le_refl _) (Nat.le_add_right bc 3) (Nat.le_add_right bs 38) (fun _ _ z => z) ?_
  refine w_ald1 dL_law_820 ?_
  refine w_ald0 hgx dL_law_821 ?_
  refine w_ild3 dL_law_822 ?_
  refine w_icN (n := 1) dL_law_823 (by decide) ?_
  refine w_iadd dL_law_824 ?_
  refine w_sld (j := i + 1) dL_law_825 (nI_add i 1) (by omega) hN ?_
  refine w_ald0 hgx dL_law_826 ?_
  refine w_ild3 dL_law_827 ?_
  refine w_icN (n := 2) dL_law_828 (by decide) ?_
  refine w_iadd dL_law_829 ?_
  refine w_sld (j := i + 2) dL_law_830 (nI_add i 2) (by omega) hN ?_
  refine VL.invV (bc := bc) (bs := bs) (bc' := 0) (bs' := 0) (st := []) (av := [.int (xs (i + 1)), .int (xs (i + 2))]) hX lk_L_99 dL_law_831 (by decide) (Nat.le_of_ble_eq_true rfl) rfl rfl (show _ < 78 + 3 * _ by omega) (fun r μ1 hp => ?_)
  obtain ⟨x, dc1, I1, L1, rfl, rfl, hM⟩ := hT r μ1 hp
  show VL (ZS G b N xs) G (yLn nm) cL_law 4 (some .boolean) 20 bc bs 834 [.float 1, .ref 0, .ref 39, .int (nI i)] [.int x] (Mm dc1 I1 L1) Post
  refine w_ald2 dL_law_834 ?_
  refine w_ald0 hgx dL_law_835 ?_
  refine w_ild3 dL_law_836 ?_
  refine w_icN (n := 1) dL_law_837 (by decide) ?_
  refine w_iadd dL_law_838 ?_
  refine w_sld (j := i + 1) dL_law_839 (nI_add i 1) (by omega) hN ?_
  refine w_ald0 hgx dL_law_840 ?_
  refine w_ild3 dL_law_841 ?_
  refine w_icN (n := 2) dL_law_842 (by decide) ?_
  refine w_iadd dL_law_843 ?_
  refine w_sld (j := i + 2) dL_law_844 (nI_add i 2) (by omega) hN ?_
  refine VL.invV (bc := bc) (bs := bs) (bc' := 0) (bs' := 0) (st := [.int x]) (av := [.int (xs (i + 1)), .int (xs (i + 2))]) hM lk_L_102 dL_law_845 (by decide) (Nat.le_of_ble_eq_true rfl) rfl rfl (show _ < 78 + 3 * _ by omega) (fun r μ2 hp2 => ?_)
  obtain ⟨rfl, dc2, I2, L2, rfl, hI2⟩ := hp2
  show VL (ZS G b N xs) G (yLn nm) cL_law 4 (some .boolean) 20 bc bs 848 [.float 1, .ref 0, .ref 39, .int (nI i)] [.int x, .int x] (Mm dc2 I2 L2) Post
  exact w_icmp_eq (tgt := 1195) dL_law_848 (by decide) (fun _ => hk dc2 I2 L2 hI2) (fun z => absurd rfl z)
set_option maxRecDepth 4000 in
theorem lc_20 {nm : String} {G : GG} {b N : Nat} {xs : Nat → Int32} {dc : Nat} {I : Nat → Nat → Int32} {L : Nat → Nat → Int64} {bc bs i : Nat} {Post : Option Value → Mem → Prop} (hgx : gx G 1 = .ref b) (hN : N < 2 ^ 31) (hi : i + 6 ≤ N) (h : Inv dc I L) (hk : ∀ dc I L, Inv dc I L → VL (ZS G b N xs) G (yLn nm) cL_law 4 (some .boolean) 20 bc bs 1195 [.float 1, .ref 0, .ref 39, .int (nI i)] [] (Mm dc I L) Post) : VL (ZS G b N xs) G (yLn nm) cL_law 4 (some .boolean) 20 (bc + 3) (bs + 38) 853 [.float 1, .ref 0, .ref 39, .int (nI i)] [] (Mm dc I L) Post := by
  obtain ⟨PX, hX, hT⟩ := op_count (G := G) h (xs (i + 1)) (xs (i + 2)) (bI (¬ (xs (i + 3)) = 0))
  refine VL.mono (Nat.le_refl _) (Nat.le_add_right bc 3) (Nat.le_add_right bs 38) (fun _ _ z => z) ?_
  refine w_ald1 dL_law_853 ?_
  refine w_ald0 hgx dL_law_854 ?_
  refine w_ild3 dL_law_855 ?_
  refine w_icN (n := 1) dL_law_856 (by decide) ?_
  refine w_iadd dL_law_857 ?_
  refine w_sld (j := i + 1) dL_law_858 (nI_add i 1) (by omega) hN ?_
  refine w_ald0 hgx dL_law_859 ?_
  refine w_ild3 dL_law_860 ?_
  refine w_icN (n := 2) dL_law_861 (by decide) ?_
  refine w_iadd dL_law_862 ?_
  refine w_sld (j := i + 2) dL_law_863 (nI_add i 2) (by omega) hN ?_
  refine w_ald0 hgx dL_law_864 ?_
  refine w_ild3 dL_law_865 ?_
  refine w_icN (n := 3) dL_law_866 (by decide) ?_
  refine w_iadd dL_law_867 ?_
  refine w_sld (j := i + 3) dL_law_868 (nI_add i 3) (by omega) hN ?_
  refine w_ne0 (q1 := 876) (q2 := 877) dL_law_869 (by decide) dL_law_872 dL_law_873 (by decide) dL_law_876 rfl ?_
  refine VL.invV (bc := bc) (bs := bs) (bc' := 0) (bs' := 0) (st := []) (av := [.int (xs (i + 1)), .int (xs (i + 2)), .int (bI (¬ (xs (i + 3)) = 0))]) hX lk_L_103 dL_law_877 (by decide) (Nat.le_of_ble_eq_true rfl) rfl rfl (show _ < 78 + 3 * _ by omega) (fun r μ1 hp => ?_)
  obtain ⟨x, dc1, I1, L1, rfl, rfl, hM⟩ := hT r μ1 hp
  show VL (ZS G b N xs) G (yLn nm) cL_law 4 (some .boolean) 20 bc bs 880 [.float 1, .ref 0, .ref 39, .int (nI i)] [.int x] (Mm dc1 I1 L1) Post
  refine w_ald2 dL_law_880 ?_
  refine w_ald0 hgx dL_law_881 ?_
  refine w_ild3 dL_law_882 ?_
  refine w_icN (n := 1) dL_law_883 (by decide) ?_
  refine w_iadd dL_law_884 ?_
  refine w_sld (j := i + 1) dL_law_885 (nI_add i 1) (by omega) hN ?_
  refine w_ald0 hgx dL_law_886 ?_
  refine w_ild3 dL_law_887 ?_
  refine w_icN (n := 2) dL_law_888 (by decide) ?_
  refine w_iadd dL_law_889 ?_
  refine w_sld (j := i + 2) dL_law_890 (nI_add i 2) (by omega) hN ?_
  refine w_ald0 hgx dL_law_891 ?_
  refine w_ild3 dL_law_892 ?_
  refine w_icN (n := 3) dL_law_893 (by decide) ?_
  refine w_iadd dL_law_894 ?_
  refine w_sld (j := i + 3) dL_law_895 (nI_add i 3) (by omega) hN ?_
  refine w_ne0 (q1 := 903) (q2 := 904) dL_law_896 (by decide) dL_law_899 dL_law_900 (by decide) dL_law_903 rfl ?_
  refine VL.invV (bc := bc) (bs := bs) (bc' := 0) (bs' := 0) (st := [.int x]) (av := [.int (xs (i + 1)), .int (xs (i + 2)), .int (bI (¬ (xs (i + 3)) = 0))]) hM lk_L_107 dL_law_904 (by decide) (Nat.le_of_ble_eq_true rfl) rfl rfl (show _ < 78 + 3 * _ by omega) (fun r μ2 hp2 => ?_)
  obtain ⟨rfl, dc2, I2, L2, rfl, hI2⟩ := hp2
  show VL (ZS G b N xs) G (yLn nm) cL_law 4 (some .boolean) 20 bc bs 907 [.float 1, .ref 0, .ref 39, .int (nI i)] [.int x, .int x] (Mm dc2 I2 L2) Post
  exact w_icmp_eq (tgt := 1195) dL_law_907 (by decide) (fun _ => hk dc2 I2 L2 hI2) (fun z => absurd rfl z)
set_option maxRecDepth 4000 in
theorem lc_21 {nm : String} {G : GG} {b N : Nat} {xs : Nat → Int32} {dc : Nat} {I : Nat → Nat → Int32} {L : Nat → Nat → Int64} {bc bs i : Nat} {Post : Option Value → Mem → Prop} (hgx : gx G 1 = .ref b) (hN : N < 2 ^ 31) (hi : i + 6 ≤ N) (h : Inv dc I L) (hk : ∀ dc I L, Inv dc I L → VL (ZS G b N xs) G (yLn nm) cL_law 4 (some .boolean) 20 bc bs 1195 [.float 1, .ref 0, .ref 39, .int (nI i)] [] (Mm dc I L) Post) : VL (ZS G b N xs) G (yLn nm) cL_law 4 (some .boolean) 20 (bc + 3) (bs + 38) 912 [.float 1, .ref 0, .ref 39, .int (nI i)] [] (Mm dc I L) Post := by
  obtain ⟨PX, hX, hT⟩ := op_bestHour (G := G) h (xs (i + 1))
  refine VL.mono (Nat.le_refl _) (Nat.le_add_right bc 3) (Nat.le_add_right bs 38) (fun _ _ z => z) ?_
  refine w_ald1 dL_law_912 ?_
  refine w_ald0 hgx dL_law_913 ?_
  refine w_ild3 dL_law_914 ?_
  refine w_icN (n := 1) dL_law_915 (by decide) ?_
  refine w_iadd dL_law_916 ?_
  refine w_sld (j := i + 1) dL_law_917 (nI_add i 1) (by omega) hN ?_
  refine VL.invV (bc := bc) (bs := bs) (bc' := 0) (bs' := 0) (st := []) (av := [.int (xs (i + 1))]) hX lk_L_108 dL_law_918 (by decide) (Nat.le_of_ble_eq_true rfl) rfl rfl (show _ < 78 + 3 * _ by omega) (fun r μ1 hp => ?_)
  obtain ⟨x, dc1, I1, L1, rfl, rfl, hM⟩ := hT r μ1 hp
  show VL (ZS G b N xs) G (yLn nm) cL_law 4 (some .boolean) 20 bc bs 921 [.float 1, .ref 0, .ref 39, .int (nI i)] [.int x] (Mm dc1 I1 L1) Post
  refine w_ald2 dL_law_921 ?_
  refine w_ald0 hgx dL_law_922 ?_
  refine w_ild3 dL_law_923 ?_
  refine w_icN (n := 1) dL_law_924 (by decide) ?_
  refine w_iadd dL_law_925 ?_
  refine w_sld (j := i + 1) dL_law_926 (nI_add i 1) (by omega) hN ?_
  refine VL.invV (bc := bc) (bs := bs) (bc' := 0) (bs' := 0) (st := [.int x]) (av := [.int (xs (i + 1))]) hM lk_L_111 dL_law_927 (by decide) (Nat.le_of_ble_eq_true rfl) rfl rfl (show _ < 78 + 3 * _ by omega) (fun r μ2 hp2 => ?_)
  obtain ⟨rfl, dc2, I2, L2, rfl, hI2⟩ := hp2
  show VL (ZS G b N xs) G (yLn nm) cL_law 4 (some .boolean) 20 bc bs 930 [.float 1, .ref 0, .ref 39, .int (nI i)] [.int x, .int x] (Mm dc2 I2 L2) Post
  exact w_icmp_eq (tgt := 1195) dL_law_930 (by decide) (fun _ => hk dc2 I2 L2 hI2) (fun z => absurd rfl z)
set_option maxRecDepth 4000 in
theorem lc_22 {nm : String} {G : GG} {b N : Nat} {xs : Nat → Int32} {dc : Nat} {I : Nat → Nat → Int32} {L : Nat → Nat → Int64} {bc bs i : Nat} {Post : Option Value → Mem → Prop} (hgx : gx G 1 = .ref b) (hN : N < 2 ^ 31) (hi : i + 6 ≤ N) (h : Inv dc I L) (hk : ∀ dc I L, Inv dc I L → VL (ZS G b N xs) G (yLn nm) cL_law 4 (some .boolean) 20 bc bs 1195 [.float 1, .ref 0, .ref 39, .int (nI i)] [] (Mm dc I L) Post) : VL (ZS G b N xs) G (yLn nm) cL_law 4 (some .boolean) 20 (bc + 3) (bs + 38) 935 [.float 1, .ref 0, .ref 39, .int (nI i)] [] (Mm dc I L) Post := by
  obtain ⟨PX, hX, hT⟩ := op_cut (G := G) h (xs (i + 1))
  refine VL.mono (Nat.le_refl _) (Nat.le_add_right bc 3) (Nat.le_add_right bs 38) (fun _ _ z => z) ?_
  refine w_ald1 dL_law_935 ?_
  refine w_ald0 hgx dL_law_936 ?_
  refine w_ild3 dL_law_937 ?_
  refine w_icN (n := 1) dL_law_938 (by decide) ?_
  refine w_iadd dL_law_939 ?_
  refine w_sld (j := i + 1) dL_law_940 (nI_add i 1) (by omega) hN ?_
  refine VL.invV (bc := bc) (bs := bs) (bc' := 0) (bs' := 0) (st := []) (av := [.int (xs (i + 1))]) hX lk_L_112 dL_law_941 (by decide) (Nat.le_of_ble_eq_true rfl) rfl rfl (show _ < 78 + 3 * _ by omega) (fun r μ1 hp => ?_)
  obtain ⟨x, dc1, I1, L1, rfl, rfl, hM⟩ := hT r μ1 hp
  show VL (ZS G b N xs) G (yLn nm) cL_law 4 (some .boolean) 20 bc bs 944 [.float 1, .ref 0, .ref 39, .int (nI i)] [.int x] (Mm dc1 I1 L1) Post
  refine w_ald2 dL_law_944 ?_
  refine w_ald0 hgx dL_law_945 ?_
  refine w_ild3 dL_law_946 ?_
  refine w_icN (n := 1) dL_law_947 (by decide) ?_
  refine w_iadd dL_law_948 ?_
  refine w_sld (j := i + 1) dL_law_949 (nI_add i 1) (by omega) hN ?_
  refine VL.invV (bc := bc) (bs := bs) (bc' := 0) (bs' := 0) (st := [.int x]) (av := [.int (xs (i + 1))]) hM lk_L_115 dL_law_950 (by decide) (Nat.le_of_ble_eq_true rfl) rfl rfl (show _ < 78 + 3 * _ by omega) (fun r μ2 hp2 => ?_)
  obtain ⟨rfl, dc2, I2, L2, rfl, hI2⟩ := hp2
  show VL (ZS G b N xs) G (yLn nm) cL_law 4 (some .boolean) 20 bc bs 953 [.float 1, .ref 0, .ref 39, .int (nI i)] [.int x, .int x] (Mm dc2 I2 L2) Post
  exact w_icmp_eq (tgt := 1195) dL_law_953 (by decide) (fun _ => hk dc2 I2 L2 hI2) (fun z => absurd rfl z)
set_option maxRecDepth 4000 in
theorem lc_23 {nm : String} {G : GG} {b N : Nat} {xs : Nat → Int32} {dc : Nat} {I : Nat → Nat → Int32} {L : Nat → Nat → Int64} {bc bs i : Nat} {Post : Option Value → Mem → Prop} (hgx : gx G 1 = .ref b) (hN : N < 2 ^ 31) (hi : i + 6 ≤ N) (h : Inv dc I L) (hk : ∀ dc I L, Inv dc I L → VL (ZS G b N xs) G (yLn nm) cL_law 4 (some .boolean) 20 bc bs 1195 [.float 1, .ref 0, .ref 39, .int (nI i)] [] (Mm dc I L) Post) : VL (ZS G b N xs) G (yLn nm) cL_law 4 (some .boolean) 20 (bc + 3) (bs + 38) 958 [.float 1, .ref 0, .ref 39, .int (nI i)] [] (Mm dc I L) Post := by
  obtain ⟨PX, hX, hT⟩ := op_walk (G := G) h (xs (i + 1))
  refine VL.mono (Nat.le_refl _) (Nat.le_add_right bc 3) (Nat.le_add_right bs 38) (fun _ _ z => z) ?_
  refine w_ald1 dL_law_958 ?_
  refine w_ald0 hgx dL_law_959 ?_
  refine w_ild3 dL_law_960 ?_
  refine w_icN (n := 1) dL_law_961 (by decide) ?_
  refine w_iadd dL_law_962 ?_
  refine w_sld (j := i + 1) dL_law_963 (nI_add i 1) (by omega) hN ?_
  refine VL.invV (bc := bc) (bs := bs) (bc' := 0) (bs' := 0) (st := []) (av := [.int (xs (i + 1))]) hX lk_L_116 dL_law_964 (by decide) (Nat.le_of_ble_eq_true rfl) rfl rfl (show _ < 78 + 3 * _ by omega) (fun r μ1 hp => ?_)
  obtain ⟨x, dc1, I1, L1, rfl, rfl, hM⟩ := hT r μ1 hp
  show VL (ZS G b N xs) G (yLn nm) cL_law 4 (some .boolean) 20 bc bs 967 [.float 1, .ref 0, .ref 39, .int (nI i)] [.int x] (Mm dc1 I1 L1) Post
  refine w_ald2 dL_law_967 ?_
  refine w_ald0 hgx dL_law_968 ?_
  refine w_ild3 dL_law_969 ?_
  refine w_icN (n := 1) dL_law_970 (by decide) ?_
  refine w_iadd dL_law_971 ?_
  refine w_sld (j := i + 1) dL_law_972 (nI_add i 1) (by omega) hN ?_
  refine VL.invV (bc := bc) (bs := bs) (bc' := 0) (bs' := 0) (st := [.int x]) (av := [.int (xs (i + 1))]) hM lk_L_119 dL_law_973 (by decide) (Nat.le_of_ble_eq_true rfl) rfl rfl (show _ < 78 + 3 * _ by omega) (fun r μ2 hp2 => ?_)
  obtain ⟨rfl, dc2, I2, L2, rfl, hI2⟩ := hp2
  show VL (ZS G b N xs) G (yLn nm) cL_law 4 (some .boolean) 20 bc bs 976 [.float 1, .ref 0, .ref 39, .int (nI i)] [.int x, .int x] (Mm dc2 I2 L2) Post
  exact w_icmp_eq (tgt := 1195) dL_law_976 (by decide) (fun _ => hk dc2 I2 L2 hI2) (fun z => absurd rfl z)
set_option maxRecDepth 4000 in
theorem lc_24 {nm : String} {G : GG} {b N : Nat} {xs : Nat → Int32} {dc : Nat} {I : Nat → Nat → Int32} {L : Nat → Nat → Int64} {bc bs i : Nat} {Post : Option Value → Mem → Prop} (hgx : gx G 1 = .ref b) (hN : N < 2 ^ 31) (hi : i + 6 ≤ N) (h : Inv dc I L) (hk : ∀ dc I L, Inv dc I L → VL (ZS G b N xs) G (yLn nm) cL_law 4 (some .boolean) 20 bc bs 1195 [.float 1, .ref 0, .ref 39, .int (nI i)] [] (Mm dc I L) Post) : VL (ZS G b N xs) G (yLn nm) cL_law 4 (some .boolean) 20 (bc + 3) (bs + 38) 981 [.float 1, .ref 0, .ref 39, .int (nI i)] [] (Mm dc I L) Post := by
  obtain ⟨PX, hX, hT⟩ := op_second (G := G) h (xs (i + 1)) (xs (i + 2))
  refine VL.mono (Nat.le_refl _) (Nat.le_add_right bc 3) (Nat.le_add_right bs 38) (fun _ _ z => z) ?_
  refine w_ald1 dL_law_981 ?_
  refine w_ald0 hgx dL_law_982 ?_
  refine w_ild3 dL_law_983 ?_
  refine w_icN (n := 1) dL_law_984 (by decide) ?_
  refine w_iadd dL_law_985 ?_
  refine w_sld (j := i + 1) dL_law_986 (nI_add i 1) (by omega) hN ?_
  refine w_ald0 hgx dL_law_987 ?_
  refine w_ild3 dL_law_988 ?_
  refine w_icN (n := 2) dL_law_989 (by decide) ?_
  refine w_iadd dL_law_990 ?_
  refine w_sld (j := i + 2) dL_law_991 (nI_add i 2) (by omega) hN ?_
  refine VL.invV (bc := bc) (bs := bs) (bc' := 0) (bs' := 0) (st := []) (av := [.int (xs (i + 1)), .int (xs (i + 2))]) hX lk_L_120 dL_law_992 (by decide) (Nat.le_of_ble_eq_true rfl) rfl rfl (show _ < 78 + 3 * _ by omega) (fun r μ1 hp => ?_)
  obtain ⟨x, dc1, I1, L1, rfl, rfl, hM⟩ := hT r μ1 hp
  show VL (ZS G b N xs) G (yLn nm) cL_law 4 (some .boolean) 20 bc bs 995 [.float 1, .ref 0, .ref 39, .int (nI i)] [.int x] (Mm dc1 I1 L1) Post
  refine w_ald2 dL_law_995 ?_
  refine w_ald0 hgx dL_law_996 ?_
  refine w_ild3 dL_law_997 ?_
  refine w_icN (n := 1) dL_law_998 (by decide) ?_
  refine w_iadd dL_law_999 ?_
  refine w_sld (j := i + 1) dL_law_1000 (nI_add i 1) (by omega) hN ?_
  refine w_ald0 hgx dL_law_1001 ?_
  refine w_ild3 dL_law_1002 ?_
  refine w_icN (n := 2) dL_law_1003 (by decide) ?_
  refine w_iadd dL_law_1004 ?_
  refine w_sld (j := i + 2) dL_law_1005 (nI_add i 2) (by omega) hN ?_
  refine VL.invV (bc := bc) (bs := bs) (bc' := 0) (bs' := 0) (st := [.int x]) (av := [.int (xs (i + 1)), .int (xs (i + 2))]) hM lk_L_123 dL_law_1006 (by decide) (Nat.le_of_ble_eq_true rfl) rfl rfl (show _ < 78 + 3 * _ by omega) (fun r μ2 hp2 => ?_)
  obtain ⟨rfl, dc2, I2, L2, rfl, hI2⟩ := hp2
  show VL (ZS G b N xs) G (yLn nm) cL_law 4 (some .boolean) 20 bc bs 1009 [.float 1, .ref 0, .ref 39, .int (nI i)] [.int x, .int x] (Mm dc2 I2 L2) Post
  exact w_icmp_eq (tgt := 1195) dL_law_1009 (by decide) (fun _ => hk dc2 I2 L2 hI2) (fun z => absurd rfl z)
set_option maxRecDepth 4000 in
theorem lc_25 {nm : String} {G : GG} {b N : Nat} {xs : Nat → Int32} {dc : Nat} {I : Nat → Nat → Int32} {L : Nat → Nat → Int64} {bc bs i : Nat} {Post : Option Value → Mem → Prop} (hgx : gx G 1 = .ref b) (hN : N < 2 ^ 31) (hi : i + 6 ≤ N) (h : Inv dc I L) (hk : ∀ dc I L, Inv dc I L → VL (ZS G b N xs) G (yLn nm) cL_law 4 (some .boolean) 20 bc bs 1195 [.float 1, .ref 0, .ref 39, .int (nI i)] [] (Mm dc I L) Post) : VL (ZS G b N xs) G (yLn nm) cL_law 4 (some .boolean) 20 (bc + 3) (bs + 38) 1014 [.float 1, .ref 0, .ref 39, .int (nI i)] [] (Mm dc I L) Post := by
  obtain ⟨x, hX, hM⟩ := op_right (G := G) h (bI (¬ (xs (i + 1)) = 0))
  refine VL.mono (Nat.le_refl _) (Nat.le_add_right bc 3) (Nat.le_add_right bs 38) (fun _ _ z => z) ?_
  refine w_ald1 dL_law_1014 ?_
  refine w_ald0 hgx dL_law_1015 ?_
  refine w_ild3 dL_law_1016 ?_
  refine w_icN (n := 1) dL_law_1017 (by decide) ?_
  refine w_iadd dL_law_1018 ?_
  refine w_sld (j := i + 1) dL_law_1019 (nI_add i 1) (by omega) hN ?_
  refine w_ne0 (q1 := 1027) (q2 := 1028) dL_law_1020 (by decide) dL_law_1023 dL_law_1024 (by decide) dL_law_1027 rfl ?_
  refine VL.invV (bc := bc) (bs := bs) (bc' := 0) (bs' := 0) (st := []) (av := [.int (bI (¬ (xs (i + 1)) = 0))]) hX lk_L_124 dL_law_1028 (by decide) (Nat.le_of_ble_eq_true rfl) rfl rfl (show _ < 78 + 3 * _ by omega) (fun r μ1 hp => ?_)
  obtain ⟨rfl, rfl⟩ := hp
  show VL (ZS G b N xs) G (yLn nm) cL_law 4 (some .boolean) 20 bc bs 1031 [.float 1, .ref 0, .ref 39, .int (nI i)] [.long x] (Mm dc I L) Post
  refine w_ald2 dL_law_1031 ?_
  refine w_ald0 hgx dL_law_1032 ?_
  refine w_ild3 dL_law_1033 ?_
  refine w_icN (n := 1) dL_law_1034 (by decide) ?_
  refine w_iadd dL_law_1035 ?_
  refine w_sld (j := i + 1) dL_law_1036 (nI_add i 1) (by omega) hN ?_
  refine w_ne0 (q1 := 1044) (q2 := 1045) dL_law_1037 (by decide) dL_law_1040 dL_law_1041 (by decide) dL_law_1044 rfl ?_
  refine VL.invV (bc := bc) (bs := bs) (bc' := 0) (bs' := 0) (st := [.long x]) (av := [.int (bI (¬ (xs (i + 1)) = 0))]) hM lk_L_128 dL_law_1045 (by decide) (Nat.le_of_ble_eq_true rfl) rfl rfl (show _ < 78 + 3 * _ by omega) (fun r μ2 hp2 => ?_)
  obtain ⟨rfl, dc2, I2, L2, rfl, hI2⟩ := hp2
  show VL (ZS G b N xs) G (yLn nm) cL_law 4 (some .boolean) 20 bc bs 1048 [.float 1, .ref 0, .ref 39, .int (nI i)] [.long x, .long x] (Mm dc2 I2 L2) Post
  refine w_lcmp dL_law_1048 ?_
  exact w_if_eq (tgt := 1195) dL_law_1049 (by decide) (fun _ => hk dc2 I2 L2 hI2) (fun z => absurd (lcmp0.mpr rfl) z)
set_option maxRecDepth 4000 in
theorem lc_26 {nm : String} {G : GG} {b N : Nat} {xs : Nat → Int32} {dc : Nat} {I : Nat → Nat → Int32} {L : Nat → Nat → Int64} {bc bs i : Nat} {Post : Option Value → Mem → Prop} (hgx : gx G 1 = .ref b) (hN : N < 2 ^ 31) (hi : i + 6 ≤ N) (h : Inv dc I L) (hk : ∀ dc I L, Inv dc I L → VL (ZS G b N xs) G (yLn nm) cL_law 4 (some .boolean) 20 bc bs 1195 [.float 1, .ref 0, .ref 39, .int (nI i)] [] (Mm dc I L) Post) : VL (ZS G b N xs) G (yLn nm) cL_law 4 (some .boolean) 20 (bc + 3) (bs + 38) 1054 [.float 1, .ref 0, .ref 39, .int (nI i)] [] (Mm dc I L) Post := by
  obtain ⟨PX, hX, hT⟩ := op_heap (G := G) h 
  refine VL.mono (Nat.le_refl _) (Nat.le_add_right bc 3) (Nat.le_add_right bs 38) (fun _ _ z => z) ?_
  refine w_ald1 dL_law_1054 ?_
  refine VL.invV (bc := bc) (bs := bs) (bc' := 0) (bs' := 0) (st := []) (av := []) hX lk_L_129 dL_law_1055 (by decide) (Nat.le_of_ble_eq_true rfl) rfl rfl (show _ < 78 + 3 * _ by omega) (fun r μ1 hp => ?_)
  obtain ⟨x, dc1, I1, L1, rfl, rfl, hM⟩ := hT r μ1 hp
  show VL (ZS G b N xs) G (yLn nm) cL_law 4 (some .boolean) 20 bc bs 1058 [.float 1, .ref 0, .ref 39, .int (nI i)] [.int x] (Mm dc1 I1 L1) Post
  refine w_ald2 dL_law_1058 ?_
  refine VL.invV (bc := bc) (bs := bs) (bc' := 0) (bs' := 0) (st := [.int x]) (av := []) hM lk_L_132 dL_law_1059 (by decide) (Nat.le_of_ble_eq_true rfl) rfl rfl (show _ < 78 + 3 * _ by omega) (fun r μ2 hp2 => ?_)
  obtain ⟨rfl, dc2, I2, L2, rfl, hI2⟩ := hp2
  show VL (ZS G b N xs) G (yLn nm) cL_law 4 (some .boolean) 20 bc bs 1062 [.float 1, .ref 0, .ref 39, .int (nI i)] [.int x, .int x] (Mm dc2 I2 L2) Post
  exact w_icmp_eq (tgt := 1195) dL_law_1062 (by decide) (fun _ => hk dc2 I2 L2 hI2) (fun z => absurd rfl z)
set_option maxRecDepth 4000 in
theorem lc_27 {nm : String} {G : GG} {b N : Nat} {xs : Nat → Int32} {dc : Nat} {I : Nat → Nat → Int32} {L : Nat → Nat → Int64} {bc bs i : Nat} {Post : Option Value → Mem → Prop} (hgx : gx G 1 = .ref b) (hN : N < 2 ^ 31) (hi : i + 6 ≤ N) (h : Inv dc I L) (hk : ∀ dc I L, Inv dc I L → VL (ZS G b N xs) G (yLn nm) cL_law 4 (some .boolean) 20 bc bs 1195 [.float 1, .ref 0, .ref 39, .int (nI i)] [] (Mm dc I L) Post) : VL (ZS G b N xs) G (yLn nm) cL_law 4 (some .boolean) 20 (bc + 3) (bs + 38) 1067 [.float 1, .ref 0, .ref 39, .int (nI i)] [] (Mm dc I L) Post := by
  obtain ⟨PX, hX, hT⟩ := op_table (G := G) h 
  refine VL.mono (Nat.le_refl _) (Nat.le_add_right bc 3) (Nat.le_add_right bs 38) (fun _ _ z => z) ?_
  refine w_ald1 dL_law_1067 ?_
  refine VL.invV (bc := bc) (bs := bs) (bc' := 0) (bs' := 0) (st := []) (av := []) hX lk_L_133 dL_law_1068 (by decide) (Nat.le_of_ble_eq_true rfl) rfl rfl (show _ < 78 + 3 * _ by omega) (fun r μ1 hp => ?_)
  obtain ⟨x, dc1, I1, L1, rfl, rfl, hM⟩ := hT r μ1 hp
  show VL (ZS G b N xs) G (yLn nm) cL_law 4 (some .boolean) 20 bc bs 1071 [.float 1, .ref 0, .ref 39, .int (nI i)] [.int x] (Mm dc1 I1 L1) Post
  refine w_ald2 dL_law_1071 ?_
  refine VL.invV (bc := bc) (bs := bs) (bc' := 0) (bs' := 0) (st := [.int x]) (av := []) hM lk_L_136 dL_law_1072 (by decide) (Nat.le_of_ble_eq_true rfl) rfl rfl (show _ < 78 + 3 * _ by omega) (fun r μ2 hp2 => ?_)
  obtain ⟨rfl, dc2, I2, L2, rfl, hI2⟩ := hp2
  show VL (ZS G b N xs) G (yLn nm) cL_law 4 (some .boolean) 20 bc bs 1075 [.float 1, .ref 0, .ref 39, .int (nI i)] [.int x, .int x] (Mm dc2 I2 L2) Post
  exact w_icmp_eq (tgt := 1195) dL_law_1075 (by decide) (fun _ => hk dc2 I2 L2 hI2) (fun z => absurd rfl z)
set_option maxRecDepth 4000 in
theorem lc_28 {nm : String} {G : GG} {b N : Nat} {xs : Nat → Int32} {dc : Nat} {I : Nat → Nat → Int32} {L : Nat → Nat → Int64} {bc bs i : Nat} {Post : Option Value → Mem → Prop} (hgx : gx G 1 = .ref b) (hN : N < 2 ^ 31) (hi : i + 6 ≤ N) (h : Inv dc I L) (hk : ∀ dc I L, Inv dc I L → VL (ZS G b N xs) G (yLn nm) cL_law 4 (some .boolean) 20 bc bs 1195 [.float 1, .ref 0, .ref 39, .int (nI i)] [] (Mm dc I L) Post) : VL (ZS G b N xs) G (yLn nm) cL_law 4 (some .boolean) 20 (bc + 3) (bs + 38) 1080 [.float 1, .ref 0, .ref 39, .int (nI i)] [] (Mm dc I L) Post := by
  obtain ⟨PX, hX, hT⟩ := op_told (G := G) h (xs (i + 1)) (xs (i + 2))
  refine VL.mono (Nat.le_refl _) (Nat.le_add_right bc 3) (Nat.le_add_right bs 38) (fun _ _ z => z) ?_
  refine w_ald1 dL_law_1080 ?_
  refine w_ald0 hgx dL_law_1081 ?_
  refine w_ild3 dL_law_1082 ?_
  refine w_icN (n := 1) dL_law_1083 (by decide) ?_
  refine w_iadd dL_law_1084 ?_
  refine w_sld (j := i + 1) dL_law_1085 (nI_add i 1) (by omega) hN ?_
  refine w_ald0 hgx dL_law_1086 ?_
  refine w_ild3 dL_law_1087 ?_
  refine w_icN (n := 2) dL_law_1088 (by decide) ?_
  refine w_iadd dL_law_1089 ?_
  refine w_sld (j := i + 2) dL_law_1090 (nI_add i 2) (by omega) hN ?_
  refine VL.invV (bc := bc) (bs := bs) (bc' := 0) (bs' := 0) (st := []) (av := [.int (xs (i + 1)), .int (xs (i + 2))]) hX lk_L_137 dL_law_1091 (by decide) (Nat.le_of_ble_eq_true rfl) rfl rfl (show _ < 78 + 3 * _ by omega) (fun r μ1 hp => ?_)
  obtain ⟨x, dc1, I1, L1, rfl, rfl, hM⟩ := hT r μ1 hp
  show VL (ZS G b N xs) G (yLn nm) cL_law 4 (some .boolean) 20 bc bs 1094 [.float 1, .ref 0, .ref 39, .int (nI i)] [.int x] (Mm dc1 I1 L1) Post
  refine w_ald2 dL_law_1094 ?_
  refine w_ald0 hgx dL_law_1095 ?_
  refine w_ild3 dL_law_1096 ?_
  refine w_icN (n := 1) dL_law_1097 (by decide) ?_
  refine w_iadd dL_law_1098 ?_
  refine w_sld (j := i + 1) dL_law_1099 (nI_add i 1) (by omega) hN ?_
  refine w_ald0 hgx dL_law_1100 ?_
  refine w_ild3 dL_law_1101 ?_
  refine w_icN (n := 2) dL_law_1102 (by decide) ?_
  refine w_iadd dL_law_1103 ?_
  refine w_sld (j := i + 2) dL_law_1104 (nI_add i 2) (by omega) hN ?_
  refine VL.invV (bc := bc) (bs := bs) (bc' := 0) (bs' := 0) (st := [.int x]) (av := [.int (xs (i + 1)), .int (xs (i + 2))]) hM lk_L_140 dL_law_1105 (by decide) (Nat.le_of_ble_eq_true rfl) rfl rfl (show _ < 78 + 3 * _ by omega) (fun r μ2 hp2 => ?_)
  obtain ⟨rfl, dc2, I2, L2, rfl, hI2⟩ := hp2
  show VL (ZS G b N xs) G (yLn nm) cL_law 4 (some .boolean) 20 bc bs 1108 [.float 1, .ref 0, .ref 39, .int (nI i)] [.int x, .int x] (Mm dc2 I2 L2) Post
  exact w_icmp_eq (tgt := 1195) dL_law_1108 (by decide) (fun _ => hk dc2 I2 L2 hI2) (fun z => absurd rfl z)
set_option maxRecDepth 4000 in
theorem lc_29 {nm : String} {G : GG} {b N : Nat} {xs : Nat → Int32} {dc : Nat} {I : Nat → Nat → Int32} {L : Nat → Nat → Int64} {bc bs i : Nat} {Post : Option Value → Mem → Prop} (hgx : gx G 1 = .ref b) (hN : N < 2 ^ 31) (hi : i + 6 ≤ N) (h : Inv dc I L) (hk : ∀ dc I L, Inv dc I L → VL (ZS G b N xs) G (yLn nm) cL_law 4 (some .boolean) 20 bc bs 1195 [.float 1, .ref 0, .ref 39, .int (nI i)] [] (Mm dc I L) Post) : VL (ZS G b N xs) G (yLn nm) cL_law 4 (some .boolean) 20 (bc + 3) (bs + 38) 1113 [.float 1, .ref 0, .ref 39, .int (nI i)] [] (Mm dc I L) Post := by
  obtain ⟨PX, hX, hT⟩ := op_could (G := G) h (xs (i + 1)) (xs (i + 2)) (bI (¬ (xs (i + 3)) = 0))
  refine VL.mono (Nat.le_refl _) (Nat.le_add_right bc 3) (Nat.le_add_right bs 38) (fun _ _ z => z) ?_
  refine w_ald1 dL_law_1113 ?_
  refine w_ald0 hgx dL_law_1114 ?_
  refine w_ild3 dL_law_1115 ?_
  refine w_icN (n := 1) dL_law_1116 (by decide) ?_
  refine w_iadd dL_law_1117 ?_
  refine w_sld (j := i + 1) dL_law_1118 (nI_add i 1) (by omega) hN ?_
  refine w_ald0 hgx dL_law_1119 ?_
  refine w_ild3 dL_law_1120 ?_
  refine w_icN (n := 2) dL_law_1121 (by decide) ?_
  refine w_iadd dL_law_1122 ?_
  refine w_sld (j := i + 2) dL_law_1123 (nI_add i 2) (by omega) hN ?_
  refine w_ald0 hgx dL_law_1124 ?_
  refine w_ild3 dL_law_1125 ?_
  refine w_icN (n := 3) dL_law_1126 (by decide) ?_
  refine w_iadd dL_law_1127 ?_
  refine w_sld (j := i + 3) dL_law_1128 (nI_add i 3) (by omega) hN ?_
  refine w_ne0 (q1 := 1136) (q2 := 1137) dL_law_1129 (by decide) dL_law_1132 dL_law_1133 (by decide) dL_law_1136 rfl ?_
  refine VL.invV (bc := bc) (bs := bs) (bc' := 0) (bs' := 0) (st := []) (av := [.int (xs (i + 1)), .int (xs (i + 2)), .int (bI (¬ (xs (i + 3)) = 0))]) hX lk_L_141 dL_law_1137 (by decide) (Nat.le_of_ble_eq_true rfl) rfl rfl (show _ < 78 + 3 * _ by omega) (fun r μ1 hp => ?_)
  obtain ⟨x, dc1, I1, L1, rfl, rfl, hM⟩ := hT r μ1 hp
  show VL (ZS G b N xs) G (yLn nm) cL_law 4 (some .boolean) 20 bc bs 1140 [.float 1, .ref 0, .ref 39, .int (nI i)] [.int x] (Mm dc1 I1 L1) Post
  refine w_ald2 dL_law_1140 ?_
  refine w_ald0 hgx dL_law_1141 ?_
  refine w_ild3 dL_law_1142 ?_
  refine w_icN (n := 1) dL_law_1143 (by decide) ?_
  refine w_iadd dL_law_1144 ?_
  refine w_sld (j := i + 1) dL_law_1145 (nI_add i 1) (by omega) hN ?_
  refine w_ald0 hgx dL_law_1146 ?_
  refine w_ild3 dL_law_1147 ?_
  refine w_icN (n := 2) dL_law_1148 (by decide) ?_
  refine w_iadd dL_law_1149 ?_
  refine w_sld (j := i + 2) dL_law_1150 (nI_add i 2) (by omega) hN ?_
  refine w_ald0 hgx dL_law_1151 ?_
  refine w_ild3 dL_law_1152 ?_
  refine w_icN (n := 3) dL_law_1153 (by decide) ?_
  refine w_iadd dL_law_1154 ?_
  refine w_sld (j := i + 3) dL_law_1155 (nI_add i 3) (by omega) hN ?_
  refine w_ne0 (q1 := 1163) (q2 := 1164) dL_law_1156 (by decide) dL_law_1159 dL_law_1160 (by decide) dL_law_1163 rfl ?_
  refine VL.invV (bc := bc) (bs := bs) (bc' := 0) (bs' := 0) (st := [.int x]) (av := [.int (xs (i + 1)), .int (xs (i + 2)), .int (bI (¬ (xs (i + 3)) = 0))]) hM lk_L_144 dL_law_1164 (by decide) (Nat.le_of_ble_eq_true rfl) rfl rfl (show _ < 78 + 3 * _ by omega) (fun r μ2 hp2 => ?_)
  obtain ⟨rfl, dc2, I2, L2, rfl, hI2⟩ := hp2
  show VL (ZS G b N xs) G (yLn nm) cL_law 4 (some .boolean) 20 bc bs 1167 [.float 1, .ref 0, .ref 39, .int (nI i)] [.int x, .int x] (Mm dc2 I2 L2) Post
  exact w_icmp_eq (tgt := 1195) dL_law_1167 (by decide) (fun _ => hk dc2 I2 L2 hI2) (fun z => absurd rfl z)
set_option maxRecDepth 4000 in
theorem lc_30 {nm : String} {G : GG} {b N : Nat} {xs : Nat → Int32} {dc : Nat} {I : Nat → Nat → Int32} {L : Nat → Nat → Int64} {bc bs i : Nat} {Post : Option Value → Mem → Prop} (hgx : gx G 1 = .ref b) (hN : N < 2 ^ 31) (hi : i + 6 ≤ N) (h : Inv dc I L) (hk : ∀ dc I L, Inv dc I L → VL (ZS G b N xs) G (yLn nm) cL_law 4 (some .boolean) 20 bc bs 1195 [.float 1, .ref 0, .ref 39, .int (nI i)] [] (Mm dc I L) Post) : VL (ZS G b N xs) G (yLn nm) cL_law 4 (some .boolean) 20 (bc + 3) (bs + 38) 1172 [.float 1, .ref 0, .ref 39, .int (nI i)] [] (Mm dc I L) Post := by
  obtain ⟨PX, hX, hT⟩ := op_status (G := G) h (xs (i + 1))
  refine VL.mono (Nat.le_refl _) (Nat.le_add_right bc 3) (Nat.le_add_right bs 38) (fun _ _ z => z) ?_
  refine w_ald1 dL_law_1172 ?_
  refine w_ald0 hgx dL_law_1173 ?_
  refine w_ild3 dL_law_1174 ?_
  refine w_icN (n := 1) dL_law_1175 (by decide) ?_
  refine w_iadd dL_law_1176 ?_
  refine w_sld (j := i + 1) dL_law_1177 (nI_add i 1) (by omega) hN ?_
  refine VL.invV (bc := bc) (bs := bs) (bc' := 0) (bs' := 0) (st := []) (av := [.int (xs (i + 1))]) hX lk_L_145 dL_law_1178 (by decide) (Nat.le_of_ble_eq_true rfl) rfl rfl (show _ < 78 + 3 * _ by omega) (fun r μ1 hp => ?_)
  obtain ⟨x, dc1, I1, L1, rfl, rfl, hM⟩ := hT r μ1 hp
  show VL (ZS G b N xs) G (yLn nm) cL_law 4 (some .boolean) 20 bc bs 1181 [.float 1, .ref 0, .ref 39, .int (nI i)] [.int x] (Mm dc1 I1 L1) Post
  refine w_ald2 dL_law_1181 ?_
  refine w_ald0 hgx dL_law_1182 ?_
  refine w_ild3 dL_law_1183 ?_
  refine w_icN (n := 1) dL_law_1184 (by decide) ?_
  refine w_iadd dL_law_1185 ?_
  refine w_sld (j := i + 1) dL_law_1186 (nI_add i 1) (by omega) hN ?_
  refine VL.invV (bc := bc) (bs := bs) (bc' := 0) (bs' := 0) (st := [.int x]) (av := [.int (xs (i + 1))]) hM lk_L_148 dL_law_1187 (by decide) (Nat.le_of_ble_eq_true rfl) rfl rfl (show _ < 78 + 3 * _ by omega) (fun r μ2 hp2 => ?_)
  obtain ⟨rfl, dc2, I2, L2, rfl, hI2⟩ := hp2
  show VL (ZS G b N xs) G (yLn nm) cL_law 4 (some .boolean) 20 bc bs 1190 [.float 1, .ref 0, .ref 39, .int (nI i)] [.int x, .int x] (Mm dc2 I2 L2) Post
  exact w_icmp_eq (tgt := 1195) dL_law_1190 (by decide) (fun _ => hk dc2 I2 L2 hI2) (fun z => absurd rfl z)
theorem law_cmp {N i : Nat} (hN : N ≤ 3072) (hi : i ≤ 4000) : nI N - nI 6 < nI i ↔ N < i + 6 := by
  by_cases h6 : N < 6
  · have e : ∀ N, N < 6 → nI N - nI 6 < 0 := by decide
    have h1 := Int32.lt_iff_toInt_lt.mp (e N h6)
    have h2 := nI_toInt (n := i) (by omega)
    rw [Int32.lt_iff_toInt_lt, h2]
    have h3 : (0 : Int32).toInt = 0 := by decide
    rw [h3] at h1
    exact ⟨fun _ => by omega, fun _ => by omega⟩
  · have e : nI N - nI 6 = nI (N - 6) := by
      have h1 : nI N = nI (N - 6) + nI 6 := by rw [nI_add, show N - 6 + 6 = N by omega]
      rw [h1, Int32.add_sub_cancel]
    rw [e, nI_ltI (by omega) (by omega)]
    omega
set_option maxRecDepth 4000 in
theorem law_loop {nm : String} {G : GG} {b N : Nat} {xs : Nat → Int32} (hgx : gx G 1 = .ref b) (hN : N ≤ 3072) : ∀ (k i dc : Nat) (I : Nat → Nat → Int32) (L : Nat → Nat → Int64), N < i + 6 * k + 6 → i ≤ 3100 → Inv dc I L → VL (ZS G b N xs) G (yLn nm) cL_law 4 (some .boolean) 20 (3 * k) (38 * k) 18 [.float 1, .ref 0, .ref 39, .int (nI i)] [] (Mm dc I L) (fun r _ => r = some (.int (nI 1))) := by
  have exit : ∀ (bc bs i dc : Nat) (I : Nat → Nat → Int32) (L : Nat → Nat → Int64), VL (ZS G b N xs) G (yLn nm) cL_law 4 (some .boolean) 20 bc bs 1201 [.float 1, .ref 0, .ref 39, .int (nI i)] [] (Mm dc I L) (fun r _ => r = some (.int (nI 1))) := fun bc bs i dc I L => by
    refine w_icN (n := 1) dL_law_1201 (by decide) ?_
    exact w_retI dL_law_1202 (Or.inr rfl) rfl
  have head : ∀ (bc bs i dc : Nat) (I : Nat → Nat → Int32) (L : Nat → Nat → Int64), i ≤ 3100 → (i + 6 ≤ N → VL (ZS G b N xs) G (yLn nm) cL_law 4 (some .boolean) 20 bc bs 27 [.float 1, .ref 0, .ref 39, .int (nI i)] [] (Mm dc I L) (fun r _ => r = some (.int (nI 1)))) → VL (ZS G b N xs) G (yLn nm) cL_law 4 (some .boolean) 20 bc bs 18 [.float 1, .ref 0, .ref 39, .int (nI i)] [] (Mm dc I L) (fun r _ => r = some (.int (nI 1))) := fun bc bs i dc I L hi kk => by
    refine w_ild3 dL_law_18 ?_
    refine w_ald0 hgx dL_law_19 ?_
    refine w_slen dL_law_20 rfl ?_
    refine w_bipush (v := nI 6) dL_law_21 (by decide) ?_
    refine w_isub dL_law_23 ?_
    exact w_icmp_gt (tgt := 1201) dL_law_24 (by decide) (fun _ => exit bc bs i dc I L) (fun z => kk (by rw [law_cmp hN (by omega)] at z; omega))
  intro k
  induction k with
  | zero => intro i dc I L h1 h2 h; exact head _ _ i dc I L h2 (fun z => by omega)
  | succ k ih =>
    intro i dc I L h1 h2 h
    refine head _ _ i dc I L h2 (fun hi => ?_)
    have hk : ∀ dc I L, Inv dc I L → VL (ZS G b N xs) G (yLn nm) cL_law 4 (some .boolean) 20 (3 * k) (38 * k) 1195 [.float 1, .ref 0, .ref 39, .int (nI i)] [] (Mm dc I L) (fun r _ => r = some (.int (nI 1))) := fun dc I L h => by
      refine w_inc6 dL_law_1195 rfl ?_
      refine w_goto (tgt := 18) dL_law_1198 (by decide) ?_
      rw [nI_add]
      exact ih (i + 6) dc I L (by omega) (by omega) h
    have hN2 : N < 2 ^ 31 := by omega
    rw [show 3 * (k + 1) = 3 * k + 3 by omega, show 38 * (k + 1) = 38 * k + 38 by omega]
    refine w_ald0 hgx dL_law_27 ?_
    refine w_ild3 dL_law_28 ?_
    refine w_sld (j := i) dL_law_29 rfl (by omega) hN2 ?_
    refine w_bipush (v := nI 31) dL_law_30 (by decide) ?_
    refine w_iand dL_law_32 ?_
    refine w_tab (tgt := 1195) [172, 215, 248, 291, 364, 427, 461, 494, 517, 540, 563, 576, 609, 632, 665, 698, 751, 764, 787, 820, 853, 912, 935, 958, 981, 1014, 1054, 1067, 1080, 1113, 1172] dL_law_33 (by decide) (by decide) (by decide) (fun j t hj ht _ => ?_) (fun _ => VL.mono (Nat.le_refl _) (Nat.le_add_right _ 3) (Nat.le_add_right _ 38) (fun _ _ z => z) (hk dc I L h))
    match j, hj, ht with
    | 0, _, ht => cases ht; exact lc_0 hgx hN2 hi h hk
    | 1, _, ht => cases ht; exact lc_1 hgx hN2 hi h hk
    | 2, _, ht => cases ht; exact lc_2 hgx hN2 hi h hk
    | 3, _, ht => cases ht; exact lc_3 hgx hN2 hi h hk
    | 4, _, ht => cases ht; exact lc_4 hgx hN2 hi h hk
    | 5, _, ht => cases ht; exact lc_5 hgx hN2 hi h hk
    | 6, _, ht => cases ht; exact lc_6 hgx hN2 hi h hk
    | 7, _, ht => cases ht; exact lc_7 hgx hN2 hi h hk
    | 8, _, ht => cases ht; exact lc_8 hgx hN2 hi h hk
    | 9, _, ht => cases ht; exact lc_9 hgx hN2 hi h hk
    | 10, _, ht => cases ht; exact lc_10 hgx hN2 hi h hk
    | 11, _, ht => cases ht; exact lc_11 hgx hN2 hi h hk
    | 12, _, ht => cases ht; exact lc_12 hgx hN2 hi h hk
    | 13, _, ht => cases ht; exact lc_13 hgx hN2 hi h hk
    | 14, _, ht => cases ht; exact lc_14 hgx hN2 hi h hk
    | 15, _, ht => cases ht; exact lc_15 hgx hN2 hi h hk
    | 16, _, ht => cases ht; exact lc_16 hgx hN2 hi h hk
    | 17, _, ht => cases ht; exact lc_17 hgx hN2 hi h hk
    | 18, _, ht => cases ht; exact lc_18 hgx hN2 hi h hk
    | 19, _, ht => cases ht; exact lc_19 hgx hN2 hi h hk
    | 20, _, ht => cases ht; exact lc_20 hgx hN2 hi h hk
    | 21, _, ht => cases ht; exact lc_21 hgx hN2 hi h hk
    | 22, _, ht => cases ht; exact lc_22 hgx hN2 hi h hk
    | 23, _, ht => cases ht; exact lc_23 hgx hN2 hi h hk
    | 24, _, ht => cases ht; exact lc_24 hgx hN2 hi h hk
    | 25, _, ht => cases ht; exact lc_25 hgx hN2 hi h hk
    | 26, _, ht => cases ht; exact lc_26 hgx hN2 hi h hk
    | 27, _, ht => cases ht; exact lc_27 hgx hN2 hi h hk
    | 28, _, ht => cases ht; exact lc_28 hgx hN2 hi h hk
    | 29, _, ht => cases ht; exact lc_29 hgx hN2 hi h hk
    | 30, _, ht => cases ht; exact lc_30 hgx hN2 hi h hk
    | j + 31, hj, _ => exact absurd hj (Nat.not_lt.mpr (Nat.le_add_left 31 j))
