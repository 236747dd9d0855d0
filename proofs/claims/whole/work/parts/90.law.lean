/-! ===== the law ===== -/
theorem nI_addE (a b : Nat) : nI a + nI b = nI (a + b) := (Int32.ofNat_add a b).symm
theorem x_ix {k J : Nat} {G : ev_G} (hL : ev_L G < 2 ^ 31) (h : 6 * k + J < ev_L G) : ev_ix (nI (6 * k) + nI J) (6 * k + J) := by rw [nI_addE]; exact ev_ix_nI (by omega)
theorem x_ix1 {k : Nat} {G : ev_G} (hL : ev_L G < 2 ^ 31) (h : 6 * k + 1 < ev_L G) : ev_ix (nI (6 * k) + 1) (6 * k + 1) := x_ix hL h
theorem x_ix2 {k : Nat} {G : ev_G} (hL : ev_L G < 2 ^ 31) (h : 6 * k + 2 < ev_L G) : ev_ix (nI (6 * k) + 2) (6 * k + 2) := x_ix hL h
theorem x_ix3 {k : Nat} {G : ev_G} (hL : ev_L G < 2 ^ 31) (h : 6 * k + 3 < ev_L G) : ev_ix (nI (6 * k) + 3) (6 * k + 3) := x_ix hL h
theorem x_ix4 {k : Nat} {G : ev_G} (hL : ev_L G < 2 ^ 31) (h : 6 * k + 4 < ev_L G) : ev_ix (nI (6 * k) + 4) (6 * k + 4) := x_ix hL h
theorem x_ix5 {k : Nat} {G : ev_G} (hL : ev_L G < 2 ^ 31) (h : 6 * k + 5 < ev_L G) : ev_ix (nI (6 * k) + 5) (6 * k + 5) := x_ix hL h
theorem xl_type {G : ev_G} {n : Nat} {M : ev_M} {Post : Option Value → ev_M → Prop} {k : Nat} (hx : x_ok mX11_type mX12_type 2 2 [.long ((ev_xs G (6 * k + 1)).toInt64 <<< 32 ||| (ev_xs G (6 * k + 2)).toInt64 &&& 4294967295), .int (ev_xs G (6 * k + 3))]) (hsio : ev_hs G) (hi : x_inv M) (hk : 6 * k + 5 < ev_L G) (hL : ev_L G < 2 ^ 31)
    (K : ∀ M' : ev_M, x_inv M' → ev_E G mL_law 10 0 0 n M' 1213 [some (.ref 0), some (.ref 21), some (.ref 129), some (.int (nI (6 * k)))] [] Post) : ev_E G mL_law 10 0 0 n M 176 [some (.ref 0), some (.ref 21), some (.ref 129), some (.int (nI (6 * k)))] [] Post := by
  obtain ⟨fs0, h20⟩ := x_inv_20 hi
  refine ev_aload_n (i := 1) dL_law_176 rfl rfl ?_
  refine ev_aload_n (i := 0) dL_law_177 rfl rfl ?_
  refine ev_iload_n (i := 3) dL_law_178 rfl rfl ?_
  refine ev_iconst (v := 1) dL_law_179 cni_1 ?_
  refine ev_iadd dL_law_180 ?_
  refine ev_iaX (j := 6 * k + 1) dL_law_181 (x_ix1 hL (by omega)) (by omega) ?_
  refine ev_i2l dL_law_182 ?_
  refine ev_bipush (v := 32) dL_law_183 cnb_32 ?_
  refine ev_lshl dL_law_185 ?_
  refine ev_aload_n (i := 0) dL_law_186 rfl rfl ?_
  refine ev_iload_n (i := 3) dL_law_187 rfl rfl ?_
  refine ev_iconst (v := 2) dL_law_188 cni_2 ?_
  refine ev_iadd dL_law_189 ?_
  refine ev_iaX (j := 6 * k + 2) dL_law_190 (x_ix2 hL (by omega)) (by omega) ?_
  refine ev_i2l dL_law_191 ?_
  refine ev_ldc2 dL_law_192 coL_13 ?_
  refine ev_land dL_law_195 ?_
  refine ev_lor dL_law_196 ?_
  refine ev_aload_n (i := 0) dL_law_197 rfl rfl ?_
  refine ev_iload_n (i := 3) dL_law_198 rfl rfl ?_
  refine ev_iconst (v := 3) dL_law_199 cni_3 ?_
  refine ev_iadd dL_law_200 ?_
  refine ev_iaX (j := 6 * k + 3) dL_law_201 (x_ix3 hL (by omega)) (by omega) ?_
  refine ev_d3 kL_law_202 (hx G n M hsio hi) (ev_rv_of h20 rfl rfl) (by decide) (by decide) (Nat.le_of_ble_eq_true rfl) ?_
  rintro r M1 ⟨v, rfl, ⟨fs1, h129⟩, hm⟩
  refine ev_aload_n (i := 2) dL_law_205 rfl rfl ?_
  refine ev_aload_n (i := 0) dL_law_206 rfl rfl ?_
  refine ev_iload_n (i := 3) dL_law_207 rfl rfl ?_
  refine ev_iconst (v := 1) dL_law_208 cni_1 ?_
  refine ev_iadd dL_law_209 ?_
  refine ev_iaX (j := 6 * k + 1) dL_law_210 (x_ix1 hL (by omega)) (by omega) ?_
  refine ev_i2l dL_law_211 ?_
  refine ev_bipush (v := 32) dL_law_212 cnb_32 ?_
  refine ev_lshl dL_law_214 ?_
  refine ev_aload_n (i := 0) dL_law_215 rfl rfl ?_
  refine ev_iload_n (i := 3) dL_law_216 rfl rfl ?_
  refine ev_iconst (v := 2) dL_law_217 cni_2 ?_
  refine ev_iadd dL_law_218 ?_
  refine ev_iaX (j := 6 * k + 2) dL_law_219 (x_ix2 hL (by omega)) (by omega) ?_
  refine ev_i2l dL_law_220 ?_
  refine ev_ldc2 dL_law_221 coL_13 ?_
  refine ev_land dL_law_224 ?_
  refine ev_lor dL_law_225 ?_
  refine ev_aload_n (i := 0) dL_law_226 rfl rfl ?_
  refine ev_iload_n (i := 3) dL_law_227 rfl rfl ?_
  refine ev_iconst (v := 3) dL_law_228 cni_3 ?_
  refine ev_iadd dL_law_229 ?_
  refine ev_iaX (j := 6 * k + 3) dL_law_230 (x_ix3 hL (by omega)) (by omega) ?_
  refine ev_d3 kL_law_231 (hm) (ev_rv_of h129 rfl rfl) (by decide) (by decide) (Nat.le_of_ble_eq_true rfl) ?_
  rintro r2 M2 ⟨rfl, hi2⟩
  refine ev_icmp_eq (tgt := 1213) dL_law_234 (by decide) (fun h234 => ?_) (fun h234 => False.elim (h234 rfl))
  exact K _ hi2
theorem xl_clear {G : ev_G} {n : Nat} {M : ev_M} {Post : Option Value → ev_M → Prop} {k : Nat} (hx : x_ok mX11_clear mX12_clear 2 1 []) (hsio : ev_hs G) (hi : x_inv M) (hk : 6 * k + 5 < ev_L G) (hL : ev_L G < 2 ^ 31)
    (K : ∀ M' : ev_M, x_inv M' → ev_E G mL_law 10 0 0 n M' 1213 [some (.ref 0), some (.ref 21), some (.ref 129), some (.int (nI (6 * k)))] [] Post) : ev_E G mL_law 10 0 0 n M 239 [some (.ref 0), some (.ref 21), some (.ref 129), some (.int (nI (6 * k)))] [] Post := by
  obtain ⟨fs0, h20⟩ := x_inv_20 hi
  refine ev_aload_n (i := 1) dL_law_239 rfl rfl ?_
  refine ev_d1 kL_law_240 (hx G n M hsio hi) (ev_rv_of h20 rfl rfl) (by decide) (by decide) (Nat.le_of_ble_eq_true rfl) ?_
  rintro r M1 ⟨v, rfl, ⟨fs1, h129⟩, hm⟩
  refine ev_aload_n (i := 2) dL_law_243 rfl rfl ?_
  refine ev_d1 kL_law_244 (hm) (ev_rv_of h129 rfl rfl) (by decide) (by decide) (Nat.le_of_ble_eq_true rfl) ?_
  rintro r2 M2 ⟨rfl, hi2⟩
  refine ev_icmp_eq (tgt := 1213) dL_law_247 (by decide) (fun h247 => ?_) (fun h247 => False.elim (h247 rfl))
  exact K _ hi2
theorem xl_arrows {G : ev_G} {n : Nat} {M : ev_M} {Post : Option Value → ev_M → Prop} {k : Nat} (hx : x_ok mX11_arrows mX12_arrows 9 8 []) (hsio : ev_hs G) (hi : x_inv M) (hk : 6 * k + 5 < ev_L G) (hL : ev_L G < 2 ^ 31)
    (K : ∀ M' : ev_M, x_inv M' → ev_E G mL_law 10 0 0 n M' 1213 [some (.ref 0), some (.ref 21), some (.ref 129), some (.int (nI (6 * k)))] [] Post) : ev_E G mL_law 10 0 0 n M 252 [some (.ref 0), some (.ref 21), some (.ref 129), some (.int (nI (6 * k)))] [] Post := by
  obtain ⟨fs0, h20⟩ := x_inv_20 hi
  refine ev_aload_n (i := 1) dL_law_252 rfl rfl ?_
  refine ev_d1 kL_law_253 (hx G n M hsio hi) (ev_rv_of h20 rfl rfl) (by decide) (by decide) (Nat.le_of_ble_eq_true rfl) ?_
  rintro r M1 ⟨v, rfl, ⟨fs1, h129⟩, hm⟩
  refine ev_aload_n (i := 2) dL_law_256 rfl rfl ?_
  refine ev_d1 kL_law_257 (hm) (ev_rv_of h129 rfl rfl) (by decide) (by decide) (Nat.le_of_ble_eq_true rfl) ?_
  rintro r2 M2 ⟨rfl, hi2⟩
  refine ev_icmp_eq (tgt := 1213) dL_law_260 (by decide) (fun h260 => ?_) (fun h260 => False.elim (h260 rfl))
  exact K _ hi2
theorem xl_stick {G : ev_G} {n : Nat} {M : ev_M} {Post : Option Value → ev_M → Prop} {k : Nat} (hx : x_ok mX11_stick mX12_stick 2 3 [.int (ev_xs G (6 * k + 1)), .int (ev_xs G (6 * k + 2))]) (hsio : ev_hs G) (hi : x_inv M) (hk : 6 * k + 5 < ev_L G) (hL : ev_L G < 2 ^ 31)
    (K : ∀ M' : ev_M, x_inv M' → ev_E G mL_law 10 0 0 n M' 1213 [some (.ref 0), some (.ref 21), some (.ref 129), some (.int (nI (6 * k)))] [] Post) : ev_E G mL_law 10 0 0 n M 265 [some (.ref 0), some (.ref 21), some (.ref 129), some (.int (nI (6 * k)))] [] Post := by
  obtain ⟨fs0, h20⟩ := x_inv_20 hi
  refine ev_aload_n (i := 1) dL_law_265 rfl rfl ?_
  refine ev_aload_n (i := 0) dL_law_266 rfl rfl ?_
  refine ev_iload_n (i := 3) dL_law_267 rfl rfl ?_
  refine ev_iconst (v := 1) dL_law_268 cni_1 ?_
  refine ev_iadd dL_law_269 ?_
  refine ev_iaX (j := 6 * k + 1) dL_law_270 (x_ix1 hL (by omega)) (by omega) ?_
  refine ev_aload_n (i := 0) dL_law_271 rfl rfl ?_
  refine ev_iload_n (i := 3) dL_law_272 rfl rfl ?_
  refine ev_iconst (v := 2) dL_law_273 cni_2 ?_
  refine ev_iadd dL_law_274 ?_
  refine ev_iaX (j := 6 * k + 2) dL_law_275 (x_ix2 hL (by omega)) (by omega) ?_
  refine ev_d3 kL_law_276 (hx G n M hsio hi) (ev_rv_of h20 rfl rfl) (by decide) (by decide) (Nat.le_of_ble_eq_true rfl) ?_
  rintro r M1 ⟨v, rfl, ⟨fs1, h129⟩, hm⟩
  refine ev_aload_n (i := 2) dL_law_279 rfl rfl ?_
  refine ev_aload_n (i := 0) dL_law_280 rfl rfl ?_
  refine ev_iload_n (i := 3) dL_law_281 rfl rfl ?_
  refine ev_iconst (v := 1) dL_law_282 cni_1 ?_
  refine ev_iadd dL_law_283 ?_
  refine ev_iaX (j := 6 * k + 1) dL_law_284 (x_ix1 hL (by omega)) (by omega) ?_
  refine ev_aload_n (i := 0) dL_law_285 rfl rfl ?_
  refine ev_iload_n (i := 3) dL_law_286 rfl rfl ?_
  refine ev_iconst (v := 2) dL_law_287 cni_2 ?_
  refine ev_iadd dL_law_288 ?_
  refine ev_iaX (j := 6 * k + 2) dL_law_289 (x_ix2 hL (by omega)) (by omega) ?_
  refine ev_d3 kL_law_290 (hm) (ev_rv_of h129 rfl rfl) (by decide) (by decide) (Nat.le_of_ble_eq_true rfl) ?_
  rintro r2 M2 ⟨rfl, hi2⟩
  refine ev_icmp_eq (tgt := 1213) dL_law_293 (by decide) (fun h293 => ?_) (fun h293 => False.elim (h293 rfl))
  exact K _ hi2
theorem xl_bow {G : ev_G} {n : Nat} {M : ev_M} {Post : Option Value → ev_M → Prop} {k : Nat} (hx : x_ok mX11_bow mX12_bow 3 3 [.int (ev_xs G (6 * k + 1)), .int (ev_xs G (6 * k + 2))]) (hsio : ev_hs G) (hi : x_inv M) (hk : 6 * k + 5 < ev_L G) (hL : ev_L G < 2 ^ 31)
    (K : ∀ M' : ev_M, x_inv M' → ev_E G mL_law 10 0 0 n M' 1213 [some (.ref 0), some (.ref 21), some (.ref 129), some (.int (nI (6 * k)))] [] Post) : ev_E G mL_law 10 0 0 n M 298 [some (.ref 0), some (.ref 21), some (.ref 129), some (.int (nI (6 * k)))] [] Post := by
  obtain ⟨fs0, h20⟩ := x_inv_20 hi
  refine ev_aload_n (i := 1) dL_law_298 rfl rfl ?_
  refine ev_aload_n (i := 0) dL_law_299 rfl rfl ?_
  refine ev_iload_n (i := 3) dL_law_300 rfl rfl ?_
  refine ev_iconst (v := 1) dL_law_301 cni_1 ?_
  refine ev_iadd dL_law_302 ?_
  refine ev_iaX (j := 6 * k + 1) dL_law_303 (x_ix1 hL (by omega)) (by omega) ?_
  refine ev_aload_n (i := 0) dL_law_304 rfl rfl ?_
  refine ev_iload_n (i := 3) dL_law_305 rfl rfl ?_
  refine ev_iconst (v := 2) dL_law_306 cni_2 ?_
  refine ev_iadd dL_law_307 ?_
  refine ev_iaX (j := 6 * k + 2) dL_law_308 (x_ix2 hL (by omega)) (by omega) ?_
  refine ev_d3 kL_law_309 (hx G n M hsio hi) (ev_rv_of h20 rfl rfl) (by decide) (by decide) (Nat.le_of_ble_eq_true rfl) ?_
  rintro r M1 ⟨v, rfl, ⟨fs1, h129⟩, hm⟩
  refine ev_aload_n (i := 2) dL_law_312 rfl rfl ?_
  refine ev_aload_n (i := 0) dL_law_313 rfl rfl ?_
  refine ev_iload_n (i := 3) dL_law_314 rfl rfl ?_
  refine ev_iconst (v := 1) dL_law_315 cni_1 ?_
  refine ev_iadd dL_law_316 ?_
  refine ev_iaX (j := 6 * k + 1) dL_law_317 (x_ix1 hL (by omega)) (by omega) ?_
  refine ev_aload_n (i := 0) dL_law_318 rfl rfl ?_
  refine ev_iload_n (i := 3) dL_law_319 rfl rfl ?_
  refine ev_iconst (v := 2) dL_law_320 cni_2 ?_
  refine ev_iadd dL_law_321 ?_
  refine ev_iaX (j := 6 * k + 2) dL_law_322 (x_ix2 hL (by omega)) (by omega) ?_
  refine ev_d3 kL_law_323 (hm) (ev_rv_of h129 rfl rfl) (by decide) (by decide) (Nat.le_of_ble_eq_true rfl) ?_
  rintro r2 M2 ⟨rfl, hi2⟩
  refine ev_icmp_eq (tgt := 1213) dL_law_326 (by decide) (fun h326 => ?_) (fun h326 => False.elim (h326 rfl))
  exact K _ hi2
theorem xl_archer {G : ev_G} {n : Nat} {M : ev_M} {Post : Option Value → ev_M → Prop} {k : Nat} (hx : x_ok mX11_archer mX12_archer 2 2 [.int (ev_xs G (6 * k + 1)), .int (ev_xs G (6 * k + 2))]) (hsio : ev_hs G) (hi : x_inv M) (hk : 6 * k + 5 < ev_L G) (hL : ev_L G < 2 ^ 31)
    (K : ∀ M' : ev_M, x_inv M' → ev_E G mL_law 10 0 0 n M' 1213 [some (.ref 0), some (.ref 21), some (.ref 129), some (.int (nI (6 * k)))] [] Post) : ev_E G mL_law 10 0 0 n M 331 [some (.ref 0), some (.ref 21), some (.ref 129), some (.int (nI (6 * k)))] [] Post := by
  obtain ⟨fs0, h20⟩ := x_inv_20 hi
  refine ev_aload_n (i := 1) dL_law_331 rfl rfl ?_
  refine ev_aload_n (i := 0) dL_law_332 rfl rfl ?_
  refine ev_iload_n (i := 3) dL_law_333 rfl rfl ?_
  refine ev_iconst (v := 1) dL_law_334 cni_1 ?_
  refine ev_iadd dL_law_335 ?_
  refine ev_iaX (j := 6 * k + 1) dL_law_336 (x_ix1 hL (by omega)) (by omega) ?_
  refine ev_aload_n (i := 0) dL_law_337 rfl rfl ?_
  refine ev_iload_n (i := 3) dL_law_338 rfl rfl ?_
  refine ev_iconst (v := 2) dL_law_339 cni_2 ?_
  refine ev_iadd dL_law_340 ?_
  refine ev_iaX (j := 6 * k + 2) dL_law_341 (x_ix2 hL (by omega)) (by omega) ?_
  refine ev_d3 kL_law_342 (hx G n M hsio hi) (ev_rv_of h20 rfl rfl) (by decide) (by decide) (Nat.le_of_ble_eq_true rfl) ?_
  rintro r M1 ⟨v, rfl, ⟨fs1, h129⟩, hm⟩
  refine ev_aload_n (i := 2) dL_law_345 rfl rfl ?_
  refine ev_aload_n (i := 0) dL_law_346 rfl rfl ?_
  refine ev_iload_n (i := 3) dL_law_347 rfl rfl ?_
  refine ev_iconst (v := 1) dL_law_348 cni_1 ?_
  refine ev_iadd dL_law_349 ?_
  refine ev_iaX (j := 6 * k + 1) dL_law_350 (x_ix1 hL (by omega)) (by omega) ?_
  refine ev_aload_n (i := 0) dL_law_351 rfl rfl ?_
  refine ev_iload_n (i := 3) dL_law_352 rfl rfl ?_
  refine ev_iconst (v := 2) dL_law_353 cni_2 ?_
  refine ev_iadd dL_law_354 ?_
  refine ev_iaX (j := 6 * k + 2) dL_law_355 (x_ix2 hL (by omega)) (by omega) ?_
  refine ev_d3 kL_law_356 (hm) (ev_rv_of h129 rfl rfl) (by decide) (by decide) (Nat.le_of_ble_eq_true rfl) ?_
  rintro r2 M2 ⟨rfl, hi2⟩
  refine ev_icmp_eq (tgt := 1213) dL_law_359 (by decide) (fun h359 => ?_) (fun h359 => False.elim (h359 rfl))
  exact K _ hi2
theorem xl_tune {G : ev_G} {n : Nat} {M : ev_M} {Post : Option Value → ev_M → Prop} {k : Nat} (hx : x_ok mX11_tune mX12_tune 3 2 [.int (ev_xs G (6 * k + 1)), .int (ev_xs G (6 * k + 2))]) (hsio : ev_hs G) (hi : x_inv M) (hk : 6 * k + 5 < ev_L G) (hL : ev_L G < 2 ^ 31)
    (K : ∀ M' : ev_M, x_inv M' → ev_E G mL_law 10 0 0 n M' 1213 [some (.ref 0), some (.ref 21), some (.ref 129), some (.int (nI (6 * k)))] [] Post) : ev_E G mL_law 10 0 0 n M 364 [some (.ref 0), some (.ref 21), some (.ref 129), some (.int (nI (6 * k)))] [] Post := by
  obtain ⟨fs0, h20⟩ := x_inv_20 hi
  refine ev_aload_n (i := 1) dL_law_364 rfl rfl ?_
  refine ev_aload_n (i := 0) dL_law_365 rfl rfl ?_
  refine ev_iload_n (i := 3) dL_law_366 rfl rfl ?_
  refine ev_iconst (v := 1) dL_law_367 cni_1 ?_
  refine ev_iadd dL_law_368 ?_
  refine ev_iaX (j := 6 * k + 1) dL_law_369 (x_ix1 hL (by omega)) (by omega) ?_
  refine ev_aload_n (i := 0) dL_law_370 rfl rfl ?_
  refine ev_iload_n (i := 3) dL_law_371 rfl rfl ?_
  refine ev_iconst (v := 2) dL_law_372 cni_2 ?_
  refine ev_iadd dL_law_373 ?_
  refine ev_iaX (j := 6 * k + 2) dL_law_374 (x_ix2 hL (by omega)) (by omega) ?_
  refine ev_d3 kL_law_375 (hx G n M hsio hi) (ev_rv_of h20 rfl rfl) (by decide) (by decide) (Nat.le_of_ble_eq_true rfl) ?_
  rintro r M1 ⟨v, rfl, ⟨fs1, h129⟩, hm⟩
  refine ev_aload_n (i := 2) dL_law_378 rfl rfl ?_
  refine ev_aload_n (i := 0) dL_law_379 rfl rfl ?_
  refine ev_iload_n (i := 3) dL_law_380 rfl rfl ?_
  refine ev_iconst (v := 1) dL_law_381 cni_1 ?_
  refine ev_iadd dL_law_382 ?_
  refine ev_iaX (j := 6 * k + 1) dL_law_383 (x_ix1 hL (by omega)) (by omega) ?_
  refine ev_aload_n (i := 0) dL_law_384 rfl rfl ?_
  refine ev_iload_n (i := 3) dL_law_385 rfl rfl ?_
  refine ev_iconst (v := 2) dL_law_386 cni_2 ?_
  refine ev_iadd dL_law_387 ?_
  refine ev_iaX (j := 6 * k + 2) dL_law_388 (x_ix2 hL (by omega)) (by omega) ?_
  refine ev_d3 kL_law_389 (hm) (ev_rv_of h129 rfl rfl) (by decide) (by decide) (Nat.le_of_ble_eq_true rfl) ?_
  rintro r2 M2 ⟨rfl, hi2⟩
  refine ev_icmp_eq (tgt := 1213) dL_law_392 (by decide) (fun h392 => ?_) (fun h392 => False.elim (h392 rfl))
  exact K _ hi2
theorem xl_cut {G : ev_G} {n : Nat} {M : ev_M} {Post : Option Value → ev_M → Prop} {k : Nat} (hx : x_ok mX11_cut mX12_cut 2 3 [.int (ev_xs G (6 * k + 1))]) (hsio : ev_hs G) (hi : x_inv M) (hk : 6 * k + 5 < ev_L G) (hL : ev_L G < 2 ^ 31)
    (K : ∀ M' : ev_M, x_inv M' → ev_E G mL_law 10 0 0 n M' 1213 [some (.ref 0), some (.ref 21), some (.ref 129), some (.int (nI (6 * k)))] [] Post) : ev_E G mL_law 10 0 0 n M 397 [some (.ref 0), some (.ref 21), some (.ref 129), some (.int (nI (6 * k)))] [] Post := by
  obtain ⟨fs0, h20⟩ := x_inv_20 hi
  refine ev_aload_n (i := 1) dL_law_397 rfl rfl ?_
  refine ev_aload_n (i := 0) dL_law_398 rfl rfl ?_
  refine ev_iload_n (i := 3) dL_law_399 rfl rfl ?_
  refine ev_iconst (v := 1) dL_law_400 cni_1 ?_
  refine ev_iadd dL_law_401 ?_
  refine ev_iaX (j := 6 * k + 1) dL_law_402 (x_ix1 hL (by omega)) (by omega) ?_
  refine ev_d2 kL_law_403 (hx G n M hsio hi) (ev_rv_of h20 rfl rfl) (by decide) (by decide) (Nat.le_of_ble_eq_true rfl) ?_
  rintro r M1 ⟨v, rfl, ⟨fs1, h129⟩, hm⟩
  refine ev_aload_n (i := 2) dL_law_406 rfl rfl ?_
  refine ev_aload_n (i := 0) dL_law_407 rfl rfl ?_
  refine ev_iload_n (i := 3) dL_law_408 rfl rfl ?_
  refine ev_iconst (v := 1) dL_law_409 cni_1 ?_
  refine ev_iadd dL_law_410 ?_
  refine ev_iaX (j := 6 * k + 1) dL_law_411 (x_ix1 hL (by omega)) (by omega) ?_
  refine ev_d2 kL_law_412 (hm) (ev_rv_of h129 rfl rfl) (by decide) (by decide) (Nat.le_of_ble_eq_true rfl) ?_
  rintro r2 M2 ⟨rfl, hi2⟩
  refine ev_icmp_eq (tgt := 1213) dL_law_415 (by decide) (fun h415 => ?_) (fun h415 => False.elim (h415 rfl))
  exact K _ hi2
theorem xl_scrape {G : ev_G} {n : Nat} {M : ev_M} {Post : Option Value → ev_M → Prop} {k : Nat} (hx : x_ok mX11_scrape mX12_scrape 2 3 [.int (ev_xs G (6 * k + 1))]) (hsio : ev_hs G) (hi : x_inv M) (hk : 6 * k + 5 < ev_L G) (hL : ev_L G < 2 ^ 31)
    (K : ∀ M' : ev_M, x_inv M' → ev_E G mL_law 10 0 0 n M' 1213 [some (.ref 0), some (.ref 21), some (.ref 129), some (.int (nI (6 * k)))] [] Post) : ev_E G mL_law 10 0 0 n M 420 [some (.ref 0), some (.ref 21), some (.ref 129), some (.int (nI (6 * k)))] [] Post := by
  obtain ⟨fs0, h20⟩ := x_inv_20 hi
  refine ev_aload_n (i := 1) dL_law_420 rfl rfl ?_
  refine ev_aload_n (i := 0) dL_law_421 rfl rfl ?_
  refine ev_iload_n (i := 3) dL_law_422 rfl rfl ?_
  refine ev_iconst (v := 1) dL_law_423 cni_1 ?_
  refine ev_iadd dL_law_424 ?_
  refine ev_iaX (j := 6 * k + 1) dL_law_425 (x_ix1 hL (by omega)) (by omega) ?_
  refine ev_d2 kL_law_426 (hx G n M hsio hi) (ev_rv_of h20 rfl rfl) (by decide) (by decide) (Nat.le_of_ble_eq_true rfl) ?_
  rintro r M1 ⟨v, rfl, ⟨fs1, h129⟩, hm⟩
  refine ev_aload_n (i := 2) dL_law_429 rfl rfl ?_
  refine ev_aload_n (i := 0) dL_law_430 rfl rfl ?_
  refine ev_iload_n (i := 3) dL_law_431 rfl rfl ?_
  refine ev_iconst (v := 1) dL_law_432 cni_1 ?_
  refine ev_iadd dL_law_433 ?_
  refine ev_iaX (j := 6 * k + 1) dL_law_434 (x_ix1 hL (by omega)) (by omega) ?_
  refine ev_d2 kL_law_435 (hm) (ev_rv_of h129 rfl rfl) (by decide) (by decide) (Nat.le_of_ble_eq_true rfl) ?_
  rintro r2 M2 ⟨rfl, hi2⟩
  refine ev_icmp_eq (tgt := 1213) dL_law_438 (by decide) (fun h438 => ?_) (fun h438 => False.elim (h438 rfl))
  exact K _ hi2
theorem xl_load {G : ev_G} {n : Nat} {M : ev_M} {Post : Option Value → ev_M → Prop} {k : Nat} (hx : x_ok mX11_load mX12_load 2 3 [.int (ev_xs G (6 * k + 1))]) (hsio : ev_hs G) (hi : x_inv M) (hk : 6 * k + 5 < ev_L G) (hL : ev_L G < 2 ^ 31)
    (K : ∀ M' : ev_M, x_inv M' → ev_E G mL_law 10 0 0 n M' 1213 [some (.ref 0), some (.ref 21), some (.ref 129), some (.int (nI (6 * k)))] [] Post) : ev_E G mL_law 10 0 0 n M 443 [some (.ref 0), some (.ref 21), some (.ref 129), some (.int (nI (6 * k)))] [] Post := by
  obtain ⟨fs0, h20⟩ := x_inv_20 hi
  refine ev_aload_n (i := 1) dL_law_443 rfl rfl ?_
  refine ev_aload_n (i := 0) dL_law_444 rfl rfl ?_
  refine ev_iload_n (i := 3) dL_law_445 rfl rfl ?_
  refine ev_iconst (v := 1) dL_law_446 cni_1 ?_
  refine ev_iadd dL_law_447 ?_
  refine ev_iaX (j := 6 * k + 1) dL_law_448 (x_ix1 hL (by omega)) (by omega) ?_
  refine ev_d2 kL_law_449 (hx G n M hsio hi) (ev_rv_of h20 rfl rfl) (by decide) (by decide) (Nat.le_of_ble_eq_true rfl) ?_
  rintro r M1 ⟨v, rfl, ⟨fs1, h129⟩, hm⟩
  refine ev_aload_n (i := 2) dL_law_452 rfl rfl ?_
  refine ev_aload_n (i := 0) dL_law_453 rfl rfl ?_
  refine ev_iload_n (i := 3) dL_law_454 rfl rfl ?_
  refine ev_iconst (v := 1) dL_law_455 cni_1 ?_
  refine ev_iadd dL_law_456 ?_
  refine ev_iaX (j := 6 * k + 1) dL_law_457 (x_ix1 hL (by omega)) (by omega) ?_
  refine ev_d2 kL_law_458 (hm) (ev_rv_of h129 rfl rfl) (by decide) (by decide) (Nat.le_of_ble_eq_true rfl) ?_
  rintro r2 M2 ⟨rfl, hi2⟩
  refine ev_icmp_eq (tgt := 1213) dL_law_461 (by decide) (fun h461 => ?_) (fun h461 => False.elim (h461 rfl))
  exact K _ hi2
theorem xl_turn {G : ev_G} {n : Nat} {M : ev_M} {Post : Option Value → ev_M → Prop} {k : Nat} (hx : x_ok mX11_turn mX12_turn 2 3 [.int (ev_xs G (6 * k + 1))]) (hsio : ev_hs G) (hi : x_inv M) (hk : 6 * k + 5 < ev_L G) (hL : ev_L G < 2 ^ 31)
    (K : ∀ M' : ev_M, x_inv M' → ev_E G mL_law 10 0 0 n M' 1213 [some (.ref 0), some (.ref 21), some (.ref 129), some (.int (nI (6 * k)))] [] Post) : ev_E G mL_law 10 0 0 n M 466 [some (.ref 0), some (.ref 21), some (.ref 129), some (.int (nI (6 * k)))] [] Post := by
  obtain ⟨fs0, h20⟩ := x_inv_20 hi
  refine ev_aload_n (i := 1) dL_law_466 rfl rfl ?_
  refine ev_aload_n (i := 0) dL_law_467 rfl rfl ?_
  refine ev_iload_n (i := 3) dL_law_468 rfl rfl ?_
  refine ev_iconst (v := 1) dL_law_469 cni_1 ?_
  refine ev_iadd dL_law_470 ?_
  refine ev_iaX (j := 6 * k + 1) dL_law_471 (x_ix1 hL (by omega)) (by omega) ?_
  refine ev_d2 kL_law_472 (hx G n M hsio hi) (ev_rv_of h20 rfl rfl) (by decide) (by decide) (Nat.le_of_ble_eq_true rfl) ?_
  rintro r M1 ⟨v, rfl, ⟨fs1, h129⟩, hm⟩
  refine ev_aload_n (i := 2) dL_law_475 rfl rfl ?_
  refine ev_aload_n (i := 0) dL_law_476 rfl rfl ?_
  refine ev_iload_n (i := 3) dL_law_477 rfl rfl ?_
  refine ev_iconst (v := 1) dL_law_478 cni_1 ?_
  refine ev_iadd dL_law_479 ?_
  refine ev_iaX (j := 6 * k + 1) dL_law_480 (x_ix1 hL (by omega)) (by omega) ?_
  refine ev_d2 kL_law_481 (hm) (ev_rv_of h129 rfl rfl) (by decide) (by decide) (Nat.le_of_ble_eq_true rfl) ?_
  rintro r2 M2 ⟨rfl, hi2⟩
  refine ev_icmp_eq (tgt := 1213) dL_law_484 (by decide) (fun h484 => ?_) (fun h484 => False.elim (h484 rfl))
  exact K _ hi2
theorem xl_least {G : ev_G} {n : Nat} {M : ev_M} {Post : Option Value → ev_M → Prop} {k : Nat} (hx : x_ok mX11_least mX12_least 4 5 [.int (ev_xs G (6 * k + 1)), .int (ev_xs G (6 * k + 2)), .int (ev_xs G (6 * k + 3)), .int (ev_xs G (6 * k + 4)), .int (ev_xs G (6 * k + 5))]) (hsio : ev_hs G) (hi : x_inv M) (hk : 6 * k + 5 < ev_L G) (hL : ev_L G < 2 ^ 31)
    (K : ∀ M' : ev_M, x_inv M' → ev_E G mL_law 10 0 0 n M' 1213 [some (.ref 0), some (.ref 21), some (.ref 129), some (.int (nI (6 * k)))] [] Post) : ev_E G mL_law 10 0 0 n M 489 [some (.ref 0), some (.ref 21), some (.ref 129), some (.int (nI (6 * k)))] [] Post := by
  obtain ⟨fs0, h20⟩ := x_inv_20 hi
  refine ev_aload_n (i := 1) dL_law_489 rfl rfl ?_
  refine ev_aload_n (i := 0) dL_law_490 rfl rfl ?_
  refine ev_iload_n (i := 3) dL_law_491 rfl rfl ?_
  refine ev_iconst (v := 1) dL_law_492 cni_1 ?_
  refine ev_iadd dL_law_493 ?_
  refine ev_iaX (j := 6 * k + 1) dL_law_494 (x_ix1 hL (by omega)) (by omega) ?_
  refine ev_aload_n (i := 0) dL_law_495 rfl rfl ?_
  refine ev_iload_n (i := 3) dL_law_496 rfl rfl ?_
  refine ev_iconst (v := 2) dL_law_497 cni_2 ?_
  refine ev_iadd dL_law_498 ?_
  refine ev_iaX (j := 6 * k + 2) dL_law_499 (x_ix2 hL (by omega)) (by omega) ?_
  refine ev_aload_n (i := 0) dL_law_500 rfl rfl ?_
  refine ev_iload_n (i := 3) dL_law_501 rfl rfl ?_
  refine ev_iconst (v := 3) dL_law_502 cni_3 ?_
  refine ev_iadd dL_law_503 ?_
  refine ev_iaX (j := 6 * k + 3) dL_law_504 (x_ix3 hL (by omega)) (by omega) ?_
  refine ev_aload_n (i := 0) dL_law_505 rfl rfl ?_
  refine ev_iload_n (i := 3) dL_law_506 rfl rfl ?_
  refine ev_iconst (v := 4) dL_law_507 cni_4 ?_
  refine ev_iadd dL_law_508 ?_
  refine ev_iaX (j := 6 * k + 4) dL_law_509 (x_ix4 hL (by omega)) (by omega) ?_
  refine ev_aload_n (i := 0) dL_law_510 rfl rfl ?_
  refine ev_iload_n (i := 3) dL_law_511 rfl rfl ?_
  refine ev_iconst (v := 5) dL_law_512 cni_5 ?_
  refine ev_iadd dL_law_513 ?_
  refine ev_iaX (j := 6 * k + 5) dL_law_514 (x_ix5 hL (by omega)) (by omega) ?_
  refine ev_d6 kL_law_515 (hx G n M hsio hi) (ev_rv_of h20 rfl rfl) (by decide) (by decide) (Nat.le_of_ble_eq_true rfl) ?_
  rintro r M1 ⟨v, rfl, ⟨fs1, h129⟩, hm⟩
  refine ev_aload_n (i := 2) dL_law_518 rfl rfl ?_
  refine ev_aload_n (i := 0) dL_law_519 rfl rfl ?_
  refine ev_iload_n (i := 3) dL_law_520 rfl rfl ?_
  refine ev_iconst (v := 1) dL_law_521 cni_1 ?_
  refine ev_iadd dL_law_522 ?_
  refine ev_iaX (j := 6 * k + 1) dL_law_523 (x_ix1 hL (by omega)) (by omega) ?_
  refine ev_aload_n (i := 0) dL_law_524 rfl rfl ?_
  refine ev_iload_n (i := 3) dL_law_525 rfl rfl ?_
  refine ev_iconst (v := 2) dL_law_526 cni_2 ?_
  refine ev_iadd dL_law_527 ?_
  refine ev_iaX (j := 6 * k + 2) dL_law_528 (x_ix2 hL (by omega)) (by omega) ?_
  refine ev_aload_n (i := 0) dL_law_529 rfl rfl ?_
  refine ev_iload_n (i := 3) dL_law_530 rfl rfl ?_
  refine ev_iconst (v := 3) dL_law_531 cni_3 ?_
  refine ev_iadd dL_law_532 ?_
  refine ev_iaX (j := 6 * k + 3) dL_law_533 (x_ix3 hL (by omega)) (by omega) ?_
  refine ev_aload_n (i := 0) dL_law_534 rfl rfl ?_
  refine ev_iload_n (i := 3) dL_law_535 rfl rfl ?_
  refine ev_iconst (v := 4) dL_law_536 cni_4 ?_
  refine ev_iadd dL_law_537 ?_
  refine ev_iaX (j := 6 * k + 4) dL_law_538 (x_ix4 hL (by omega)) (by omega) ?_
  refine ev_aload_n (i := 0) dL_law_539 rfl rfl ?_
  refine ev_iload_n (i := 3) dL_law_540 rfl rfl ?_
  refine ev_iconst (v := 5) dL_law_541 cni_5 ?_
  refine ev_iadd dL_law_542 ?_
  refine ev_iaX (j := 6 * k + 5) dL_law_543 (x_ix5 hL (by omega)) (by omega) ?_
  refine ev_d6 kL_law_544 (hm) (ev_rv_of h129 rfl rfl) (by decide) (by decide) (Nat.le_of_ble_eq_true rfl) ?_
  rintro r2 M2 ⟨rfl, hi2⟩
  refine ev_icmp_eq (tgt := 1213) dL_law_547 (by decide) (fun h547 => ?_) (fun h547 => False.elim (h547 rfl))
  exact K _ hi2
theorem xl_flight {G : ev_G} {n : Nat} {M : ev_M} {Post : Option Value → ev_M → Prop} {k : Nat} (hx : x_ok mX11_flight mX12_flight 6 6 [.int (ev_xs G (6 * k + 1)), .int (ev_xs G (6 * k + 2)), .int (ev_xs G (6 * k + 3))]) (hsio : ev_hs G) (hi : x_inv M) (hk : 6 * k + 5 < ev_L G) (hL : ev_L G < 2 ^ 31)
    (K : ∀ M' : ev_M, x_inv M' → ev_E G mL_law 10 0 0 n M' 1213 [some (.ref 0), some (.ref 21), some (.ref 129), some (.int (nI (6 * k)))] [] Post) : ev_E G mL_law 10 0 0 n M 552 [some (.ref 0), some (.ref 21), some (.ref 129), some (.int (nI (6 * k)))] [] Post := by
  obtain ⟨fs0, h20⟩ := x_inv_20 hi
  refine ev_aload_n (i := 1) dL_law_552 rfl rfl ?_
  refine ev_aload_n (i := 0) dL_law_553 rfl rfl ?_
  refine ev_iload_n (i := 3) dL_law_554 rfl rfl ?_
  refine ev_iconst (v := 1) dL_law_555 cni_1 ?_
  refine ev_iadd dL_law_556 ?_
  refine ev_iaX (j := 6 * k + 1) dL_law_557 (x_ix1 hL (by omega)) (by omega) ?_
  refine ev_aload_n (i := 0) dL_law_558 rfl rfl ?_
  refine ev_iload_n (i := 3) dL_law_559 rfl rfl ?_
  refine ev_iconst (v := 2) dL_law_560 cni_2 ?_
  refine ev_iadd dL_law_561 ?_
  refine ev_iaX (j := 6 * k + 2) dL_law_562 (x_ix2 hL (by omega)) (by omega) ?_
  refine ev_aload_n (i := 0) dL_law_563 rfl rfl ?_
  refine ev_iload_n (i := 3) dL_law_564 rfl rfl ?_
  refine ev_iconst (v := 3) dL_law_565 cni_3 ?_
  refine ev_iadd dL_law_566 ?_
  refine ev_iaX (j := 6 * k + 3) dL_law_567 (x_ix3 hL (by omega)) (by omega) ?_
  refine ev_d4 kL_law_568 (hx G n M hsio hi) (ev_rv_of h20 rfl rfl) (by decide) (by decide) (Nat.le_of_ble_eq_true rfl) ?_
  rintro r M1 ⟨v, rfl, ⟨fs1, h129⟩, hm⟩
  refine ev_aload_n (i := 2) dL_law_571 rfl rfl ?_
  refine ev_aload_n (i := 0) dL_law_572 rfl rfl ?_
  refine ev_iload_n (i := 3) dL_law_573 rfl rfl ?_
  refine ev_iconst (v := 1) dL_law_574 cni_1 ?_
  refine ev_iadd dL_law_575 ?_
  refine ev_iaX (j := 6 * k + 1) dL_law_576 (x_ix1 hL (by omega)) (by omega) ?_
  refine ev_aload_n (i := 0) dL_law_577 rfl rfl ?_
  refine ev_iload_n (i := 3) dL_law_578 rfl rfl ?_
  refine ev_iconst (v := 2) dL_law_579 cni_2 ?_
  refine ev_iadd dL_law_580 ?_
  refine ev_iaX (j := 6 * k + 2) dL_law_581 (x_ix2 hL (by omega)) (by omega) ?_
  refine ev_aload_n (i := 0) dL_law_582 rfl rfl ?_
  refine ev_iload_n (i := 3) dL_law_583 rfl rfl ?_
  refine ev_iconst (v := 3) dL_law_584 cni_3 ?_
  refine ev_iadd dL_law_585 ?_
  refine ev_iaX (j := 6 * k + 3) dL_law_586 (x_ix3 hL (by omega)) (by omega) ?_
  refine ev_d4 kL_law_587 (hm) (ev_rv_of h129 rfl rfl) (by decide) (by decide) (Nat.le_of_ble_eq_true rfl) ?_
  rintro r2 M2 ⟨rfl, hi2⟩
  refine ev_icmp_eq (tgt := 1213) dL_law_590 (by decide) (fun h590 => ?_) (fun h590 => False.elim (h590 rfl))
  exact K _ hi2
theorem xl_band {G : ev_G} {n : Nat} {M : ev_M} {Post : Option Value → ev_M → Prop} {k : Nat} (hx : x_ok mX11_band mX12_band 3 3 [.int (ev_xs G (6 * k + 1)), .int (ev_xs G (6 * k + 2)), .int (ev_xs G (6 * k + 3)), .int (ev_xs G (6 * k + 4))]) (hsio : ev_hs G) (hi : x_inv M) (hk : 6 * k + 5 < ev_L G) (hL : ev_L G < 2 ^ 31)
    (K : ∀ M' : ev_M, x_inv M' → ev_E G mL_law 10 0 0 n M' 1213 [some (.ref 0), some (.ref 21), some (.ref 129), some (.int (nI (6 * k)))] [] Post) : ev_E G mL_law 10 0 0 n M 595 [some (.ref 0), some (.ref 21), some (.ref 129), some (.int (nI (6 * k)))] [] Post := by
  obtain ⟨fs0, h20⟩ := x_inv_20 hi
  refine ev_aload_n (i := 1) dL_law_595 rfl rfl ?_
  refine ev_aload_n (i := 0) dL_law_596 rfl rfl ?_
  refine ev_iload_n (i := 3) dL_law_597 rfl rfl ?_
  refine ev_iconst (v := 1) dL_law_598 cni_1 ?_
  refine ev_iadd dL_law_599 ?_
  refine ev_iaX (j := 6 * k + 1) dL_law_600 (x_ix1 hL (by omega)) (by omega) ?_
  refine ev_aload_n (i := 0) dL_law_601 rfl rfl ?_
  refine ev_iload_n (i := 3) dL_law_602 rfl rfl ?_
  refine ev_iconst (v := 2) dL_law_603 cni_2 ?_
  refine ev_iadd dL_law_604 ?_
  refine ev_iaX (j := 6 * k + 2) dL_law_605 (x_ix2 hL (by omega)) (by omega) ?_
  refine ev_aload_n (i := 0) dL_law_606 rfl rfl ?_
  refine ev_iload_n (i := 3) dL_law_607 rfl rfl ?_
  refine ev_iconst (v := 3) dL_law_608 cni_3 ?_
  refine ev_iadd dL_law_609 ?_
  refine ev_iaX (j := 6 * k + 3) dL_law_610 (x_ix3 hL (by omega)) (by omega) ?_
  refine ev_aload_n (i := 0) dL_law_611 rfl rfl ?_
  refine ev_iload_n (i := 3) dL_law_612 rfl rfl ?_
  refine ev_iconst (v := 4) dL_law_613 cni_4 ?_
  refine ev_iadd dL_law_614 ?_
  refine ev_iaX (j := 6 * k + 4) dL_law_615 (x_ix4 hL (by omega)) (by omega) ?_
  refine ev_d5 kL_law_616 (hx G n M hsio hi) (ev_rv_of h20 rfl rfl) (by decide) (by decide) (Nat.le_of_ble_eq_true rfl) ?_
  rintro r M1 ⟨v, rfl, ⟨fs1, h129⟩, hm⟩
  refine ev_aload_n (i := 2) dL_law_619 rfl rfl ?_
  refine ev_aload_n (i := 0) dL_law_620 rfl rfl ?_
  refine ev_iload_n (i := 3) dL_law_621 rfl rfl ?_
  refine ev_iconst (v := 1) dL_law_622 cni_1 ?_
  refine ev_iadd dL_law_623 ?_
  refine ev_iaX (j := 6 * k + 1) dL_law_624 (x_ix1 hL (by omega)) (by omega) ?_
  refine ev_aload_n (i := 0) dL_law_625 rfl rfl ?_
  refine ev_iload_n (i := 3) dL_law_626 rfl rfl ?_
  refine ev_iconst (v := 2) dL_law_627 cni_2 ?_
  refine ev_iadd dL_law_628 ?_
  refine ev_iaX (j := 6 * k + 2) dL_law_629 (x_ix2 hL (by omega)) (by omega) ?_
  refine ev_aload_n (i := 0) dL_law_630 rfl rfl ?_
  refine ev_iload_n (i := 3) dL_law_631 rfl rfl ?_
  refine ev_iconst (v := 3) dL_law_632 cni_3 ?_
  refine ev_iadd dL_law_633 ?_
  refine ev_iaX (j := 6 * k + 3) dL_law_634 (x_ix3 hL (by omega)) (by omega) ?_
  refine ev_aload_n (i := 0) dL_law_635 rfl rfl ?_
  refine ev_iload_n (i := 3) dL_law_636 rfl rfl ?_
  refine ev_iconst (v := 4) dL_law_637 cni_4 ?_
  refine ev_iadd dL_law_638 ?_
  refine ev_iaX (j := 6 * k + 4) dL_law_639 (x_ix4 hL (by omega)) (by omega) ?_
  refine ev_d5 kL_law_640 (hm) (ev_rv_of h129 rfl rfl) (by decide) (by decide) (Nat.le_of_ble_eq_true rfl) ?_
  rintro r2 M2 ⟨rfl, hi2⟩
  refine ev_icmp_eq (tgt := 1213) dL_law_643 (by decide) (fun h643 => ?_) (fun h643 => False.elim (h643 rfl))
  exact K _ hi2
theorem xl_says {G : ev_G} {n : Nat} {M : ev_M} {Post : Option Value → ev_M → Prop} {k : Nat} (hx : x_ok mX11_says mX12_says 5 4 [.int (ev_xs G (6 * k + 1)), .int (ev_xs G (6 * k + 2)), .int (ev_xs G (6 * k + 3))]) (hsio : ev_hs G) (hi : x_inv M) (hk : 6 * k + 5 < ev_L G) (hL : ev_L G < 2 ^ 31)
    (K : ∀ M' : ev_M, x_inv M' → ev_E G mL_law 10 0 0 n M' 1213 [some (.ref 0), some (.ref 21), some (.ref 129), some (.int (nI (6 * k)))] [] Post) : ev_E G mL_law 10 0 0 n M 648 [some (.ref 0), some (.ref 21), some (.ref 129), some (.int (nI (6 * k)))] [] Post := by
  obtain ⟨fs0, h20⟩ := x_inv_20 hi
  refine ev_aload_n (i := 1) dL_law_648 rfl rfl ?_
  refine ev_aload_n (i := 0) dL_law_649 rfl rfl ?_
  refine ev_iload_n (i := 3) dL_law_650 rfl rfl ?_
  refine ev_iconst (v := 1) dL_law_651 cni_1 ?_
  refine ev_iadd dL_law_652 ?_
  refine ev_iaX (j := 6 * k + 1) dL_law_653 (x_ix1 hL (by omega)) (by omega) ?_
  refine ev_aload_n (i := 0) dL_law_654 rfl rfl ?_
  refine ev_iload_n (i := 3) dL_law_655 rfl rfl ?_
  refine ev_iconst (v := 2) dL_law_656 cni_2 ?_
  refine ev_iadd dL_law_657 ?_
  refine ev_iaX (j := 6 * k + 2) dL_law_658 (x_ix2 hL (by omega)) (by omega) ?_
  refine ev_aload_n (i := 0) dL_law_659 rfl rfl ?_
  refine ev_iload_n (i := 3) dL_law_660 rfl rfl ?_
  refine ev_iconst (v := 3) dL_law_661 cni_3 ?_
  refine ev_iadd dL_law_662 ?_
  refine ev_iaX (j := 6 * k + 3) dL_law_663 (x_ix3 hL (by omega)) (by omega) ?_
  refine ev_d4 kL_law_664 (hx G n M hsio hi) (ev_rv_of h20 rfl rfl) (by decide) (by decide) (Nat.le_of_ble_eq_true rfl) ?_
  rintro r M1 ⟨v, rfl, ⟨fs1, h129⟩, hm⟩
  refine ev_aload_n (i := 2) dL_law_667 rfl rfl ?_
  refine ev_aload_n (i := 0) dL_law_668 rfl rfl ?_
  refine ev_iload_n (i := 3) dL_law_669 rfl rfl ?_
  refine ev_iconst (v := 1) dL_law_670 cni_1 ?_
  refine ev_iadd dL_law_671 ?_
  refine ev_iaX (j := 6 * k + 1) dL_law_672 (x_ix1 hL (by omega)) (by omega) ?_
  refine ev_aload_n (i := 0) dL_law_673 rfl rfl ?_
  refine ev_iload_n (i := 3) dL_law_674 rfl rfl ?_
  refine ev_iconst (v := 2) dL_law_675 cni_2 ?_
  refine ev_iadd dL_law_676 ?_
  refine ev_iaX (j := 6 * k + 2) dL_law_677 (x_ix2 hL (by omega)) (by omega) ?_
  refine ev_aload_n (i := 0) dL_law_678 rfl rfl ?_
  refine ev_iload_n (i := 3) dL_law_679 rfl rfl ?_
  refine ev_iconst (v := 3) dL_law_680 cni_3 ?_
  refine ev_iadd dL_law_681 ?_
  refine ev_iaX (j := 6 * k + 3) dL_law_682 (x_ix3 hL (by omega)) (by omega) ?_
  refine ev_d4 kL_law_683 (hm) (ev_rv_of h129 rfl rfl) (by decide) (by decide) (Nat.le_of_ble_eq_true rfl) ?_
  rintro r2 M2 ⟨rfl, hi2⟩
  refine ev_icmp_eq (tgt := 1213) dL_law_686 (by decide) (fun h686 => ?_) (fun h686 => False.elim (h686 rfl))
  exact K _ hi2
theorem xl_alike {G : ev_G} {n : Nat} {M : ev_M} {Post : Option Value → ev_M → Prop} {k : Nat} (hx : x_ok mX11_alike mX12_alike 7 6 [.int (ev_xs G (6 * k + 1)), .int (ev_xs G (6 * k + 2)), .int (ev_xs G (6 * k + 3)), .int (ev_xs G (6 * k + 4))]) (hsio : ev_hs G) (hi : x_inv M) (hk : 6 * k + 5 < ev_L G) (hL : ev_L G < 2 ^ 31)
    (K : ∀ M' : ev_M, x_inv M' → ev_E G mL_law 10 0 0 n M' 1213 [some (.ref 0), some (.ref 21), some (.ref 129), some (.int (nI (6 * k)))] [] Post) : ev_E G mL_law 10 0 0 n M 691 [some (.ref 0), some (.ref 21), some (.ref 129), some (.int (nI (6 * k)))] [] Post := by
  obtain ⟨fs0, h20⟩ := x_inv_20 hi
  refine ev_aload_n (i := 1) dL_law_691 rfl rfl ?_
  refine ev_aload_n (i := 0) dL_law_692 rfl rfl ?_
  refine ev_iload_n (i := 3) dL_law_693 rfl rfl ?_
  refine ev_iconst (v := 1) dL_law_694 cni_1 ?_
  refine ev_iadd dL_law_695 ?_
  refine ev_iaX (j := 6 * k + 1) dL_law_696 (x_ix1 hL (by omega)) (by omega) ?_
  refine ev_aload_n (i := 0) dL_law_697 rfl rfl ?_
  refine ev_iload_n (i := 3) dL_law_698 rfl rfl ?_
  refine ev_iconst (v := 2) dL_law_699 cni_2 ?_
  refine ev_iadd dL_law_700 ?_
  refine ev_iaX (j := 6 * k + 2) dL_law_701 (x_ix2 hL (by omega)) (by omega) ?_
  refine ev_aload_n (i := 0) dL_law_702 rfl rfl ?_
  refine ev_iload_n (i := 3) dL_law_703 rfl rfl ?_
  refine ev_iconst (v := 3) dL_law_704 cni_3 ?_
  refine ev_iadd dL_law_705 ?_
  refine ev_iaX (j := 6 * k + 3) dL_law_706 (x_ix3 hL (by omega)) (by omega) ?_
  refine ev_aload_n (i := 0) dL_law_707 rfl rfl ?_
  refine ev_iload_n (i := 3) dL_law_708 rfl rfl ?_
  refine ev_iconst (v := 4) dL_law_709 cni_4 ?_
  refine ev_iadd dL_law_710 ?_
  refine ev_iaX (j := 6 * k + 4) dL_law_711 (x_ix4 hL (by omega)) (by omega) ?_
  refine ev_d5 kL_law_712 (hx G n M hsio hi) (ev_rv_of h20 rfl rfl) (by decide) (by decide) (Nat.le_of_ble_eq_true rfl) ?_
  rintro r M1 ⟨v, rfl, ⟨fs1, h129⟩, hm⟩
  refine ev_aload_n (i := 2) dL_law_715 rfl rfl ?_
  refine ev_aload_n (i := 0) dL_law_716 rfl rfl ?_
  refine ev_iload_n (i := 3) dL_law_717 rfl rfl ?_
  refine ev_iconst (v := 1) dL_law_718 cni_1 ?_
  refine ev_iadd dL_law_719 ?_
  refine ev_iaX (j := 6 * k + 1) dL_law_720 (x_ix1 hL (by omega)) (by omega) ?_
  refine ev_aload_n (i := 0) dL_law_721 rfl rfl ?_
  refine ev_iload_n (i := 3) dL_law_722 rfl rfl ?_
  refine ev_iconst (v := 2) dL_law_723 cni_2 ?_
  refine ev_iadd dL_law_724 ?_
  refine ev_iaX (j := 6 * k + 2) dL_law_725 (x_ix2 hL (by omega)) (by omega) ?_
  refine ev_aload_n (i := 0) dL_law_726 rfl rfl ?_
  refine ev_iload_n (i := 3) dL_law_727 rfl rfl ?_
  refine ev_iconst (v := 3) dL_law_728 cni_3 ?_
  refine ev_iadd dL_law_729 ?_
  refine ev_iaX (j := 6 * k + 3) dL_law_730 (x_ix3 hL (by omega)) (by omega) ?_
  refine ev_aload_n (i := 0) dL_law_731 rfl rfl ?_
  refine ev_iload_n (i := 3) dL_law_732 rfl rfl ?_
  refine ev_iconst (v := 4) dL_law_733 cni_4 ?_
  refine ev_iadd dL_law_734 ?_
  refine ev_iaX (j := 6 * k + 4) dL_law_735 (x_ix4 hL (by omega)) (by omega) ?_
  refine ev_d5 kL_law_736 (hm) (ev_rv_of h129 rfl rfl) (by decide) (by decide) (Nat.le_of_ble_eq_true rfl) ?_
  rintro r2 M2 ⟨rfl, hi2⟩
  refine ev_icmp_eq (tgt := 1213) dL_law_739 (by decide) (fun h739 => ?_) (fun h739 => False.elim (h739 rfl))
  exact K _ hi2
theorem xl_turned {G : ev_G} {n : Nat} {M : ev_M} {Post : Option Value → ev_M → Prop} {k : Nat} (hx : x_ok mX11_turned mX12_turned 7 6 [.int (ev_xs G (6 * k + 1)), .int (ev_xs G (6 * k + 2)), .int (ev_xs G (6 * k + 3))]) (hsio : ev_hs G) (hi : x_inv M) (hk : 6 * k + 5 < ev_L G) (hL : ev_L G < 2 ^ 31)
    (K : ∀ M' : ev_M, x_inv M' → ev_E G mL_law 10 0 0 n M' 1213 [some (.ref 0), some (.ref 21), some (.ref 129), some (.int (nI (6 * k)))] [] Post) : ev_E G mL_law 10 0 0 n M 744 [some (.ref 0), some (.ref 21), some (.ref 129), some (.int (nI (6 * k)))] [] Post := by
  obtain ⟨fs0, h20⟩ := x_inv_20 hi
  refine ev_aload_n (i := 1) dL_law_744 rfl rfl ?_
  refine ev_aload_n (i := 0) dL_law_745 rfl rfl ?_
  refine ev_iload_n (i := 3) dL_law_746 rfl rfl ?_
  refine ev_iconst (v := 1) dL_law_747 cni_1 ?_
  refine ev_iadd dL_law_748 ?_
  refine ev_iaX (j := 6 * k + 1) dL_law_749 (x_ix1 hL (by omega)) (by omega) ?_
  refine ev_aload_n (i := 0) dL_law_750 rfl rfl ?_
  refine ev_iload_n (i := 3) dL_law_751 rfl rfl ?_
  refine ev_iconst (v := 2) dL_law_752 cni_2 ?_
  refine ev_iadd dL_law_753 ?_
  refine ev_iaX (j := 6 * k + 2) dL_law_754 (x_ix2 hL (by omega)) (by omega) ?_
  refine ev_aload_n (i := 0) dL_law_755 rfl rfl ?_
  refine ev_iload_n (i := 3) dL_law_756 rfl rfl ?_
  refine ev_iconst (v := 3) dL_law_757 cni_3 ?_
  refine ev_iadd dL_law_758 ?_
  refine ev_iaX (j := 6 * k + 3) dL_law_759 (x_ix3 hL (by omega)) (by omega) ?_
  refine ev_d4 kL_law_760 (hx G n M hsio hi) (ev_rv_of h20 rfl rfl) (by decide) (by decide) (Nat.le_of_ble_eq_true rfl) ?_
  rintro r M1 ⟨v, rfl, ⟨fs1, h129⟩, hm⟩
  refine ev_aload_n (i := 2) dL_law_763 rfl rfl ?_
  refine ev_aload_n (i := 0) dL_law_764 rfl rfl ?_
  refine ev_iload_n (i := 3) dL_law_765 rfl rfl ?_
  refine ev_iconst (v := 1) dL_law_766 cni_1 ?_
  refine ev_iadd dL_law_767 ?_
  refine ev_iaX (j := 6 * k + 1) dL_law_768 (x_ix1 hL (by omega)) (by omega) ?_
  refine ev_aload_n (i := 0) dL_law_769 rfl rfl ?_
  refine ev_iload_n (i := 3) dL_law_770 rfl rfl ?_
  refine ev_iconst (v := 2) dL_law_771 cni_2 ?_
  refine ev_iadd dL_law_772 ?_
  refine ev_iaX (j := 6 * k + 2) dL_law_773 (x_ix2 hL (by omega)) (by omega) ?_
  refine ev_aload_n (i := 0) dL_law_774 rfl rfl ?_
  refine ev_iload_n (i := 3) dL_law_775 rfl rfl ?_
  refine ev_iconst (v := 3) dL_law_776 cni_3 ?_
  refine ev_iadd dL_law_777 ?_
  refine ev_iaX (j := 6 * k + 3) dL_law_778 (x_ix3 hL (by omega)) (by omega) ?_
  refine ev_d4 kL_law_779 (hm) (ev_rv_of h129 rfl rfl) (by decide) (by decide) (Nat.le_of_ble_eq_true rfl) ?_
  rintro r2 M2 ⟨rfl, hi2⟩
  refine ev_icmp_eq (tgt := 1213) dL_law_782 (by decide) (fun h782 => ?_) (fun h782 => False.elim (h782 rfl))
  exact K _ hi2
theorem xl_wreck {G : ev_G} {n : Nat} {M : ev_M} {Post : Option Value → ev_M → Prop} {k : Nat} (hx : x_ok mX11_wreck mX12_wreck 5 5 [.int (ev_xs G (6 * k + 1)), .int (ev_xs G (6 * k + 2)), .int (ev_xs G (6 * k + 3))]) (hsio : ev_hs G) (hi : x_inv M) (hk : 6 * k + 5 < ev_L G) (hL : ev_L G < 2 ^ 31)
    (K : ∀ M' : ev_M, x_inv M' → ev_E G mL_law 10 0 0 n M' 1213 [some (.ref 0), some (.ref 21), some (.ref 129), some (.int (nI (6 * k)))] [] Post) : ev_E G mL_law 10 0 0 n M 787 [some (.ref 0), some (.ref 21), some (.ref 129), some (.int (nI (6 * k)))] [] Post := by
  obtain ⟨fs0, h20⟩ := x_inv_20 hi
  refine ev_aload_n (i := 1) dL_law_787 rfl rfl ?_
  refine ev_aload_n (i := 0) dL_law_788 rfl rfl ?_
  refine ev_iload_n (i := 3) dL_law_789 rfl rfl ?_
  refine ev_iconst (v := 1) dL_law_790 cni_1 ?_
  refine ev_iadd dL_law_791 ?_
  refine ev_iaX (j := 6 * k + 1) dL_law_792 (x_ix1 hL (by omega)) (by omega) ?_
  refine ev_aload_n (i := 0) dL_law_793 rfl rfl ?_
  refine ev_iload_n (i := 3) dL_law_794 rfl rfl ?_
  refine ev_iconst (v := 2) dL_law_795 cni_2 ?_
  refine ev_iadd dL_law_796 ?_
  refine ev_iaX (j := 6 * k + 2) dL_law_797 (x_ix2 hL (by omega)) (by omega) ?_
  refine ev_aload_n (i := 0) dL_law_798 rfl rfl ?_
  refine ev_iload_n (i := 3) dL_law_799 rfl rfl ?_
  refine ev_iconst (v := 3) dL_law_800 cni_3 ?_
  refine ev_iadd dL_law_801 ?_
  refine ev_iaX (j := 6 * k + 3) dL_law_802 (x_ix3 hL (by omega)) (by omega) ?_
  refine ev_d4 kL_law_803 (hx G n M hsio hi) (ev_rv_of h20 rfl rfl) (by decide) (by decide) (Nat.le_of_ble_eq_true rfl) ?_
  rintro r M1 ⟨v, rfl, ⟨fs1, h129⟩, hm⟩
  refine ev_aload_n (i := 2) dL_law_806 rfl rfl ?_
  refine ev_aload_n (i := 0) dL_law_807 rfl rfl ?_
  refine ev_iload_n (i := 3) dL_law_808 rfl rfl ?_
  refine ev_iconst (v := 1) dL_law_809 cni_1 ?_
  refine ev_iadd dL_law_810 ?_
  refine ev_iaX (j := 6 * k + 1) dL_law_811 (x_ix1 hL (by omega)) (by omega) ?_
  refine ev_aload_n (i := 0) dL_law_812 rfl rfl ?_
  refine ev_iload_n (i := 3) dL_law_813 rfl rfl ?_
  refine ev_iconst (v := 2) dL_law_814 cni_2 ?_
  refine ev_iadd dL_law_815 ?_
  refine ev_iaX (j := 6 * k + 2) dL_law_816 (x_ix2 hL (by omega)) (by omega) ?_
  refine ev_aload_n (i := 0) dL_law_817 rfl rfl ?_
  refine ev_iload_n (i := 3) dL_law_818 rfl rfl ?_
  refine ev_iconst (v := 3) dL_law_819 cni_3 ?_
  refine ev_iadd dL_law_820 ?_
  refine ev_iaX (j := 6 * k + 3) dL_law_821 (x_ix3 hL (by omega)) (by omega) ?_
  refine ev_d4 kL_law_822 (hm) (ev_rv_of h129 rfl rfl) (by decide) (by decide) (Nat.le_of_ble_eq_true rfl) ?_
  rintro r2 M2 ⟨rfl, hi2⟩
  refine ev_icmp_eq (tgt := 1213) dL_law_825 (by decide) (fun h825 => ?_) (fun h825 => False.elim (h825 rfl))
  exact K _ hi2
theorem xl_feather {G : ev_G} {n : Nat} {M : ev_M} {Post : Option Value → ev_M → Prop} {k : Nat} (hx : x_ok mX11_feather mX12_feather 6 5 [.int (ev_xs G (6 * k + 1)), .int (ev_xs G (6 * k + 2)), .int (ev_xs G (6 * k + 3))]) (hsio : ev_hs G) (hi : x_inv M) (hk : 6 * k + 5 < ev_L G) (hL : ev_L G < 2 ^ 31)
    (K : ∀ M' : ev_M, x_inv M' → ev_E G mL_law 10 0 0 n M' 1213 [some (.ref 0), some (.ref 21), some (.ref 129), some (.int (nI (6 * k)))] [] Post) : ev_E G mL_law 10 0 0 n M 830 [some (.ref 0), some (.ref 21), some (.ref 129), some (.int (nI (6 * k)))] [] Post := by
  obtain ⟨fs0, h20⟩ := x_inv_20 hi
  refine ev_aload_n (i := 1) dL_law_830 rfl rfl ?_
  refine ev_aload_n (i := 0) dL_law_831 rfl rfl ?_
  refine ev_iload_n (i := 3) dL_law_832 rfl rfl ?_
  refine ev_iconst (v := 1) dL_law_833 cni_1 ?_
  refine ev_iadd dL_law_834 ?_
  refine ev_iaX (j := 6 * k + 1) dL_law_835 (x_ix1 hL (by omega)) (by omega) ?_
  refine ev_aload_n (i := 0) dL_law_836 rfl rfl ?_
  refine ev_iload_n (i := 3) dL_law_837 rfl rfl ?_
  refine ev_iconst (v := 2) dL_law_838 cni_2 ?_
  refine ev_iadd dL_law_839 ?_
  refine ev_iaX (j := 6 * k + 2) dL_law_840 (x_ix2 hL (by omega)) (by omega) ?_
  refine ev_aload_n (i := 0) dL_law_841 rfl rfl ?_
  refine ev_iload_n (i := 3) dL_law_842 rfl rfl ?_
  refine ev_iconst (v := 3) dL_law_843 cni_3 ?_
  refine ev_iadd dL_law_844 ?_
  refine ev_iaX (j := 6 * k + 3) dL_law_845 (x_ix3 hL (by omega)) (by omega) ?_
  refine ev_d4 kL_law_846 (hx G n M hsio hi) (ev_rv_of h20 rfl rfl) (by decide) (by decide) (Nat.le_of_ble_eq_true rfl) ?_
  rintro r M1 ⟨v, rfl, ⟨fs1, h129⟩, hm⟩
  refine ev_aload_n (i := 2) dL_law_849 rfl rfl ?_
  refine ev_aload_n (i := 0) dL_law_850 rfl rfl ?_
  refine ev_iload_n (i := 3) dL_law_851 rfl rfl ?_
  refine ev_iconst (v := 1) dL_law_852 cni_1 ?_
  refine ev_iadd dL_law_853 ?_
  refine ev_iaX (j := 6 * k + 1) dL_law_854 (x_ix1 hL (by omega)) (by omega) ?_
  refine ev_aload_n (i := 0) dL_law_855 rfl rfl ?_
  refine ev_iload_n (i := 3) dL_law_856 rfl rfl ?_
  refine ev_iconst (v := 2) dL_law_857 cni_2 ?_
  refine ev_iadd dL_law_858 ?_
  refine ev_iaX (j := 6 * k + 2) dL_law_859 (x_ix2 hL (by omega)) (by omega) ?_
  refine ev_aload_n (i := 0) dL_law_860 rfl rfl ?_
  refine ev_iload_n (i := 3) dL_law_861 rfl rfl ?_
  refine ev_iconst (v := 3) dL_law_862 cni_3 ?_
  refine ev_iadd dL_law_863 ?_
  refine ev_iaX (j := 6 * k + 3) dL_law_864 (x_ix3 hL (by omega)) (by omega) ?_
  refine ev_d4 kL_law_865 (hm) (ev_rv_of h129 rfl rfl) (by decide) (by decide) (Nat.le_of_ble_eq_true rfl) ?_
  rintro r2 M2 ⟨rfl, hi2⟩
  refine ev_icmp_eq (tgt := 1213) dL_law_868 (by decide) (fun h868 => ?_) (fun h868 => False.elim (h868 rfl))
  exact K _ hi2
theorem xl_warm {G : ev_G} {n : Nat} {M : ev_M} {Post : Option Value → ev_M → Prop} {k : Nat} (hx : x_ok mX11_warm mX12_warm 5 6 [.int (ev_xs G (6 * k + 1)), .int (ev_xs G (6 * k + 2)), .int (ev_xs G (6 * k + 3))]) (hsio : ev_hs G) (hi : x_inv M) (hk : 6 * k + 5 < ev_L G) (hL : ev_L G < 2 ^ 31)
    (K : ∀ M' : ev_M, x_inv M' → ev_E G mL_law 10 0 0 n M' 1213 [some (.ref 0), some (.ref 21), some (.ref 129), some (.int (nI (6 * k)))] [] Post) : ev_E G mL_law 10 0 0 n M 873 [some (.ref 0), some (.ref 21), some (.ref 129), some (.int (nI (6 * k)))] [] Post := by
  obtain ⟨fs0, h20⟩ := x_inv_20 hi
  refine ev_aload_n (i := 1) dL_law_873 rfl rfl ?_
  refine ev_aload_n (i := 0) dL_law_874 rfl rfl ?_
  refine ev_iload_n (i := 3) dL_law_875 rfl rfl ?_
  refine ev_iconst (v := 1) dL_law_876 cni_1 ?_
  refine ev_iadd dL_law_877 ?_
  refine ev_iaX (j := 6 * k + 1) dL_law_878 (x_ix1 hL (by omega)) (by omega) ?_
  refine ev_aload_n (i := 0) dL_law_879 rfl rfl ?_
  refine ev_iload_n (i := 3) dL_law_880 rfl rfl ?_
  refine ev_iconst (v := 2) dL_law_881 cni_2 ?_
  refine ev_iadd dL_law_882 ?_
  refine ev_iaX (j := 6 * k + 2) dL_law_883 (x_ix2 hL (by omega)) (by omega) ?_
  refine ev_aload_n (i := 0) dL_law_884 rfl rfl ?_
  refine ev_iload_n (i := 3) dL_law_885 rfl rfl ?_
  refine ev_iconst (v := 3) dL_law_886 cni_3 ?_
  refine ev_iadd dL_law_887 ?_
  refine ev_iaX (j := 6 * k + 3) dL_law_888 (x_ix3 hL (by omega)) (by omega) ?_
  refine ev_d4 kL_law_889 (hx G n M hsio hi) (ev_rv_of h20 rfl rfl) (by decide) (by decide) (Nat.le_of_ble_eq_true rfl) ?_
  rintro r M1 ⟨v, rfl, ⟨fs1, h129⟩, hm⟩
  refine ev_aload_n (i := 2) dL_law_892 rfl rfl ?_
  refine ev_aload_n (i := 0) dL_law_893 rfl rfl ?_
  refine ev_iload_n (i := 3) dL_law_894 rfl rfl ?_
  refine ev_iconst (v := 1) dL_law_895 cni_1 ?_
  refine ev_iadd dL_law_896 ?_
  refine ev_iaX (j := 6 * k + 1) dL_law_897 (x_ix1 hL (by omega)) (by omega) ?_
  refine ev_aload_n (i := 0) dL_law_898 rfl rfl ?_
  refine ev_iload_n (i := 3) dL_law_899 rfl rfl ?_
  refine ev_iconst (v := 2) dL_law_900 cni_2 ?_
  refine ev_iadd dL_law_901 ?_
  refine ev_iaX (j := 6 * k + 2) dL_law_902 (x_ix2 hL (by omega)) (by omega) ?_
  refine ev_aload_n (i := 0) dL_law_903 rfl rfl ?_
  refine ev_iload_n (i := 3) dL_law_904 rfl rfl ?_
  refine ev_iconst (v := 3) dL_law_905 cni_3 ?_
  refine ev_iadd dL_law_906 ?_
  refine ev_iaX (j := 6 * k + 3) dL_law_907 (x_ix3 hL (by omega)) (by omega) ?_
  refine ev_d4 kL_law_908 (hm) (ev_rv_of h129 rfl rfl) (by decide) (by decide) (Nat.le_of_ble_eq_true rfl) ?_
  rintro r2 M2 ⟨rfl, hi2⟩
  refine ev_icmp_eq (tgt := 1213) dL_law_911 (by decide) (fun h911 => ?_) (fun h911 => False.elim (h911 rfl))
  exact K _ hi2
theorem xl_shoot {G : ev_G} {n : Nat} {M : ev_M} {Post : Option Value → ev_M → Prop} {k : Nat} (hx : x_ok mX11_shoot mX12_shoot 6 6 [.int (ev_xs G (6 * k + 1)), .int (ev_xs G (6 * k + 2)), .int (ev_xs G (6 * k + 3))]) (hsio : ev_hs G) (hi : x_inv M) (hk : 6 * k + 5 < ev_L G) (hL : ev_L G < 2 ^ 31)
    (K : ∀ M' : ev_M, x_inv M' → ev_E G mL_law 10 0 0 n M' 1213 [some (.ref 0), some (.ref 21), some (.ref 129), some (.int (nI (6 * k)))] [] Post) : ev_E G mL_law 10 0 0 n M 916 [some (.ref 0), some (.ref 21), some (.ref 129), some (.int (nI (6 * k)))] [] Post := by
  obtain ⟨fs0, h20⟩ := x_inv_20 hi
  refine ev_aload_n (i := 1) dL_law_916 rfl rfl ?_
  refine ev_aload_n (i := 0) dL_law_917 rfl rfl ?_
  refine ev_iload_n (i := 3) dL_law_918 rfl rfl ?_
  refine ev_iconst (v := 1) dL_law_919 cni_1 ?_
  refine ev_iadd dL_law_920 ?_
  refine ev_iaX (j := 6 * k + 1) dL_law_921 (x_ix1 hL (by omega)) (by omega) ?_
  refine ev_aload_n (i := 0) dL_law_922 rfl rfl ?_
  refine ev_iload_n (i := 3) dL_law_923 rfl rfl ?_
  refine ev_iconst (v := 2) dL_law_924 cni_2 ?_
  refine ev_iadd dL_law_925 ?_
  refine ev_iaX (j := 6 * k + 2) dL_law_926 (x_ix2 hL (by omega)) (by omega) ?_
  refine ev_aload_n (i := 0) dL_law_927 rfl rfl ?_
  refine ev_iload_n (i := 3) dL_law_928 rfl rfl ?_
  refine ev_iconst (v := 3) dL_law_929 cni_3 ?_
  refine ev_iadd dL_law_930 ?_
  refine ev_iaX (j := 6 * k + 3) dL_law_931 (x_ix3 hL (by omega)) (by omega) ?_
  refine ev_d4 kL_law_932 (hx G n M hsio hi) (ev_rv_of h20 rfl rfl) (by decide) (by decide) (Nat.le_of_ble_eq_true rfl) ?_
  rintro r M1 ⟨v, rfl, ⟨fs1, h129⟩, hm⟩
  refine ev_aload_n (i := 2) dL_law_935 rfl rfl ?_
  refine ev_aload_n (i := 0) dL_law_936 rfl rfl ?_
  refine ev_iload_n (i := 3) dL_law_937 rfl rfl ?_
  refine ev_iconst (v := 1) dL_law_938 cni_1 ?_
  refine ev_iadd dL_law_939 ?_
  refine ev_iaX (j := 6 * k + 1) dL_law_940 (x_ix1 hL (by omega)) (by omega) ?_
  refine ev_aload_n (i := 0) dL_law_941 rfl rfl ?_
  refine ev_iload_n (i := 3) dL_law_942 rfl rfl ?_
  refine ev_iconst (v := 2) dL_law_943 cni_2 ?_
  refine ev_iadd dL_law_944 ?_
  refine ev_iaX (j := 6 * k + 2) dL_law_945 (x_ix2 hL (by omega)) (by omega) ?_
  refine ev_aload_n (i := 0) dL_law_946 rfl rfl ?_
  refine ev_iload_n (i := 3) dL_law_947 rfl rfl ?_
  refine ev_iconst (v := 3) dL_law_948 cni_3 ?_
  refine ev_iadd dL_law_949 ?_
  refine ev_iaX (j := 6 * k + 3) dL_law_950 (x_ix3 hL (by omega)) (by omega) ?_
  refine ev_d4 kL_law_951 (hm) (ev_rv_of h129 rfl rfl) (by decide) (by decide) (Nat.le_of_ble_eq_true rfl) ?_
  rintro r2 M2 ⟨rfl, hi2⟩
  refine ev_icmp_eq (tgt := 1213) dL_law_954 (by decide) (fun h954 => ?_) (fun h954 => False.elim (h954 rfl))
  exact K _ hi2
theorem xl_shot {G : ev_G} {n : Nat} {M : ev_M} {Post : Option Value → ev_M → Prop} {k : Nat} (hx : x_ok mX11_shot mX12_shot 2 2 [.int (ev_xs G (6 * k + 1)), .int (ev_xs G (6 * k + 2))]) (hsio : ev_hs G) (hi : x_inv M) (hk : 6 * k + 5 < ev_L G) (hL : ev_L G < 2 ^ 31)
    (K : ∀ M' : ev_M, x_inv M' → ev_E G mL_law 10 0 0 n M' 1213 [some (.ref 0), some (.ref 21), some (.ref 129), some (.int (nI (6 * k)))] [] Post) : ev_E G mL_law 10 0 0 n M 959 [some (.ref 0), some (.ref 21), some (.ref 129), some (.int (nI (6 * k)))] [] Post := by
  obtain ⟨fs0, h20⟩ := x_inv_20 hi
  refine ev_aload_n (i := 1) dL_law_959 rfl rfl ?_
  refine ev_aload_n (i := 0) dL_law_960 rfl rfl ?_
  refine ev_iload_n (i := 3) dL_law_961 rfl rfl ?_
  refine ev_iconst (v := 1) dL_law_962 cni_1 ?_
  refine ev_iadd dL_law_963 ?_
  refine ev_iaX (j := 6 * k + 1) dL_law_964 (x_ix1 hL (by omega)) (by omega) ?_
  refine ev_aload_n (i := 0) dL_law_965 rfl rfl ?_
  refine ev_iload_n (i := 3) dL_law_966 rfl rfl ?_
  refine ev_iconst (v := 2) dL_law_967 cni_2 ?_
  refine ev_iadd dL_law_968 ?_
  refine ev_iaX (j := 6 * k + 2) dL_law_969 (x_ix2 hL (by omega)) (by omega) ?_
  refine ev_d3 kL_law_970 (hx G n M hsio hi) (ev_rv_of h20 rfl rfl) (by decide) (by decide) (Nat.le_of_ble_eq_true rfl) ?_
  rintro r M1 ⟨v, rfl, ⟨fs1, h129⟩, hm⟩
  refine ev_aload_n (i := 2) dL_law_973 rfl rfl ?_
  refine ev_aload_n (i := 0) dL_law_974 rfl rfl ?_
  refine ev_iload_n (i := 3) dL_law_975 rfl rfl ?_
  refine ev_iconst (v := 1) dL_law_976 cni_1 ?_
  refine ev_iadd dL_law_977 ?_
  refine ev_iaX (j := 6 * k + 1) dL_law_978 (x_ix1 hL (by omega)) (by omega) ?_
  refine ev_aload_n (i := 0) dL_law_979 rfl rfl ?_
  refine ev_iload_n (i := 3) dL_law_980 rfl rfl ?_
  refine ev_iconst (v := 2) dL_law_981 cni_2 ?_
  refine ev_iadd dL_law_982 ?_
  refine ev_iaX (j := 6 * k + 2) dL_law_983 (x_ix2 hL (by omega)) (by omega) ?_
  refine ev_d3 kL_law_984 (hm) (ev_rv_of h129 rfl rfl) (by decide) (by decide) (Nat.le_of_ble_eq_true rfl) ?_
  rintro r2 M2 ⟨rfl, hi2⟩
  refine ev_icmp_eq (tgt := 1213) dL_law_987 (by decide) (fun h987 => ?_) (fun h987 => False.elim (h987 rfl))
  exact K _ hi2
theorem xl_wipe {G : ev_G} {n : Nat} {M : ev_M} {Post : Option Value → ev_M → Prop} {k : Nat} (hx : x_ok mX11_wipe mX12_wipe 2 1 []) (hsio : ev_hs G) (hi : x_inv M) (hk : 6 * k + 5 < ev_L G) (hL : ev_L G < 2 ^ 31)
    (K : ∀ M' : ev_M, x_inv M' → ev_E G mL_law 10 0 0 n M' 1213 [some (.ref 0), some (.ref 21), some (.ref 129), some (.int (nI (6 * k)))] [] Post) : ev_E G mL_law 10 0 0 n M 992 [some (.ref 0), some (.ref 21), some (.ref 129), some (.int (nI (6 * k)))] [] Post := by
  obtain ⟨fs0, h20⟩ := x_inv_20 hi
  refine ev_aload_n (i := 1) dL_law_992 rfl rfl ?_
  refine ev_d1 kL_law_993 (hx G n M hsio hi) (ev_rv_of h20 rfl rfl) (by decide) (by decide) (Nat.le_of_ble_eq_true rfl) ?_
  rintro r M1 ⟨v, rfl, ⟨fs1, h129⟩, hm⟩
  refine ev_aload_n (i := 2) dL_law_996 rfl rfl ?_
  refine ev_d1 kL_law_997 (hm) (ev_rv_of h129 rfl rfl) (by decide) (by decide) (Nat.le_of_ble_eq_true rfl) ?_
  rintro r2 M2 ⟨rfl, hi2⟩
  refine ev_icmp_eq (tgt := 1213) dL_law_1000 (by decide) (fun h1000 => ?_) (fun h1000 => False.elim (h1000 rfl))
  exact K _ hi2
theorem xl_parted {G : ev_G} {n : Nat} {M : ev_M} {Post : Option Value → ev_M → Prop} {k : Nat} (hx : x_ok mX11_parted mX12_parted 5 4 []) (hsio : ev_hs G) (hi : x_inv M) (hk : 6 * k + 5 < ev_L G) (hL : ev_L G < 2 ^ 31)
    (K : ∀ M' : ev_M, x_inv M' → ev_E G mL_law 10 0 0 n M' 1213 [some (.ref 0), some (.ref 21), some (.ref 129), some (.int (nI (6 * k)))] [] Post) : ev_E G mL_law 10 0 0 n M 1005 [some (.ref 0), some (.ref 21), some (.ref 129), some (.int (nI (6 * k)))] [] Post := by
  obtain ⟨fs0, h20⟩ := x_inv_20 hi
  refine ev_aload_n (i := 1) dL_law_1005 rfl rfl ?_
  refine ev_d1 kL_law_1006 (hx G n M hsio hi) (ev_rv_of h20 rfl rfl) (by decide) (by decide) (Nat.le_of_ble_eq_true rfl) ?_
  rintro r M1 ⟨v, rfl, ⟨fs1, h129⟩, hm⟩
  refine ev_aload_n (i := 2) dL_law_1009 rfl rfl ?_
  refine ev_d1 kL_law_1010 (hm) (ev_rv_of h129 rfl rfl) (by decide) (by decide) (Nat.le_of_ble_eq_true rfl) ?_
  rintro r2 M2 ⟨rfl, hi2⟩
  refine ev_icmp_eq (tgt := 1213) dL_law_1013 (by decide) (fun h1013 => ?_) (fun h1013 => False.elim (h1013 rfl))
  exact K _ hi2
theorem xl_spread {G : ev_G} {n : Nat} {M : ev_M} {Post : Option Value → ev_M → Prop} {k : Nat} (hx : x_ok mX11_spread mX12_spread 2 3 [.int (ev_xs G (6 * k + 1))]) (hsio : ev_hs G) (hi : x_inv M) (hk : 6 * k + 5 < ev_L G) (hL : ev_L G < 2 ^ 31)
    (K : ∀ M' : ev_M, x_inv M' → ev_E G mL_law 10 0 0 n M' 1213 [some (.ref 0), some (.ref 21), some (.ref 129), some (.int (nI (6 * k)))] [] Post) : ev_E G mL_law 10 0 0 n M 1018 [some (.ref 0), some (.ref 21), some (.ref 129), some (.int (nI (6 * k)))] [] Post := by
  obtain ⟨fs0, h20⟩ := x_inv_20 hi
  refine ev_aload_n (i := 1) dL_law_1018 rfl rfl ?_
  refine ev_aload_n (i := 0) dL_law_1019 rfl rfl ?_
  refine ev_iload_n (i := 3) dL_law_1020 rfl rfl ?_
  refine ev_iconst (v := 1) dL_law_1021 cni_1 ?_
  refine ev_iadd dL_law_1022 ?_
  refine ev_iaX (j := 6 * k + 1) dL_law_1023 (x_ix1 hL (by omega)) (by omega) ?_
  refine ev_d2 kL_law_1024 (hx G n M hsio hi) (ev_rv_of h20 rfl rfl) (by decide) (by decide) (Nat.le_of_ble_eq_true rfl) ?_
  rintro r M1 ⟨v, rfl, ⟨fs1, h129⟩, hm⟩
  refine ev_aload_n (i := 2) dL_law_1027 rfl rfl ?_
  refine ev_aload_n (i := 0) dL_law_1028 rfl rfl ?_
  refine ev_iload_n (i := 3) dL_law_1029 rfl rfl ?_
  refine ev_iconst (v := 1) dL_law_1030 cni_1 ?_
  refine ev_iadd dL_law_1031 ?_
  refine ev_iaX (j := 6 * k + 1) dL_law_1032 (x_ix1 hL (by omega)) (by omega) ?_
  refine ev_d2 kL_law_1033 (hm) (ev_rv_of h129 rfl rfl) (by decide) (by decide) (Nat.le_of_ble_eq_true rfl) ?_
  rintro r2 M2 ⟨rfl, hi2⟩
  refine ev_icmp_eq (tgt := 1213) dL_law_1036 (by decide) (fun h1036 => ?_) (fun h1036 => False.elim (h1036 rfl))
  exact K _ hi2
theorem xl_out {G : ev_G} {n : Nat} {M : ev_M} {Post : Option Value → ev_M → Prop} {k : Nat} (hx : x_ok mX11_out mX12_out 2 3 [.int (ev_xs G (6 * k + 1)), .int (ev_xs G (6 * k + 2))]) (hsio : ev_hs G) (hi : x_inv M) (hk : 6 * k + 5 < ev_L G) (hL : ev_L G < 2 ^ 31)
    (K : ∀ M' : ev_M, x_inv M' → ev_E G mL_law 10 0 0 n M' 1213 [some (.ref 0), some (.ref 21), some (.ref 129), some (.int (nI (6 * k)))] [] Post) : ev_E G mL_law 10 0 0 n M 1041 [some (.ref 0), some (.ref 21), some (.ref 129), some (.int (nI (6 * k)))] [] Post := by
  obtain ⟨fs0, h20⟩ := x_inv_20 hi
  refine ev_aload_n (i := 1) dL_law_1041 rfl rfl ?_
  refine ev_aload_n (i := 0) dL_law_1042 rfl rfl ?_
  refine ev_iload_n (i := 3) dL_law_1043 rfl rfl ?_
  refine ev_iconst (v := 1) dL_law_1044 cni_1 ?_
  refine ev_iadd dL_law_1045 ?_
  refine ev_iaX (j := 6 * k + 1) dL_law_1046 (x_ix1 hL (by omega)) (by omega) ?_
  refine ev_aload_n (i := 0) dL_law_1047 rfl rfl ?_
  refine ev_iload_n (i := 3) dL_law_1048 rfl rfl ?_
  refine ev_iconst (v := 2) dL_law_1049 cni_2 ?_
  refine ev_iadd dL_law_1050 ?_
  refine ev_iaX (j := 6 * k + 2) dL_law_1051 (x_ix2 hL (by omega)) (by omega) ?_
  refine ev_d3 kL_law_1052 (hx G n M hsio hi) (ev_rv_of h20 rfl rfl) (by decide) (by decide) (Nat.le_of_ble_eq_true rfl) ?_
  rintro r M1 ⟨v, rfl, ⟨fs1, h129⟩, hm⟩
  refine ev_aload_n (i := 2) dL_law_1055 rfl rfl ?_
  refine ev_aload_n (i := 0) dL_law_1056 rfl rfl ?_
  refine ev_iload_n (i := 3) dL_law_1057 rfl rfl ?_
  refine ev_iconst (v := 1) dL_law_1058 cni_1 ?_
  refine ev_iadd dL_law_1059 ?_
  refine ev_iaX (j := 6 * k + 1) dL_law_1060 (x_ix1 hL (by omega)) (by omega) ?_
  refine ev_aload_n (i := 0) dL_law_1061 rfl rfl ?_
  refine ev_iload_n (i := 3) dL_law_1062 rfl rfl ?_
  refine ev_iconst (v := 2) dL_law_1063 cni_2 ?_
  refine ev_iadd dL_law_1064 ?_
  refine ev_iaX (j := 6 * k + 2) dL_law_1065 (x_ix2 hL (by omega)) (by omega) ?_
  refine ev_d3 kL_law_1066 (hm) (ev_rv_of h129 rfl rfl) (by decide) (by decide) (Nat.le_of_ble_eq_true rfl) ?_
  rintro r2 M2 ⟨rfl, hi2⟩
  refine ev_icmp_eq (tgt := 1213) dL_law_1069 (by decide) (fun h1069 => ?_) (fun h1069 => False.elim (h1069 rfl))
  exact K _ hi2
theorem xl_lot {G : ev_G} {n : Nat} {M : ev_M} {Post : Option Value → ev_M → Prop} {k : Nat} (hx : x_ok mX11_lot mX12_lot 1 1 [.int (ev_xs G (6 * k + 1))]) (hsio : ev_hs G) (hi : x_inv M) (hk : 6 * k + 5 < ev_L G) (hL : ev_L G < 2 ^ 31)
    (K : ∀ M' : ev_M, x_inv M' → ev_E G mL_law 10 0 0 n M' 1213 [some (.ref 0), some (.ref 21), some (.ref 129), some (.int (nI (6 * k)))] [] Post) : ev_E G mL_law 10 0 0 n M 1074 [some (.ref 0), some (.ref 21), some (.ref 129), some (.int (nI (6 * k)))] [] Post := by
  obtain ⟨fs0, h20⟩ := x_inv_20 hi
  refine ev_aload_n (i := 1) dL_law_1074 rfl rfl ?_
  refine ev_aload_n (i := 0) dL_law_1075 rfl rfl ?_
  refine ev_iload_n (i := 3) dL_law_1076 rfl rfl ?_
  refine ev_iconst (v := 1) dL_law_1077 cni_1 ?_
  refine ev_iadd dL_law_1078 ?_
  refine ev_iaX (j := 6 * k + 1) dL_law_1079 (x_ix1 hL (by omega)) (by omega) ?_
  refine ev_d2 kL_law_1080 (hx G n M hsio hi) (ev_rv_of h20 rfl rfl) (by decide) (by decide) (Nat.le_of_ble_eq_true rfl) ?_
  rintro r M1 ⟨v, rfl, ⟨fs1, h129⟩, hm⟩
  refine ev_aload_n (i := 2) dL_law_1083 rfl rfl ?_
  refine ev_aload_n (i := 0) dL_law_1084 rfl rfl ?_
  refine ev_iload_n (i := 3) dL_law_1085 rfl rfl ?_
  refine ev_iconst (v := 1) dL_law_1086 cni_1 ?_
  refine ev_iadd dL_law_1087 ?_
  refine ev_iaX (j := 6 * k + 1) dL_law_1088 (x_ix1 hL (by omega)) (by omega) ?_
  refine ev_d2 kL_law_1089 (hm) (ev_rv_of h129 rfl rfl) (by decide) (by decide) (Nat.le_of_ble_eq_true rfl) ?_
  rintro r2 M2 ⟨rfl, hi2⟩
  refine ev_icmp_eq (tgt := 1213) dL_law_1092 (by decide) (fun h1092 => ?_) (fun h1092 => False.elim (h1092 rfl))
  exact K _ hi2
theorem xl_rate {G : ev_G} {n : Nat} {M : ev_M} {Post : Option Value → ev_M → Prop} {k : Nat} (hx : x_ok mX11_rate mX12_rate 9 6 [.int (ev_xs G (6 * k + 1)), .int (ev_xs G (6 * k + 2))]) (hsio : ev_hs G) (hi : x_inv M) (hk : 6 * k + 5 < ev_L G) (hL : ev_L G < 2 ^ 31)
    (K : ∀ M' : ev_M, x_inv M' → ev_E G mL_law 10 0 0 n M' 1213 [some (.ref 0), some (.ref 21), some (.ref 129), some (.int (nI (6 * k)))] [] Post) : ev_E G mL_law 10 0 0 n M 1097 [some (.ref 0), some (.ref 21), some (.ref 129), some (.int (nI (6 * k)))] [] Post := by
  obtain ⟨fs0, h20⟩ := x_inv_20 hi
  refine ev_aload_n (i := 1) dL_law_1097 rfl rfl ?_
  refine ev_aload_n (i := 0) dL_law_1098 rfl rfl ?_
  refine ev_iload_n (i := 3) dL_law_1099 rfl rfl ?_
  refine ev_iconst (v := 1) dL_law_1100 cni_1 ?_
  refine ev_iadd dL_law_1101 ?_
  refine ev_iaX (j := 6 * k + 1) dL_law_1102 (x_ix1 hL (by omega)) (by omega) ?_
  refine ev_aload_n (i := 0) dL_law_1103 rfl rfl ?_
  refine ev_iload_n (i := 3) dL_law_1104 rfl rfl ?_
  refine ev_iconst (v := 2) dL_law_1105 cni_2 ?_
  refine ev_iadd dL_law_1106 ?_
  refine ev_iaX (j := 6 * k + 2) dL_law_1107 (x_ix2 hL (by omega)) (by omega) ?_
  refine ev_d3 kL_law_1108 (hx G n M hsio hi) (ev_rv_of h20 rfl rfl) (by decide) (by decide) (Nat.le_of_ble_eq_true rfl) ?_
  rintro r M1 ⟨v, rfl, ⟨fs1, h129⟩, hm⟩
  refine ev_aload_n (i := 2) dL_law_1111 rfl rfl ?_
  refine ev_aload_n (i := 0) dL_law_1112 rfl rfl ?_
  refine ev_iload_n (i := 3) dL_law_1113 rfl rfl ?_
  refine ev_iconst (v := 1) dL_law_1114 cni_1 ?_
  refine ev_iadd dL_law_1115 ?_
  refine ev_iaX (j := 6 * k + 1) dL_law_1116 (x_ix1 hL (by omega)) (by omega) ?_
  refine ev_aload_n (i := 0) dL_law_1117 rfl rfl ?_
  refine ev_iload_n (i := 3) dL_law_1118 rfl rfl ?_
  refine ev_iconst (v := 2) dL_law_1119 cni_2 ?_
  refine ev_iadd dL_law_1120 ?_
  refine ev_iaX (j := 6 * k + 2) dL_law_1121 (x_ix2 hL (by omega)) (by omega) ?_
  refine ev_d3 kL_law_1122 (hm) (ev_rv_of h129 rfl rfl) (by decide) (by decide) (Nat.le_of_ble_eq_true rfl) ?_
  rintro r2 M2 ⟨rfl, hi2⟩
  refine ev_icmp_eq (tgt := 1213) dL_law_1125 (by decide) (fun h1125 => ?_) (fun h1125 => False.elim (h1125 rfl))
  exact K _ hi2
theorem xl_keep {G : ev_G} {n : Nat} {M : ev_M} {Post : Option Value → ev_M → Prop} {k : Nat} (hx : x_ok mX11_keep mX12_keep 3 2 [.int (ev_xs G (6 * k + 1))]) (hsio : ev_hs G) (hi : x_inv M) (hk : 6 * k + 5 < ev_L G) (hL : ev_L G < 2 ^ 31)
    (K : ∀ M' : ev_M, x_inv M' → ev_E G mL_law 10 0 0 n M' 1213 [some (.ref 0), some (.ref 21), some (.ref 129), some (.int (nI (6 * k)))] [] Post) : ev_E G mL_law 10 0 0 n M 1130 [some (.ref 0), some (.ref 21), some (.ref 129), some (.int (nI (6 * k)))] [] Post := by
  obtain ⟨fs0, h20⟩ := x_inv_20 hi
  refine ev_aload_n (i := 1) dL_law_1130 rfl rfl ?_
  refine ev_aload_n (i := 0) dL_law_1131 rfl rfl ?_
  refine ev_iload_n (i := 3) dL_law_1132 rfl rfl ?_
  refine ev_iconst (v := 1) dL_law_1133 cni_1 ?_
  refine ev_iadd dL_law_1134 ?_
  refine ev_iaX (j := 6 * k + 1) dL_law_1135 (x_ix1 hL (by omega)) (by omega) ?_
  refine ev_d2 kL_law_1136 (hx G n M hsio hi) (ev_rv_of h20 rfl rfl) (by decide) (by decide) (Nat.le_of_ble_eq_true rfl) ?_
  rintro r M1 ⟨v, rfl, ⟨fs1, h129⟩, hm⟩
  refine ev_aload_n (i := 2) dL_law_1139 rfl rfl ?_
  refine ev_aload_n (i := 0) dL_law_1140 rfl rfl ?_
  refine ev_iload_n (i := 3) dL_law_1141 rfl rfl ?_
  refine ev_iconst (v := 1) dL_law_1142 cni_1 ?_
  refine ev_iadd dL_law_1143 ?_
  refine ev_iaX (j := 6 * k + 1) dL_law_1144 (x_ix1 hL (by omega)) (by omega) ?_
  refine ev_d2 kL_law_1145 (hm) (ev_rv_of h129 rfl rfl) (by decide) (by decide) (Nat.le_of_ble_eq_true rfl) ?_
  rintro r2 M2 ⟨rfl, hi2⟩
  refine ev_icmp_eq (tgt := 1213) dL_law_1148 (by decide) (fun h1148 => ?_) (fun h1148 => False.elim (h1148 rfl))
  exact K _ hi2
theorem xl_back {G : ev_G} {n : Nat} {M : ev_M} {Post : Option Value → ev_M → Prop} {k : Nat} (hx : x_ok mX11_back mX12_back 3 2 [.int (ev_xs G (6 * k + 1))]) (hsio : ev_hs G) (hi : x_inv M) (hk : 6 * k + 5 < ev_L G) (hL : ev_L G < 2 ^ 31)
    (K : ∀ M' : ev_M, x_inv M' → ev_E G mL_law 10 0 0 n M' 1213 [some (.ref 0), some (.ref 21), some (.ref 129), some (.int (nI (6 * k)))] [] Post) : ev_E G mL_law 10 0 0 n M 1153 [some (.ref 0), some (.ref 21), some (.ref 129), some (.int (nI (6 * k)))] [] Post := by
  obtain ⟨fs0, h20⟩ := x_inv_20 hi
  refine ev_aload_n (i := 1) dL_law_1153 rfl rfl ?_
  refine ev_aload_n (i := 0) dL_law_1154 rfl rfl ?_
  refine ev_iload_n (i := 3) dL_law_1155 rfl rfl ?_
  refine ev_iconst (v := 1) dL_law_1156 cni_1 ?_
  refine ev_iadd dL_law_1157 ?_
  refine ev_iaX (j := 6 * k + 1) dL_law_1158 (x_ix1 hL (by omega)) (by omega) ?_
  refine ev_d2 kL_law_1159 (hx G n M hsio hi) (ev_rv_of h20 rfl rfl) (by decide) (by decide) (Nat.le_of_ble_eq_true rfl) ?_
  rintro r M1 ⟨v, rfl, ⟨fs1, h129⟩, hm⟩
  refine ev_aload_n (i := 2) dL_law_1162 rfl rfl ?_
  refine ev_aload_n (i := 0) dL_law_1163 rfl rfl ?_
  refine ev_iload_n (i := 3) dL_law_1164 rfl rfl ?_
  refine ev_iconst (v := 1) dL_law_1165 cni_1 ?_
  refine ev_iadd dL_law_1166 ?_
  refine ev_iaX (j := 6 * k + 1) dL_law_1167 (x_ix1 hL (by omega)) (by omega) ?_
  refine ev_d2 kL_law_1168 (hm) (ev_rv_of h129 rfl rfl) (by decide) (by decide) (Nat.le_of_ble_eq_true rfl) ?_
  rintro r2 M2 ⟨rfl, hi2⟩
  refine ev_icmp_eq (tgt := 1213) dL_law_1171 (by decide) (fun h1171 => ?_) (fun h1171 => False.elim (h1171 rfl))
  exact K _ hi2
theorem xl_count {G : ev_G} {n : Nat} {M : ev_M} {Post : Option Value → ev_M → Prop} {k : Nat} (hx : x_ok mX11_count mX12_count 1 1 [.int (ev_xs G (6 * k + 1))]) (hsio : ev_hs G) (hi : x_inv M) (hk : 6 * k + 5 < ev_L G) (hL : ev_L G < 2 ^ 31)
    (K : ∀ M' : ev_M, x_inv M' → ev_E G mL_law 10 0 0 n M' 1213 [some (.ref 0), some (.ref 21), some (.ref 129), some (.int (nI (6 * k)))] [] Post) : ev_E G mL_law 10 0 0 n M 1176 [some (.ref 0), some (.ref 21), some (.ref 129), some (.int (nI (6 * k)))] [] Post := by
  obtain ⟨fs0, h20⟩ := x_inv_20 hi
  refine ev_aload_n (i := 1) dL_law_1176 rfl rfl ?_
  refine ev_aload_n (i := 0) dL_law_1177 rfl rfl ?_
  refine ev_iload_n (i := 3) dL_law_1178 rfl rfl ?_
  refine ev_iconst (v := 1) dL_law_1179 cni_1 ?_
  refine ev_iadd dL_law_1180 ?_
  refine ev_iaX (j := 6 * k + 1) dL_law_1181 (x_ix1 hL (by omega)) (by omega) ?_
  refine ev_d2 kL_law_1182 (hx G n M hsio hi) (ev_rv_of h20 rfl rfl) (by decide) (by decide) (Nat.le_of_ble_eq_true rfl) ?_
  rintro r M1 ⟨v, rfl, ⟨fs1, h129⟩, hm⟩
  refine ev_aload_n (i := 2) dL_law_1185 rfl rfl ?_
  refine ev_aload_n (i := 0) dL_law_1186 rfl rfl ?_
  refine ev_iload_n (i := 3) dL_law_1187 rfl rfl ?_
  refine ev_iconst (v := 1) dL_law_1188 cni_1 ?_
  refine ev_iadd dL_law_1189 ?_
  refine ev_iaX (j := 6 * k + 1) dL_law_1190 (x_ix1 hL (by omega)) (by omega) ?_
  refine ev_d2 kL_law_1191 (hm) (ev_rv_of h129 rfl rfl) (by decide) (by decide) (Nat.le_of_ble_eq_true rfl) ?_
  rintro r2 M2 ⟨rfl, hi2⟩
  refine ev_icmp_eq (tgt := 1213) dL_law_1194 (by decide) (fun h1194 => ?_) (fun h1194 => False.elim (h1194 rfl))
  exact K _ hi2
theorem x_lcmp (v : Int64) : lg_cmp v v = 0 := by unfold lg_cmp; rw [if_neg (fun h => Int64.lt_irrefl h), if_pos rfl]
theorem xl_trace {G : ev_G} {n : Nat} {M : ev_M} {Post : Option Value → ev_M → Prop} {k : Nat} (hx : x_okl mX11_trace mX12_trace 1 1 []) (hsio : ev_hs G) (hi : x_inv M) (hk : 6 * k + 5 < ev_L G) (hL : ev_L G < 2 ^ 31)
    (K : ∀ M' : ev_M, x_inv M' → ev_E G mL_law 10 0 0 n M' 1213 [some (.ref 0), some (.ref 21), some (.ref 129), some (.int (nI (6 * k)))] [] Post) : ev_E G mL_law 10 0 0 n M 1199 [some (.ref 0), some (.ref 21), some (.ref 129), some (.int (nI (6 * k)))] [] Post := by
  obtain ⟨fs0, h20⟩ := x_inv_20 hi
  refine ev_aload_n (i := 1) dL_law_1199 rfl rfl ?_
  refine ev_d1 kL_law_1200 (hx G n M hsio hi) (ev_rv_of h20 rfl rfl) (by decide) (by decide) (Nat.le_of_ble_eq_true rfl) ?_
  rintro r M1 ⟨v, rfl, ⟨fs1, h129⟩, hm⟩
  refine ev_aload_n (i := 2) dL_law_1203 rfl rfl ?_
  refine ev_d1 kL_law_1204 (hm) (ev_rv_of h129 rfl rfl) (by decide) (by decide) (Nat.le_of_ble_eq_true rfl) ?_
  rintro r2 M2 ⟨rfl, hi2⟩
  refine ev_lcmp dL_law_1207 ?_
  refine ev_if_eq (tgt := 1213) dL_law_1208 (by decide) (fun h1208 => ?_) (fun h1208 => False.elim (h1208 (x_lcmp _)))
  exact K _ hi2
theorem x_len {L : Nat} (h : L < 2 ^ 31) : (Int32.ofNat L).toInt = L := nI_toInt h
theorem x_nI {j : Nat} (h : j < 2 ^ 31) : (nI j).toInt = j := nI_toInt h
theorem x_sub6 {L : Nat} (h : L < 2 ^ 31) : (Int32.ofNat L - 6).toInt = (L : Int) - 6 := by
  rw [Int32.toInt_sub, x_len h, show (6 : Int32).toInt = 6 from rfl, Int.bmod_eq_of_le (by omega) (by omega)]
theorem x_head {G : ev_G} {k : Nat} (hL : ev_L G < 2 ^ 31) (hk : 6 * k + 5 < ev_L G) (h : nI (6 * k) > Int32.ofNat (ev_L G) - 6) : False := by
  have h1 := Int32.lt_iff_toInt_lt.mp h
  rw [x_sub6 hL, x_nI (by omega)] at h1
  omega
theorem x_headE {G : ev_G} {k : Nat} (hL : ev_L G < 2 ^ 31) (hk : ev_L G ≤ 6 * k + 5) (hk6 : 6 * k ≤ ev_L G) : nI (6 * k) > Int32.ofNat (ev_L G) - 6 := by
  refine Int32.lt_iff_toInt_lt.mpr ?_
  rw [x_sub6 hL, x_nI (by omega)]
  omega
theorem x_inc (k : Nat) : nI (6 * k) + 6 = nI (6 * (k + 1)) := (nI_addE (6 * k) 6).trans (by rw [show 6 * k + 6 = 6 * (k + 1) by omega])
theorem xl_end {G : ev_G} {n : Nat} {M : ev_M} {Post : Option Value → ev_M → Prop} {k : Nat} (hL : ev_L G < 2 ^ 31) (hk : ev_L G ≤ 6 * k + 5) (hk6 : 6 * k ≤ ev_L G) (hP : ∀ M, Post (some (.int 1)) M) : ev_E G mL_law 10 0 0 n M 18 [some (.ref 0), some (.ref 21), some (.ref 129), some (.int (nI (6 * k)))] [] Post := by
  refine ev_iload_n (i := 3) dL_law_18 rfl rfl ?_
  refine ev_aload_n (i := 0) dL_law_19 rfl rfl ?_
  refine ev_alX dL_law_20 ?_
  refine ev_bipush (v := 6) dL_law_21 cnb_6 ?_
  refine ev_isub dL_law_23 ?_
  refine ev_icmp_gt (tgt := 1219) dL_law_24 (by decide) (fun h24 => ?_) (fun h24 => False.elim (Int32.not_le.mpr (x_headE hL hk hk6) h24))
  refine ev_iconst (v := 1) dL_law_1219 cni_1 ?_
  exact ev_retz (q := true) dL_law_1220 rfl (hP _)
theorem xl_inc {G : ev_G} {n : Nat} {M : ev_M} {Post : Option Value → ev_M → Prop} {k : Nat} (K : ev_E G mL_law 10 0 0 n M 18 [some (.ref 0), some (.ref 21), some (.ref 129), some (.int (nI (6 * (k + 1))))] [] Post) : ev_E G mL_law 10 0 0 n M 1213 [some (.ref 0), some (.ref 21), some (.ref 129), some (.int (nI (6 * k)))] [] Post := by
  refine ev_iinc (v := nI (6 * (k + 1))) dL_law_1213 rfl (x_inc k) (Nat.le_of_ble_eq_true rfl) rfl ?_
  refine ev_goto (tgt := 18) dL_law_1216 (by decide) ?_
  exact K
theorem xl_head {G : ev_G} {n : Nat} {M : ev_M} {Post : Option Value → ev_M → Prop} {k : Nat} (hL : ev_L G < 2 ^ 31) (hk : 6 * k + 5 < ev_L G) (Z : ev_E G mL_law 10 0 0 n M 33 [some (.ref 0), some (.ref 21), some (.ref 129), some (.int (nI (6 * k)))] [.int (ev_xs G (6 * k) &&& 31)] Post) : ev_E G mL_law 10 0 0 n M 18 [some (.ref 0), some (.ref 21), some (.ref 129), some (.int (nI (6 * k)))] [] Post := by
  refine ev_iload_n (i := 3) dL_law_18 rfl rfl ?_
  refine ev_aload_n (i := 0) dL_law_19 rfl rfl ?_
  refine ev_alX dL_law_20 ?_
  refine ev_bipush (v := 6) dL_law_21 cnb_6 ?_
  refine ev_isub dL_law_23 ?_
  refine ev_icmp_gt (tgt := 1219) dL_law_24 (by decide) (fun h24 => False.elim (x_head hL hk h24)) (fun h24 => ?_)
  refine ev_aload_n (i := 0) dL_law_27 rfl rfl ?_
  refine ev_iload_n (i := 3) dL_law_28 rfl rfl ?_
  refine ev_iaX (j := 6 * k) dL_law_29 (ev_ix_nI (by omega)) (by omega) ?_
  refine ev_bipush (v := 31) dL_law_30 cnb_31 ?_
  refine ev_iand dL_law_32 ?_
  exact Z
theorem x_31 (v : Int32) : ∃ j : Nat, j < 32 ∧ v &&& 31 = nI j := by
  refine ⟨(v &&& 31).toBitVec.toNat, ?_, ?_⟩
  · have : (v &&& 31).toBitVec.toNat = v.toBitVec.toNat &&& 31 := by rw [Int32.toBitVec_and, BitVec.toNat_and]; rfl
    rw [this, show (31 : Nat) = 2 ^ 5 - 1 from rfl, Nat.and_two_pow_sub_one_eq_mod]
    exact Nat.mod_lt _ (by decide)
  · apply Int32.toBitVec_inj.mp
    apply BitVec.eq_of_toNat_eq
    show _ = (BitVec.ofNat 32 _).toNat
    rw [BitVec.toNat_ofNat, Nat.mod_eq_of_lt (BitVec.isLt _)]
theorem xl_step {G : ev_G} {n : Nat} {M : ev_M} {Post : Option Value → ev_M → Prop} {k : Nat} (H0 : ∀ (v : Int64) (k : Int32), x_ok mX11_type mX12_type 2 2 [.long v, .int k]) (H1 : x_ok mX11_clear mX12_clear 2 1 []) (H2 : x_ok mX11_arrows mX12_arrows 9 8 []) (H3 : ∀ (a1 : Int32) (a2 : Int32), x_ok mX11_stick mX12_stick 2 3 [.int a1, .int a2]) (H4 : ∀ (a1 : Int32) (a2 : Int32), x_ok mX11_bow mX12_bow 3 3 [.int a1, .int a2]) (H5 : ∀ (a1 : Int32) (a2 : Int32), x_ok mX11_archer mX12_archer 2 2 [.int a1, .int a2]) (H6 : ∀ (a1 : Int32) (a2 : Int32), x_ok mX11_tune mX12_tune 3 2 [.int a1, .int a2]) (H7 : ∀ (a1 : Int32), x_ok mX11_cut mX12_cut 2 3 [.int a1]) (H8 : ∀ (a1 : Int32), x_ok mX11_scrape mX12_scrape 2 3 [.int a1]) (H9 : ∀ (a1 : Int32), x_ok mX11_load mX12_load 2 3 [.int a1]) (H10 : ∀ (a1 : Int32), x_ok mX11_turn mX12_turn 2 3 [.int a1]) (H11 : ∀ (a1 : Int32) (a2 : Int32) (a3 : Int32) (a4 : Int32) (a5 : Int32), x_ok mX11_least mX12_least 4 5 [.int a1, .int a2, .int a3, .int a4, .int a5]) (H12 : ∀ (a1 : Int32) (a2 : Int32) (a3 : Int32), x_ok mX11_flight mX12_flight 6 6 [.int a1, .int a2, .int a3]) (H13 : ∀ (a1 : Int32) (a2 : Int32) (a3 : Int32) (a4 : Int32), x_ok mX11_band mX12_band 3 3 [.int a1, .int a2, .int a3, .int a4]) (H14 : ∀ (a1 : Int32) (a2 : Int32) (a3 : Int32), x_ok mX11_says mX12_says 5 4 [.int a1, .int a2, .int a3]) (H15 : ∀ (a1 : Int32) (a2 : Int32) (a3 : Int32) (a4 : Int32), x_ok mX11_alike mX12_alike 7 6 [.int a1, .int a2, .int a3, .int a4]) (H16 : ∀ (a1 : Int32) (a2 : Int32) (a3 : Int32), x_ok mX11_turned mX12_turned 7 6 [.int a1, .int a2, .int a3]) (H17 : ∀ (a1 : Int32) (a2 : Int32) (a3 : Int32), x_ok mX11_wreck mX12_wreck 5 5 [.int a1, .int a2, .int a3]) (H18 : ∀ (a1 : Int32) (a2 : Int32) (a3 : Int32), x_ok mX11_feather mX12_feather 6 5 [.int a1, .int a2, .int a3]) (H19 : ∀ (a1 : Int32) (a2 : Int32) (a3 : Int32), x_ok mX11_warm mX12_warm 5 6 [.int a1, .int a2, .int a3]) (H20 : ∀ (a1 : Int32) (a2 : Int32) (a3 : Int32), x_ok mX11_shoot mX12_shoot 6 6 [.int a1, .int a2, .int a3]) (H21 : ∀ (a1 : Int32) (a2 : Int32), x_ok mX11_shot mX12_shot 2 2 [.int a1, .int a2]) (H22 : x_ok mX11_wipe mX12_wipe 2 1 []) (H23 : x_ok mX11_parted mX12_parted 5 4 []) (H24 : ∀ (a1 : Int32), x_ok mX11_spread mX12_spread 2 3 [.int a1]) (H25 : ∀ (a1 : Int32) (a2 : Int32), x_ok mX11_out mX12_out 2 3 [.int a1, .int a2]) (H26 : ∀ (a1 : Int32), x_ok mX11_lot mX12_lot 1 1 [.int a1]) (H27 : ∀ (a1 : Int32) (a2 : Int32), x_ok mX11_rate mX12_rate 9 6 [.int a1, .int a2]) (H28 : ∀ (a1 : Int32), x_ok mX11_keep mX12_keep 3 2 [.int a1]) (H29 : ∀ (a1 : Int32), x_ok mX11_back mX12_back 3 2 [.int a1]) (H30 : ∀ (a1 : Int32), x_ok mX11_count mX12_count 1 1 [.int a1]) (H31 : x_okl mX11_trace mX12_trace 1 1 []) (hsio : ev_hs G) (hi : x_inv M) (hk : 6 * k + 5 < ev_L G) (hL : ev_L G < 2 ^ 31) (step : ∀ M' : ev_M, x_inv M' → ev_E G mL_law 10 0 0 n M' 1213 [some (.ref 0), some (.ref 21), some (.ref 129), some (.int (nI (6 * k)))] [] Post) : ev_E G mL_law 10 0 0 n M 18 [some (.ref 0), some (.ref 21), some (.ref 129), some (.int (nI (6 * k)))] [] Post := by
  refine xl_head hL hk ?_
  obtain ⟨j, hj, e⟩ := x_31 (ev_xs G (6 * k))
  rw [e]
  rcases j with _ | _ | _ | _ | _ | _ | _ | _ | _ | _ | _ | _ | _ | _ | _ | _ | _ | _ | _ | _ | _ | _ | _ | _ | _ | _ | _ | _ | _ | _ | _ | _ | j
  · refine ev_tsin (off := 143) (tgt := 176) dL_law_33 (by decide) (by decide) (by rfl) (by decide) ?_
    exact xl_type (H0 _ _) hsio hi hk hL (fun M' hi' => step M' hi')
  · refine ev_tsin (off := 206) (tgt := 239) dL_law_33 (by decide) (by decide) (by rfl) (by decide) ?_
    exact xl_clear H1 hsio hi hk hL (fun M' hi' => step M' hi')
  · refine ev_tsin (off := 219) (tgt := 252) dL_law_33 (by decide) (by decide) (by rfl) (by decide) ?_
    exact xl_arrows H2 hsio hi hk hL (fun M' hi' => step M' hi')
  · refine ev_tsin (off := 232) (tgt := 265) dL_law_33 (by decide) (by decide) (by rfl) (by decide) ?_
    exact xl_stick (H3 _ _) hsio hi hk hL (fun M' hi' => step M' hi')
  · refine ev_tsin (off := 265) (tgt := 298) dL_law_33 (by decide) (by decide) (by rfl) (by decide) ?_
    exact xl_bow (H4 _ _) hsio hi hk hL (fun M' hi' => step M' hi')
  · refine ev_tsin (off := 298) (tgt := 331) dL_law_33 (by decide) (by decide) (by rfl) (by decide) ?_
    exact xl_archer (H5 _ _) hsio hi hk hL (fun M' hi' => step M' hi')
  · refine ev_tsin (off := 331) (tgt := 364) dL_law_33 (by decide) (by decide) (by rfl) (by decide) ?_
    exact xl_tune (H6 _ _) hsio hi hk hL (fun M' hi' => step M' hi')
  · refine ev_tsin (off := 364) (tgt := 397) dL_law_33 (by decide) (by decide) (by rfl) (by decide) ?_
    exact xl_cut (H7 _) hsio hi hk hL (fun M' hi' => step M' hi')
  · refine ev_tsin (off := 387) (tgt := 420) dL_law_33 (by decide) (by decide) (by rfl) (by decide) ?_
    exact xl_scrape (H8 _) hsio hi hk hL (fun M' hi' => step M' hi')
  · refine ev_tsin (off := 410) (tgt := 443) dL_law_33 (by decide) (by decide) (by rfl) (by decide) ?_
    exact xl_load (H9 _) hsio hi hk hL (fun M' hi' => step M' hi')
  · refine ev_tsin (off := 433) (tgt := 466) dL_law_33 (by decide) (by decide) (by rfl) (by decide) ?_
    exact xl_turn (H10 _) hsio hi hk hL (fun M' hi' => step M' hi')
  · refine ev_tsin (off := 456) (tgt := 489) dL_law_33 (by decide) (by decide) (by rfl) (by decide) ?_
    exact xl_least (H11 _ _ _ _ _) hsio hi hk hL (fun M' hi' => step M' hi')
  · refine ev_tsin (off := 519) (tgt := 552) dL_law_33 (by decide) (by decide) (by rfl) (by decide) ?_
    exact xl_flight (H12 _ _ _) hsio hi hk hL (fun M' hi' => step M' hi')
  · refine ev_tsin (off := 562) (tgt := 595) dL_law_33 (by decide) (by decide) (by rfl) (by decide) ?_
    exact xl_band (H13 _ _ _ _) hsio hi hk hL (fun M' hi' => step M' hi')
  · refine ev_tsin (off := 615) (tgt := 648) dL_law_33 (by decide) (by decide) (by rfl) (by decide) ?_
    exact xl_says (H14 _ _ _) hsio hi hk hL (fun M' hi' => step M' hi')
  · refine ev_tsin (off := 658) (tgt := 691) dL_law_33 (by decide) (by decide) (by rfl) (by decide) ?_
    exact xl_alike (H15 _ _ _ _) hsio hi hk hL (fun M' hi' => step M' hi')
  · refine ev_tsin (off := 711) (tgt := 744) dL_law_33 (by decide) (by decide) (by rfl) (by decide) ?_
    exact xl_turned (H16 _ _ _) hsio hi hk hL (fun M' hi' => step M' hi')
  · refine ev_tsin (off := 754) (tgt := 787) dL_law_33 (by decide) (by decide) (by rfl) (by decide) ?_
    exact xl_wreck (H17 _ _ _) hsio hi hk hL (fun M' hi' => step M' hi')
  · refine ev_tsin (off := 797) (tgt := 830) dL_law_33 (by decide) (by decide) (by rfl) (by decide) ?_
    exact xl_feather (H18 _ _ _) hsio hi hk hL (fun M' hi' => step M' hi')
  · refine ev_tsin (off := 840) (tgt := 873) dL_law_33 (by decide) (by decide) (by rfl) (by decide) ?_
    exact xl_warm (H19 _ _ _) hsio hi hk hL (fun M' hi' => step M' hi')
  · refine ev_tsin (off := 883) (tgt := 916) dL_law_33 (by decide) (by decide) (by rfl) (by decide) ?_
    exact xl_shoot (H20 _ _ _) hsio hi hk hL (fun M' hi' => step M' hi')
  · refine ev_tsin (off := 926) (tgt := 959) dL_law_33 (by decide) (by decide) (by rfl) (by decide) ?_
    exact xl_shot (H21 _ _) hsio hi hk hL (fun M' hi' => step M' hi')
  · refine ev_tsin (off := 959) (tgt := 992) dL_law_33 (by decide) (by decide) (by rfl) (by decide) ?_
    exact xl_wipe H22 hsio hi hk hL (fun M' hi' => step M' hi')
  · refine ev_tsin (off := 972) (tgt := 1005) dL_law_33 (by decide) (by decide) (by rfl) (by decide) ?_
    exact xl_parted H23 hsio hi hk hL (fun M' hi' => step M' hi')
  · refine ev_tsin (off := 985) (tgt := 1018) dL_law_33 (by decide) (by decide) (by rfl) (by decide) ?_
    exact xl_spread (H24 _) hsio hi hk hL (fun M' hi' => step M' hi')
  · refine ev_tsin (off := 1008) (tgt := 1041) dL_law_33 (by decide) (by decide) (by rfl) (by decide) ?_
    exact xl_out (H25 _ _) hsio hi hk hL (fun M' hi' => step M' hi')
  · refine ev_tsin (off := 1041) (tgt := 1074) dL_law_33 (by decide) (by decide) (by rfl) (by decide) ?_
    exact xl_lot (H26 _) hsio hi hk hL (fun M' hi' => step M' hi')
  · refine ev_tsin (off := 1064) (tgt := 1097) dL_law_33 (by decide) (by decide) (by rfl) (by decide) ?_
    exact xl_rate (H27 _ _) hsio hi hk hL (fun M' hi' => step M' hi')
  · refine ev_tsin (off := 1097) (tgt := 1130) dL_law_33 (by decide) (by decide) (by rfl) (by decide) ?_
    exact xl_keep (H28 _) hsio hi hk hL (fun M' hi' => step M' hi')
  · refine ev_tsin (off := 1120) (tgt := 1153) dL_law_33 (by decide) (by decide) (by rfl) (by decide) ?_
    exact xl_back (H29 _) hsio hi hk hL (fun M' hi' => step M' hi')
  · refine ev_tsin (off := 1143) (tgt := 1176) dL_law_33 (by decide) (by decide) (by rfl) (by decide) ?_
    exact xl_count (H30 _) hsio hi hk hL (fun M' hi' => step M' hi')
  · refine ev_tsin (off := 1166) (tgt := 1199) dL_law_33 (by decide) (by decide) (by rfl) (by decide) ?_
    exact xl_trace H31 hsio hi hk hL (fun M' hi' => step M' hi')
  · omega
theorem xl_loop {G : ev_G} {n : Nat} {Post : Option Value → ev_M → Prop} (H0 : ∀ (v : Int64) (k : Int32), x_ok mX11_type mX12_type 2 2 [.long v, .int k]) (H1 : x_ok mX11_clear mX12_clear 2 1 []) (H2 : x_ok mX11_arrows mX12_arrows 9 8 []) (H3 : ∀ (a1 : Int32) (a2 : Int32), x_ok mX11_stick mX12_stick 2 3 [.int a1, .int a2]) (H4 : ∀ (a1 : Int32) (a2 : Int32), x_ok mX11_bow mX12_bow 3 3 [.int a1, .int a2]) (H5 : ∀ (a1 : Int32) (a2 : Int32), x_ok mX11_archer mX12_archer 2 2 [.int a1, .int a2]) (H6 : ∀ (a1 : Int32) (a2 : Int32), x_ok mX11_tune mX12_tune 3 2 [.int a1, .int a2]) (H7 : ∀ (a1 : Int32), x_ok mX11_cut mX12_cut 2 3 [.int a1]) (H8 : ∀ (a1 : Int32), x_ok mX11_scrape mX12_scrape 2 3 [.int a1]) (H9 : ∀ (a1 : Int32), x_ok mX11_load mX12_load 2 3 [.int a1]) (H10 : ∀ (a1 : Int32), x_ok mX11_turn mX12_turn 2 3 [.int a1]) (H11 : ∀ (a1 : Int32) (a2 : Int32) (a3 : Int32) (a4 : Int32) (a5 : Int32), x_ok mX11_least mX12_least 4 5 [.int a1, .int a2, .int a3, .int a4, .int a5]) (H12 : ∀ (a1 : Int32) (a2 : Int32) (a3 : Int32), x_ok mX11_flight mX12_flight 6 6 [.int a1, .int a2, .int a3]) (H13 : ∀ (a1 : Int32) (a2 : Int32) (a3 : Int32) (a4 : Int32), x_ok mX11_band mX12_band 3 3 [.int a1, .int a2, .int a3, .int a4]) (H14 : ∀ (a1 : Int32) (a2 : Int32) (a3 : Int32), x_ok mX11_says mX12_says 5 4 [.int a1, .int a2, .int a3]) (H15 : ∀ (a1 : Int32) (a2 : Int32) (a3 : Int32) (a4 : Int32), x_ok mX11_alike mX12_alike 7 6 [.int a1, .int a2, .int a3, .int a4]) (H16 : ∀ (a1 : Int32) (a2 : Int32) (a3 : Int32), x_ok mX11_turned mX12_turned 7 6 [.int a1, .int a2, .int a3]) (H17 : ∀ (a1 : Int32) (a2 : Int32) (a3 : Int32), x_ok mX11_wreck mX12_wreck 5 5 [.int a1, .int a2, .int a3]) (H18 : ∀ (a1 : Int32) (a2 : Int32) (a3 : Int32), x_ok mX11_feather mX12_feather 6 5 [.int a1, .int a2, .int a3]) (H19 : ∀ (a1 : Int32) (a2 : Int32) (a3 : Int32), x_ok mX11_warm mX12_warm 5 6 [.int a1, .int a2, .int a3]) (H20 : ∀ (a1 : Int32) (a2 : Int32) (a3 : Int32), x_ok mX11_shoot mX12_shoot 6 6 [.int a1, .int a2, .int a3]) (H21 : ∀ (a1 : Int32) (a2 : Int32), x_ok mX11_shot mX12_shot 2 2 [.int a1, .int a2]) (H22 : x_ok mX11_wipe mX12_wipe 2 1 []) (H23 : x_ok mX11_parted mX12_parted 5 4 []) (H24 : ∀ (a1 : Int32), x_ok mX11_spread mX12_spread 2 3 [.int a1]) (H25 : ∀ (a1 : Int32) (a2 : Int32), x_ok mX11_out mX12_out 2 3 [.int a1, .int a2]) (H26 : ∀ (a1 : Int32), x_ok mX11_lot mX12_lot 1 1 [.int a1]) (H27 : ∀ (a1 : Int32) (a2 : Int32), x_ok mX11_rate mX12_rate 9 6 [.int a1, .int a2]) (H28 : ∀ (a1 : Int32), x_ok mX11_keep mX12_keep 3 2 [.int a1]) (H29 : ∀ (a1 : Int32), x_ok mX11_back mX12_back 3 2 [.int a1]) (H30 : ∀ (a1 : Int32), x_ok mX11_count mX12_count 1 1 [.int a1]) (H31 : x_okl mX11_trace mX12_trace 1 1 []) (hsio : ev_hs G) (hL : ev_L G < 2 ^ 31) (hP : ∀ M, Post (some (.int 1)) M) : ∀ (d k : Nat) (M : ev_M), ev_L G < 6 * (k + d) → 6 * k ≤ ev_L G → x_inv M → ev_E G mL_law 10 0 0 n M 18 [some (.ref 0), some (.ref 21), some (.ref 129), some (.int (nI (6 * k)))] [] Post := by
  intro d
  induction d with
  | zero => intro k M h1 h2; omega
  | succ d ih =>
    intro k M h1 hk6 hi
    by_cases hk : 6 * k + 5 < ev_L G
    · exact xl_step H0 H1 H2 H3 H4 H5 H6 H7 H8 H9 H10 H11 H12 H13 H14 H15 H16 H17 H18 H19 H20 H21 H22 H23 H24 H25 H26 H27 H28 H29 H30 H31 hsio hi hk hL (fun M' hi' => xl_inc (ih (k + 1) M' (by omega) (by omega) hi'))
    · have hk : ev_L G ≤ 6 * k + 5 := Nat.le_of_not_lt hk
      exact xl_end hL hk hk6 hP
theorem st_R0 : st_R 0 0 0 0 0 (fun _ => 0) i0_s (fun _ => 0) (fun _ => 0) (fun _ => 0) i0_tu false false :=
  ⟨⟨Nat.zero_le _, fun k h => absurd h (Nat.not_lt_zero k)⟩, ⟨Nat.zero_le _, fun k h => absurd h (Nat.not_lt_zero k)⟩, ⟨Nat.zero_le _, fun k h => absurd h (Nat.not_lt_zero k)⟩, ⟨Nat.zero_le _, fun k h => absurd h (Nat.not_lt_zero k)⟩, by decide, ⟨Nat.zero_le _, fun k h => absurd h (Nat.not_lt_zero k)⟩, fun h => (Bool.false_ne_true h).elim, fun h => (Bool.false_ne_true h).elim⟩
theorem xl_law {G : ev_G} (H0 : ∀ (v : Int64) (k : Int32), x_ok mX11_type mX12_type 2 2 [.long v, .int k]) (H1 : x_ok mX11_clear mX12_clear 2 1 []) (H2 : x_ok mX11_arrows mX12_arrows 9 8 []) (H3 : ∀ (a1 : Int32) (a2 : Int32), x_ok mX11_stick mX12_stick 2 3 [.int a1, .int a2]) (H4 : ∀ (a1 : Int32) (a2 : Int32), x_ok mX11_bow mX12_bow 3 3 [.int a1, .int a2]) (H5 : ∀ (a1 : Int32) (a2 : Int32), x_ok mX11_archer mX12_archer 2 2 [.int a1, .int a2]) (H6 : ∀ (a1 : Int32) (a2 : Int32), x_ok mX11_tune mX12_tune 3 2 [.int a1, .int a2]) (H7 : ∀ (a1 : Int32), x_ok mX11_cut mX12_cut 2 3 [.int a1]) (H8 : ∀ (a1 : Int32), x_ok mX11_scrape mX12_scrape 2 3 [.int a1]) (H9 : ∀ (a1 : Int32), x_ok mX11_load mX12_load 2 3 [.int a1]) (H10 : ∀ (a1 : Int32), x_ok mX11_turn mX12_turn 2 3 [.int a1]) (H11 : ∀ (a1 : Int32) (a2 : Int32) (a3 : Int32) (a4 : Int32) (a5 : Int32), x_ok mX11_least mX12_least 4 5 [.int a1, .int a2, .int a3, .int a4, .int a5]) (H12 : ∀ (a1 : Int32) (a2 : Int32) (a3 : Int32), x_ok mX11_flight mX12_flight 6 6 [.int a1, .int a2, .int a3]) (H13 : ∀ (a1 : Int32) (a2 : Int32) (a3 : Int32) (a4 : Int32), x_ok mX11_band mX12_band 3 3 [.int a1, .int a2, .int a3, .int a4]) (H14 : ∀ (a1 : Int32) (a2 : Int32) (a3 : Int32), x_ok mX11_says mX12_says 5 4 [.int a1, .int a2, .int a3]) (H15 : ∀ (a1 : Int32) (a2 : Int32) (a3 : Int32) (a4 : Int32), x_ok mX11_alike mX12_alike 7 6 [.int a1, .int a2, .int a3, .int a4]) (H16 : ∀ (a1 : Int32) (a2 : Int32) (a3 : Int32), x_ok mX11_turned mX12_turned 7 6 [.int a1, .int a2, .int a3]) (H17 : ∀ (a1 : Int32) (a2 : Int32) (a3 : Int32), x_ok mX11_wreck mX12_wreck 5 5 [.int a1, .int a2, .int a3]) (H18 : ∀ (a1 : Int32) (a2 : Int32) (a3 : Int32), x_ok mX11_feather mX12_feather 6 5 [.int a1, .int a2, .int a3]) (H19 : ∀ (a1 : Int32) (a2 : Int32) (a3 : Int32), x_ok mX11_warm mX12_warm 5 6 [.int a1, .int a2, .int a3]) (H20 : ∀ (a1 : Int32) (a2 : Int32) (a3 : Int32), x_ok mX11_shoot mX12_shoot 6 6 [.int a1, .int a2, .int a3]) (H21 : ∀ (a1 : Int32) (a2 : Int32), x_ok mX11_shot mX12_shot 2 2 [.int a1, .int a2]) (H22 : x_ok mX11_wipe mX12_wipe 2 1 []) (H23 : x_ok mX11_parted mX12_parted 5 4 []) (H24 : ∀ (a1 : Int32), x_ok mX11_spread mX12_spread 2 3 [.int a1]) (H25 : ∀ (a1 : Int32) (a2 : Int32), x_ok mX11_out mX12_out 2 3 [.int a1, .int a2]) (H26 : ∀ (a1 : Int32), x_ok mX11_lot mX12_lot 1 1 [.int a1]) (H27 : ∀ (a1 : Int32) (a2 : Int32), x_ok mX11_rate mX12_rate 9 6 [.int a1, .int a2]) (H28 : ∀ (a1 : Int32), x_ok mX11_keep mX12_keep 3 2 [.int a1]) (H29 : ∀ (a1 : Int32), x_ok mX11_back mX12_back 3 2 [.int a1]) (H30 : ∀ (a1 : Int32), x_ok mX11_count mX12_count 1 1 [.int a1]) (H31 : x_okl mX11_trace mX12_trace 1 1 []) (hsio : ev_hs G) (hL : ev_L G < 2 ^ 31) : ev_E G mL_law 10 123 3672 0 (fun _ => ev_junk) 0 [some (.ref 0), none, none, none] [] (fun r _ => r = some (.int 1)) := by
  refine ev_newA (b := 21) (rc' := 122) (ru' := 3661) rfl dL_law_0 nwL_7 rfl rfl ?_
  refine ev_dup dL_law_3 rfl ?_
  refine ev_call (f := 10) (n := 1) (as := [.ref 21]) (rst := [.ref 21]) (rc2 := 15) (ru2 := 1756) kL_law_4 (c12_init ev_set_eq) (ev_rv_of ev_set_eq rfl rfl) (by decide) (by decide) rfl (Nat.le_of_ble_eq_true rfl) rfl rfl (fun r M1 hr => ?_)
  obtain ⟨rfl, hcl, hf1⟩ := hr
  refine ev_astore_n (i := 1) dL_law_7 rfl (Nat.le_of_ble_eq_true rfl) rfl ?_
  refine ev_newA (b := 129) (rc' := 14) (ru' := 1720) rfl dL_law_8 nwL_10 rfl rfl ?_
  refine ev_dup dL_law_11 rfl ?_
  refine ev_call (f := 10) (n := 109) (as := [.ref 129]) (rst := [.ref 129]) (rc2 := 0) (ru2 := 0) kL_law_12 (c13_init ev_set_eq) (ev_rv_of ev_set_eq rfl rfl) (by decide) (by decide) rfl (Nat.le_of_ble_eq_true rfl) rfl rfl (fun r M2 hr => ?_)
  obtain ⟨rfl, hmd, hf2⟩ := hr
  have hi : x_inv M2 := ⟨_, _, _, _, _, _, _, _, _, _, _, _, _, _, st_R0, cl_S_keep (fun q h => (hf2 q h.2).trans (ev_set_ne (Nat.ne_of_lt h.2))) hcl, hmd⟩
  refine ev_astore_n (i := 2) dL_law_15 rfl (Nat.le_of_ble_eq_true rfl) rfl ?_
  refine ev_iconst (v := 0) dL_law_16 cni_0 ?_
  refine ev_istore_n (i := 3) dL_law_17 rfl (Nat.le_of_ble_eq_true rfl) rfl ?_
  exact xl_loop H0 H1 H2 H3 H4 H5 H6 H7 H8 H9 H10 H11 H12 H13 H14 H15 H16 H17 H18 H19 H20 H21 H22 H23 H24 H25 H26 H27 H28 H29 H30 H31 hsio hL (fun _ => rfl) (ev_L G + 1) 0 M2 (by omega) (by omega) hi
