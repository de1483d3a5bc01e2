/-! the law -/
abbrev mLaw (nm : String) : hMe := (room_1, 109, 18057, ⟨RL, nm, "([I)Z"⟩, cL_law, 4, some .boolean, [], some 0, fun v _ _ _ => v = some (.int 1))
abbrev lawS : Nat := 18057
def lawlv (G : hGl) (i : Nat) : List (Option Value) := [some (.ref (hgX G).1), some (.ref (hgA G 0)), some (.ref (hgA G 64)), some (.int (nI i))]
theorem hv_perm {nm : String} {G : hGl} {ck cn pc : Nat} {lv : List (Option Value)} {st : List Value} {x y : Option Nat} {σ : hS} {τ : hT} (h : hV (gP G) (mLaw nm) ck cn shp pc lv st (rr 38 51 (x.map pi) (y.map pi)) (pS σ) (pS τ)) : hV G (mLaw nm) ck cn shp pc lv st (rr 51 38 x y) σ τ :=
  fun p e s m args below meth c C H locs ls hH hS hl => h p e s m args below meth c C H locs ls (hHp_pi hH) hS hl
section S9zf
variable {nm : String} {G : hGl} {σ : hS} {τ : hT} {x y : Option Nat} {i : Nat}
set_option maxRecDepth 100000 in
theorem law_feed (hE : ∀ x y σ τ, Rel σ τ → hV G (mLaw nm) 109 lawS shp 1336 (lawlv G i) [] (rr 38 51 x y) σ τ) (hR : Rel σ τ) (hL : (hgX G).2.1 ≤ 3072) (hi : i + 6 ≤ (hgX G).2.1) : hV G (mLaw nm) 109 lawS shp 200 (lawlv G i) [] (rr 38 51 x y) σ τ := by
  obtain ⟨PC, hc, hcd⟩ := q_feed ((hgX G).2.2 (i + 1)) ((hgX G).2.2 (i + 2)) ((hgX G).2.2 (i + 3)) ((hgX G).2.2 (i + 4)) ((hgX G).2.2 (i + 5)) G x y σ τ hR
  refine hv_aload_n dL_law_200 rfl ?_
  refine hv_aload_n dL_law_201 rfl ?_
  refine hv_iload_n dL_law_202 rfl ?_
  refine hv_iconst (v := 1) dL_law_203 (by decide) ?_
  refine hv_iadd dL_law_204 ?_
  refine hv_sld (j := i + 1) rfl dL_law_205 (nI_add i 1) (by omega) (by omega) ?_
  refine hv_aload_n dL_law_206 rfl ?_
  refine hv_iload_n dL_law_207 rfl ?_
  refine hv_iconst (v := 2) dL_law_208 (by decide) ?_
  refine hv_iadd dL_law_209 ?_
  refine hv_sld (j := i + 2) rfl dL_law_210 (nI_add i 2) (by omega) (by omega) ?_
  refine hv_aload_n dL_law_211 rfl ?_
  refine hv_iload_n dL_law_212 rfl ?_
  refine hv_iconst (v := 3) dL_law_213 (by decide) ?_
  refine hv_iadd dL_law_214 ?_
  refine hv_sld (j := i + 3) rfl dL_law_215 (nI_add i 3) (by omega) (by omega) ?_
  refine hv_aload_n dL_law_216 rfl ?_
  refine hv_iload_n dL_law_217 rfl ?_
  refine hv_iconst (v := 4) dL_law_218 (by decide) ?_
  refine hv_iadd dL_law_219 ?_
  refine hv_sld (j := i + 4) rfl dL_law_220 (nI_add i 4) (by omega) (by omega) ?_
  refine hv_aload_n dL_law_221 rfl ?_
  refine hv_iload_n dL_law_222 rfl ?_
  refine hv_iconst (v := 5) dL_law_223 (by decide) ?_
  refine hv_iadd dL_law_224 ?_
  refine hv_sld (j := i + 5) rfl dL_law_225 (nI_add i 5) (by omega) (by omega) ?_
  refine hv_cv5 (hc) dL_law_226 ml_L_13 mk_X11_feed (by first | rfl | assumption) rfl rfl rfl rfl rfl ?_
  rintro v r1 σ1 τ1 hP
  obtain ⟨A, rfl, rfl, PD, hd, hdd⟩ := hcd v r1 σ1 τ1 hP
  refine hv_aload_n dL_law_229 rfl ?_
  refine hv_aload_n dL_law_230 rfl ?_
  refine hv_iload_n dL_law_231 rfl ?_
  refine hv_iconst (v := 1) dL_law_232 (by decide) ?_
  refine hv_iadd dL_law_233 ?_
  refine hv_sld (j := i + 1) rfl dL_law_234 (nI_add i 1) (by omega) (by omega) ?_
  refine hv_aload_n dL_law_235 rfl ?_
  refine hv_iload_n dL_law_236 rfl ?_
  refine hv_iconst (v := 2) dL_law_237 (by decide) ?_
  refine hv_iadd dL_law_238 ?_
  refine hv_sld (j := i + 2) rfl dL_law_239 (nI_add i 2) (by omega) (by omega) ?_
  refine hv_aload_n dL_law_240 rfl ?_
  refine hv_iload_n dL_law_241 rfl ?_
  refine hv_iconst (v := 3) dL_law_242 (by decide) ?_
  refine hv_iadd dL_law_243 ?_
  refine hv_sld (j := i + 3) rfl dL_law_244 (nI_add i 3) (by omega) (by omega) ?_
  refine hv_aload_n dL_law_245 rfl ?_
  refine hv_iload_n dL_law_246 rfl ?_
  refine hv_iconst (v := 4) dL_law_247 (by decide) ?_
  refine hv_iadd dL_law_248 ?_
  refine hv_sld (j := i + 4) rfl dL_law_249 (nI_add i 4) (by omega) (by omega) ?_
  refine hv_aload_n dL_law_250 rfl ?_
  refine hv_iload_n dL_law_251 rfl ?_
  refine hv_iconst (v := 5) dL_law_252 (by decide) ?_
  refine hv_iadd dL_law_253 ?_
  refine hv_sld (j := i + 5) rfl dL_law_254 (nI_add i 5) (by omega) (by omega) ?_
  refine hv_cv5 (hd) dL_law_255 ml_L_17 mk_X12_feed (by first | rfl | assumption) rfl rfl rfl rfl rfl ?_
  rintro v2 r2 σ2 τ2 hP2
  obtain ⟨rfl, rfl, hR2⟩ := hdd v2 r2 σ2 τ2 hP2
  refine hv_icmp_eq (tgt := 1336) dL_law_258 (by decide) (fun c_258 => ?_) (fun c_258 => absurd (rfl) c_258)
  exact hE x y σ2 τ2 hR2
set_option maxRecDepth 100000 in
theorem law_back (hE : ∀ x y σ τ, Rel σ τ → hV G (mLaw nm) 109 lawS shp 1336 (lawlv G i) [] (rr 38 51 x y) σ τ) (hR : Rel σ τ) (hL : (hgX G).2.1 ≤ 3072) (hi : i + 6 ≤ (hgX G).2.1) : hV G (mLaw nm) 109 lawS shp 263 (lawlv G i) [] (rr 38 51 x y) σ τ := by
  obtain ⟨PC, hc, hcd⟩ := q_back ((hgX G).2.2 (i + 1)) G x y σ τ hR
  refine hv_aload_n dL_law_263 rfl ?_
  refine hv_aload_n dL_law_264 rfl ?_
  refine hv_iload_n dL_law_265 rfl ?_
  refine hv_iconst (v := 1) dL_law_266 (by decide) ?_
  refine hv_iadd dL_law_267 ?_
  refine hv_sld (j := i + 1) rfl dL_law_268 (nI_add i 1) (by omega) (by omega) ?_
  refine hv_cv1 (hc) dL_law_269 ml_L_18 mk_X11_back (by first | rfl | assumption) rfl rfl rfl rfl rfl ?_
  rintro v r1 σ1 τ1 hP
  obtain ⟨A, rfl, rfl, PD, hd, hdd⟩ := hcd v r1 σ1 τ1 hP
  refine hv_aload_n dL_law_272 rfl ?_
  refine hv_aload_n dL_law_273 rfl ?_
  refine hv_iload_n dL_law_274 rfl ?_
  refine hv_iconst (v := 1) dL_law_275 (by decide) ?_
  refine hv_iadd dL_law_276 ?_
  refine hv_sld (j := i + 1) rfl dL_law_277 (nI_add i 1) (by omega) (by omega) ?_
  refine hv_cv1 (hd) dL_law_278 ml_L_22 mk_X12_back (by first | rfl | assumption) rfl rfl rfl rfl rfl ?_
  rintro v2 r2 σ2 τ2 hP2
  obtain ⟨rfl, rfl, hR2⟩ := hdd v2 r2 σ2 τ2 hP2
  refine hv_icmp_eq (tgt := 1336) dL_law_281 (by decide) (fun c_281 => ?_) (fun c_281 => absurd (rfl) c_281)
  exact hE x y σ2 τ2 hR2
set_option maxRecDepth 100000 in
theorem law_read (hE : ∀ G2 : hGl, hgX G2 = hgX G → hgA G2 0 = hgA G 0 → hgA G2 64 = hgA G 64 → ∀ x y σ τ, Rel σ τ → hV G2 (mLaw nm) 109 lawS shp 1336 (lawlv G i) [] (rr 38 51 x y) σ τ) (hR : Rel σ τ) (hL : (hgX G).2.1 ≤ 3072) (hi : i + 6 ≤ (hgX G).2.1) : hV G (mLaw nm) 109 lawS shp 286 (lawlv G i) [] (rr 38 51 x y) σ τ := by
  obtain ⟨PC, hc, hcd⟩ := q_read G x y σ τ hR
  refine hv_aload_n dL_law_286 rfl ?_
  refine hv_cv0 (hc) dL_law_287 ml_L_23 mk_X11_read (by first | rfl | assumption) rfl rfl rfl rfl rfl ?_
  rintro v r1 σ1 τ1 hP
  obtain ⟨A, rfl, ⟨x1, y1, rfl, PD, hd, hdd⟩ | ⟨x1, y1, rfl, PD, hd, hdd⟩⟩ := hcd v r1 σ1 τ1 hP
  · skip
    refine hv_aload_n dL_law_290 rfl ?_
    refine hv_cv0 (hd) dL_law_291 ml_L_27 mk_X12_read (by first | rfl | assumption) rfl rfl rfl rfl rfl ?_
    rintro v2 r2 σ2 τ2 hP2
    obtain ⟨rfl, rfl, hR2⟩ := hdd v2 r2 σ2 τ2 hP2
    refine hv_icmp_eq (tgt := 1336) dL_law_294 (by decide) (fun c_294 => ?_) (fun c_294 => absurd (rfl) c_294)
    exact hE G rfl rfl rfl x1 y1 σ2 τ2 hR2
  refine hv_perm ?_
  refine hv_aload_n dL_law_290 rfl ?_
  refine hv_cv0 (hd) dL_law_291 ml_L_27 mk_X12_read (by first | rfl | assumption) rfl rfl rfl rfl rfl ?_
  rintro v2 r2 σ2 τ2 hP2
  obtain ⟨rfl, rfl, hR2⟩ := hdd v2 r2 σ2 τ2 hP2
  refine hv_icmp_eq (tgt := 1336) dL_law_294 (by decide) (fun c_294 => ?_) (fun c_294 => absurd (rfl) c_294)
  exact hE (gP G) rfl rfl rfl _ _ σ2 τ2 hR2
set_option maxRecDepth 100000 in
theorem law_place (hE : ∀ x y σ τ, Rel σ τ → hV G (mLaw nm) 109 lawS shp 1336 (lawlv G i) [] (rr 38 51 x y) σ τ) (hR : Rel σ τ) (hL : (hgX G).2.1 ≤ 3072) (hi : i + 6 ≤ (hgX G).2.1) : hV G (mLaw nm) 109 lawS shp 299 (lawlv G i) [] (rr 38 51 x y) σ τ := by
  obtain ⟨PC, hc, hcd⟩ := q_place G x y σ τ hR
  refine hv_aload_n dL_law_299 rfl ?_
  refine hv_cv0 (hc) dL_law_300 ml_L_28 mk_X11_place (by first | rfl | assumption) rfl rfl rfl rfl rfl ?_
  rintro v r1 σ1 τ1 hP
  obtain ⟨A, rfl, rfl, PD, hd, hdd⟩ := hcd v r1 σ1 τ1 hP
  refine hv_aload_n dL_law_303 rfl ?_
  refine hv_cv0 (hd) dL_law_304 ml_L_31 mk_X12_place (by first | rfl | assumption) rfl rfl rfl rfl rfl ?_
  rintro v2 r2 σ2 τ2 hP2
  obtain ⟨rfl, rfl, hR2⟩ := hdd v2 r2 σ2 τ2 hP2
  refine hv_icmp_eq (tgt := 1336) dL_law_307 (by decide) (fun c_307 => ?_) (fun c_307 => absurd (rfl) c_307)
  exact hE x y σ2 τ2 hR2
set_option maxRecDepth 100000 in
theorem law_house (hE : ∀ x y σ τ, Rel σ τ → hV G (mLaw nm) 109 lawS shp 1336 (lawlv G i) [] (rr 38 51 x y) σ τ) (hR : Rel σ τ) (hL : (hgX G).2.1 ≤ 3072) (hi : i + 6 ≤ (hgX G).2.1) : hV G (mLaw nm) 109 lawS shp 312 (lawlv G i) [] (rr 38 51 x y) σ τ := by
  obtain ⟨PC, hc, hcd⟩ := q_house ((hgX G).2.2 (i + 1)) ((hgX G).2.2 (i + 2)) G x y σ τ hR
  refine hv_aload_n dL_law_312 rfl ?_
  refine hv_aload_n dL_law_313 rfl ?_
  refine hv_iload_n dL_law_314 rfl ?_
  refine hv_iconst (v := 1) dL_law_315 (by decide) ?_
  refine hv_iadd dL_law_316 ?_
  refine hv_sld (j := i + 1) rfl dL_law_317 (nI_add i 1) (by omega) (by omega) ?_
  refine hv_aload_n dL_law_318 rfl ?_
  refine hv_iload_n dL_law_319 rfl ?_
  refine hv_iconst (v := 2) dL_law_320 (by decide) ?_
  refine hv_iadd dL_law_321 ?_
  refine hv_sld (j := i + 2) rfl dL_law_322 (nI_add i 2) (by omega) (by omega) ?_
  refine hv_cv2 (hc) dL_law_323 ml_L_32 mk_X11_house (by first | rfl | assumption) rfl rfl rfl rfl rfl ?_
  rintro v r1 σ1 τ1 hP
  obtain ⟨A, rfl, rfl, PD, hd, hdd⟩ := hcd v r1 σ1 τ1 hP
  refine hv_aload_n dL_law_326 rfl ?_
  refine hv_aload_n dL_law_327 rfl ?_
  refine hv_iload_n dL_law_328 rfl ?_
  refine hv_iconst (v := 1) dL_law_329 (by decide) ?_
  refine hv_iadd dL_law_330 ?_
  refine hv_sld (j := i + 1) rfl dL_law_331 (nI_add i 1) (by omega) (by omega) ?_
  refine hv_aload_n dL_law_332 rfl ?_
  refine hv_iload_n dL_law_333 rfl ?_
  refine hv_iconst (v := 2) dL_law_334 (by decide) ?_
  refine hv_iadd dL_law_335 ?_
  refine hv_sld (j := i + 2) rfl dL_law_336 (nI_add i 2) (by omega) (by omega) ?_
  refine hv_cv2 (hd) dL_law_337 ml_L_36 mk_X12_house (by first | rfl | assumption) rfl rfl rfl rfl rfl ?_
  rintro v2 r2 σ2 τ2 hP2
  obtain ⟨rfl, rfl, hR2⟩ := hdd v2 r2 σ2 τ2 hP2
  refine hv_icmp_eq (tgt := 1336) dL_law_340 (by decide) (fun c_340 => ?_) (fun c_340 => absurd (rfl) c_340)
  exact hE x y σ2 τ2 hR2
set_option maxRecDepth 100000 in
theorem law_tells (hE : ∀ x y σ τ, Rel σ τ → hV G (mLaw nm) 109 lawS shp 1336 (lawlv G i) [] (rr 38 51 x y) σ τ) (hR : Rel σ τ) (hL : (hgX G).2.1 ≤ 3072) (hi : i + 6 ≤ (hgX G).2.1) : hV G (mLaw nm) 109 lawS shp 345 (lawlv G i) [] (rr 38 51 x y) σ τ := by
  obtain ⟨PC, hc, hcd⟩ := q_tells ((hgX G).2.2 (i + 1)) ((hgX G).2.2 (i + 2)) G x y σ τ hR
  refine hv_aload_n dL_law_345 rfl ?_
  refine hv_aload_n dL_law_346 rfl ?_
  refine hv_iload_n dL_law_347 rfl ?_
  refine hv_iconst (v := 1) dL_law_348 (by decide) ?_
  refine hv_iadd dL_law_349 ?_
  refine hv_sld (j := i + 1) rfl dL_law_350 (nI_add i 1) (by omega) (by omega) ?_
  refine hv_aload_n dL_law_351 rfl ?_
  refine hv_iload_n dL_law_352 rfl ?_
  refine hv_iconst (v := 2) dL_law_353 (by decide) ?_
  refine hv_iadd dL_law_354 ?_
  refine hv_sld (j := i + 2) rfl dL_law_355 (nI_add i 2) (by omega) (by omega) ?_
  refine hv_cv2 (hc) dL_law_356 ml_L_37 mk_X11_tells (by first | rfl | assumption) rfl rfl rfl rfl rfl ?_
  rintro v r1 σ1 τ1 hP
  obtain ⟨A, rfl, rfl, PD, hd, hdd⟩ := hcd v r1 σ1 τ1 hP
  refine hv_aload_n dL_law_359 rfl ?_
  refine hv_aload_n dL_law_360 rfl ?_
  refine hv_iload_n dL_law_361 rfl ?_
  refine hv_iconst (v := 1) dL_law_362 (by decide) ?_
  refine hv_iadd dL_law_363 ?_
  refine hv_sld (j := i + 1) rfl dL_law_364 (nI_add i 1) (by omega) (by omega) ?_
  refine hv_aload_n dL_law_365 rfl ?_
  refine hv_iload_n dL_law_366 rfl ?_
  refine hv_iconst (v := 2) dL_law_367 (by decide) ?_
  refine hv_iadd dL_law_368 ?_
  refine hv_sld (j := i + 2) rfl dL_law_369 (nI_add i 2) (by omega) (by omega) ?_
  refine hv_cv2 (hd) dL_law_370 ml_L_40 mk_X12_tells (by first | rfl | assumption) rfl rfl rfl rfl rfl ?_
  rintro v2 r2 σ2 τ2 hP2
  obtain ⟨rfl, rfl, hR2⟩ := hdd v2 r2 σ2 τ2 hP2
  refine hv_icmp_eq (tgt := 1336) dL_law_373 (by decide) (fun c_373 => ?_) (fun c_373 => absurd (rfl) c_373)
  exact hE x y σ2 τ2 hR2
set_option maxRecDepth 100000 in
theorem law_buy (hE : ∀ x y σ τ, Rel σ τ → hV G (mLaw nm) 109 lawS shp 1336 (lawlv G i) [] (rr 38 51 x y) σ τ) (hR : Rel σ τ) (hL : (hgX G).2.1 ≤ 3072) (hi : i + 6 ≤ (hgX G).2.1) : hV G (mLaw nm) 109 lawS shp 378 (lawlv G i) [] (rr 38 51 x y) σ τ := by
  obtain ⟨PC, hc, hcd⟩ := q_buy ((hgX G).2.2 (i + 1)) ((hgX G).2.2 (i + 2)) ((hgX G).2.2 (i + 3)) G x y σ τ hR
  refine hv_aload_n dL_law_378 rfl ?_
  refine hv_aload_n dL_law_379 rfl ?_
  refine hv_iload_n dL_law_380 rfl ?_
  refine hv_iconst (v := 1) dL_law_381 (by decide) ?_
  refine hv_iadd dL_law_382 ?_
  refine hv_sld (j := i + 1) rfl dL_law_383 (nI_add i 1) (by omega) (by omega) ?_
  refine hv_aload_n dL_law_384 rfl ?_
  refine hv_iload_n dL_law_385 rfl ?_
  refine hv_iconst (v := 2) dL_law_386 (by decide) ?_
  refine hv_iadd dL_law_387 ?_
  refine hv_sld (j := i + 2) rfl dL_law_388 (nI_add i 2) (by omega) (by omega) ?_
  refine hv_aload_n dL_law_389 rfl ?_
  refine hv_iload_n dL_law_390 rfl ?_
  refine hv_iconst (v := 3) dL_law_391 (by decide) ?_
  refine hv_iadd dL_law_392 ?_
  refine hv_sld (j := i + 3) rfl dL_law_393 (nI_add i 3) (by omega) (by omega) ?_
  refine hv_cv3 (hc) dL_law_394 ml_L_41 mk_X11_buy (by first | rfl | assumption) rfl rfl rfl rfl rfl ?_
  rintro v r1 σ1 τ1 hP
  obtain ⟨A, rfl, rfl, PD, hd, hdd⟩ := hcd v r1 σ1 τ1 hP
  refine hv_aload_n dL_law_397 rfl ?_
  refine hv_aload_n dL_law_398 rfl ?_
  refine hv_iload_n dL_law_399 rfl ?_
  refine hv_iconst (v := 1) dL_law_400 (by decide) ?_
  refine hv_iadd dL_law_401 ?_
  refine hv_sld (j := i + 1) rfl dL_law_402 (nI_add i 1) (by omega) (by omega) ?_
  refine hv_aload_n dL_law_403 rfl ?_
  refine hv_iload_n dL_law_404 rfl ?_
  refine hv_iconst (v := 2) dL_law_405 (by decide) ?_
  refine hv_iadd dL_law_406 ?_
  refine hv_sld (j := i + 2) rfl dL_law_407 (nI_add i 2) (by omega) (by omega) ?_
  refine hv_aload_n dL_law_408 rfl ?_
  refine hv_iload_n dL_law_409 rfl ?_
  refine hv_iconst (v := 3) dL_law_410 (by decide) ?_
  refine hv_iadd dL_law_411 ?_
  refine hv_sld (j := i + 3) rfl dL_law_412 (nI_add i 3) (by omega) (by omega) ?_
  refine hv_cv3 (hd) dL_law_413 ml_L_45 mk_X12_buy (by first | rfl | assumption) rfl rfl rfl rfl rfl ?_
  rintro v2 r2 σ2 τ2 hP2
  obtain ⟨rfl, rfl, hR2⟩ := hdd v2 r2 σ2 τ2 hP2
  refine hv_icmp_eq (tgt := 1336) dL_law_416 (by decide) (fun c_416 => ?_) (fun c_416 => absurd (rfl) c_416)
  exact hE x y σ2 τ2 hR2
set_option maxRecDepth 100000 in
theorem law_eat (hE : ∀ x y σ τ, Rel σ τ → hV G (mLaw nm) 109 lawS shp 1336 (lawlv G i) [] (rr 38 51 x y) σ τ) (hR : Rel σ τ) (hL : (hgX G).2.1 ≤ 3072) (hi : i + 6 ≤ (hgX G).2.1) : hV G (mLaw nm) 109 lawS shp 421 (lawlv G i) [] (rr 38 51 x y) σ τ := by
  obtain ⟨PC, hc, hcd⟩ := q_eat ((hgX G).2.2 (i + 1)) ((hgX G).2.2 (i + 2)) G x y σ τ hR
  refine hv_aload_n dL_law_421 rfl ?_
  refine hv_aload_n dL_law_422 rfl ?_
  refine hv_iload_n dL_law_423 rfl ?_
  refine hv_iconst (v := 1) dL_law_424 (by decide) ?_
  refine hv_iadd dL_law_425 ?_
  refine hv_sld (j := i + 1) rfl dL_law_426 (nI_add i 1) (by omega) (by omega) ?_
  refine hv_aload_n dL_law_427 rfl ?_
  refine hv_iload_n dL_law_428 rfl ?_
  refine hv_iconst (v := 2) dL_law_429 (by decide) ?_
  refine hv_iadd dL_law_430 ?_
  refine hv_sld (j := i + 2) rfl dL_law_431 (nI_add i 2) (by omega) (by omega) ?_
  refine hv_cv2 (hc) dL_law_432 ml_L_46 mk_X11_eat (by first | rfl | assumption) rfl rfl rfl rfl rfl ?_
  rintro v r1 σ1 τ1 hP
  obtain ⟨A, rfl, rfl, PD, hd, hdd⟩ := hcd v r1 σ1 τ1 hP
  refine hv_aload_n dL_law_435 rfl ?_
  refine hv_aload_n dL_law_436 rfl ?_
  refine hv_iload_n dL_law_437 rfl ?_
  refine hv_iconst (v := 1) dL_law_438 (by decide) ?_
  refine hv_iadd dL_law_439 ?_
  refine hv_sld (j := i + 1) rfl dL_law_440 (nI_add i 1) (by omega) (by omega) ?_
  refine hv_aload_n dL_law_441 rfl ?_
  refine hv_iload_n dL_law_442 rfl ?_
  refine hv_iconst (v := 2) dL_law_443 (by decide) ?_
  refine hv_iadd dL_law_444 ?_
  refine hv_sld (j := i + 2) rfl dL_law_445 (nI_add i 2) (by omega) (by omega) ?_
  refine hv_cv2 (hd) dL_law_446 ml_L_49 mk_X12_eat (by first | rfl | assumption) rfl rfl rfl rfl rfl ?_
  rintro v2 r2 σ2 τ2 hP2
  obtain ⟨rfl, rfl, hR2⟩ := hdd v2 r2 σ2 τ2 hP2
  refine hv_icmp_eq (tgt := 1336) dL_law_449 (by decide) (fun c_449 => ?_) (fun c_449 => absurd (rfl) c_449)
  exact hE x y σ2 τ2 hR2
set_option maxRecDepth 100000 in
theorem law_salts (hE : ∀ x y σ τ, Rel σ τ → hV G (mLaw nm) 109 lawS shp 1336 (lawlv G i) [] (rr 38 51 x y) σ τ) (hR : Rel σ τ) (hL : (hgX G).2.1 ≤ 3072) (hi : i + 6 ≤ (hgX G).2.1) : hV G (mLaw nm) 109 lawS shp 454 (lawlv G i) [] (rr 38 51 x y) σ τ := by
  obtain ⟨PC, hc, hcd⟩ := q_salts ((hgX G).2.2 (i + 1)) ((hgX G).2.2 (i + 2)) G x y σ τ hR
  refine hv_aload_n dL_law_454 rfl ?_
  refine hv_aload_n dL_law_455 rfl ?_
  refine hv_iload_n dL_law_456 rfl ?_
  refine hv_iconst (v := 1) dL_law_457 (by decide) ?_
  refine hv_iadd dL_law_458 ?_
  refine hv_sld (j := i + 1) rfl dL_law_459 (nI_add i 1) (by omega) (by omega) ?_
  refine hv_aload_n dL_law_460 rfl ?_
  refine hv_iload_n dL_law_461 rfl ?_
  refine hv_iconst (v := 2) dL_law_462 (by decide) ?_
  refine hv_iadd dL_law_463 ?_
  refine hv_sld (j := i + 2) rfl dL_law_464 (nI_add i 2) (by omega) (by omega) ?_
  refine hv_cv2 (hc) dL_law_465 ml_L_50 mk_X11_salts (by first | rfl | assumption) rfl rfl rfl rfl rfl ?_
  rintro v r1 σ1 τ1 hP
  obtain ⟨A, rfl, rfl, PD, hd, hdd⟩ := hcd v r1 σ1 τ1 hP
  refine hv_aload_n dL_law_468 rfl ?_
  refine hv_aload_n dL_law_469 rfl ?_
  refine hv_iload_n dL_law_470 rfl ?_
  refine hv_iconst (v := 1) dL_law_471 (by decide) ?_
  refine hv_iadd dL_law_472 ?_
  refine hv_sld (j := i + 1) rfl dL_law_473 (nI_add i 1) (by omega) (by omega) ?_
  refine hv_aload_n dL_law_474 rfl ?_
  refine hv_iload_n dL_law_475 rfl ?_
  refine hv_iconst (v := 2) dL_law_476 (by decide) ?_
  refine hv_iadd dL_law_477 ?_
  refine hv_sld (j := i + 2) rfl dL_law_478 (nI_add i 2) (by omega) (by omega) ?_
  refine hv_cv2 (hd) dL_law_479 ml_L_53 mk_X12_salts (by first | rfl | assumption) rfl rfl rfl rfl rfl ?_
  rintro v2 r2 σ2 τ2 hP2
  obtain ⟨rfl, rfl, hR2⟩ := hdd v2 r2 σ2 τ2 hP2
  refine hv_icmp_eq (tgt := 1336) dL_law_482 (by decide) (fun c_482 => ?_) (fun c_482 => absurd (rfl) c_482)
  exact hE x y σ2 τ2 hR2
set_option maxRecDepth 100000 in
theorem law_proxy (hE : ∀ x y σ τ, Rel σ τ → hV G (mLaw nm) 109 lawS shp 1336 (lawlv G i) [] (rr 38 51 x y) σ τ) (hR : Rel σ τ) (hL : (hgX G).2.1 ≤ 3072) (hi : i + 6 ≤ (hgX G).2.1) : hV G (mLaw nm) 109 lawS shp 487 (lawlv G i) [] (rr 38 51 x y) σ τ := by
  obtain ⟨PC, hc, hcd⟩ := q_proxy ((hgX G).2.2 (i + 1)) ((hgX G).2.2 (i + 2)) G x y σ τ hR
  refine hv_aload_n dL_law_487 rfl ?_
  refine hv_aload_n dL_law_488 rfl ?_
  refine hv_iload_n dL_law_489 rfl ?_
  refine hv_iconst (v := 1) dL_law_490 (by decide) ?_
  refine hv_iadd dL_law_491 ?_
  refine hv_sld (j := i + 1) rfl dL_law_492 (nI_add i 1) (by omega) (by omega) ?_
  refine hv_aload_n dL_law_493 rfl ?_
  refine hv_iload_n dL_law_494 rfl ?_
  refine hv_iconst (v := 2) dL_law_495 (by decide) ?_
  refine hv_iadd dL_law_496 ?_
  refine hv_sld (j := i + 2) rfl dL_law_497 (nI_add i 2) (by omega) (by omega) ?_
  refine hv_cv2 (hc) dL_law_498 ml_L_54 mk_X11_proxy (by first | rfl | assumption) rfl rfl rfl rfl rfl ?_
  rintro v r1 σ1 τ1 hP
  obtain ⟨A, rfl, rfl, PD, hd, hdd⟩ := hcd v r1 σ1 τ1 hP
  refine hv_aload_n dL_law_501 rfl ?_
  refine hv_aload_n dL_law_502 rfl ?_
  refine hv_iload_n dL_law_503 rfl ?_
  refine hv_iconst (v := 1) dL_law_504 (by decide) ?_
  refine hv_iadd dL_law_505 ?_
  refine hv_sld (j := i + 1) rfl dL_law_506 (nI_add i 1) (by omega) (by omega) ?_
  refine hv_aload_n dL_law_507 rfl ?_
  refine hv_iload_n dL_law_508 rfl ?_
  refine hv_iconst (v := 2) dL_law_509 (by decide) ?_
  refine hv_iadd dL_law_510 ?_
  refine hv_sld (j := i + 2) rfl dL_law_511 (nI_add i 2) (by omega) (by omega) ?_
  refine hv_cv2 (hd) dL_law_512 ml_L_58 mk_X12_proxy (by first | rfl | assumption) rfl rfl rfl rfl rfl ?_
  rintro v2 r2 σ2 τ2 hP2
  obtain ⟨rfl, rfl, hR2⟩ := hdd v2 r2 σ2 τ2 hP2
  refine hv_icmp_eq (tgt := 1336) dL_law_515 (by decide) (fun c_515 => ?_) (fun c_515 => absurd (rfl) c_515)
  exact hE x y σ2 τ2 hR2
set_option maxRecDepth 100000 in
theorem law_days (hE : ∀ x y σ τ, Rel σ τ → hV G (mLaw nm) 109 lawS shp 1336 (lawlv G i) [] (rr 38 51 x y) σ τ) (hR : Rel σ τ) (hL : (hgX G).2.1 ≤ 3072) (hi : i + 6 ≤ (hgX G).2.1) : hV G (mLaw nm) 109 lawS shp 520 (lawlv G i) [] (rr 38 51 x y) σ τ := by
  obtain ⟨PC, hc, hcd⟩ := q_days ((hgX G).2.2 (i + 1)) G x y σ τ hR
  refine hv_aload_n dL_law_520 rfl ?_
  refine hv_aload_n dL_law_521 rfl ?_
  refine hv_iload_n dL_law_522 rfl ?_
  refine hv_iconst (v := 1) dL_law_523 (by decide) ?_
  refine hv_iadd dL_law_524 ?_
  refine hv_sld (j := i + 1) rfl dL_law_525 (nI_add i 1) (by omega) (by omega) ?_
  refine hv_cv1 (hc) dL_law_526 ml_L_59 mk_X11_days (by first | rfl | assumption) rfl rfl rfl rfl rfl ?_
  rintro v r1 σ1 τ1 hP
  obtain ⟨A, rfl, rfl, PD, hd, hdd⟩ := hcd v r1 σ1 τ1 hP
  refine hv_aload_n dL_law_529 rfl ?_
  refine hv_aload_n dL_law_530 rfl ?_
  refine hv_iload_n dL_law_531 rfl ?_
  refine hv_iconst (v := 1) dL_law_532 (by decide) ?_
  refine hv_iadd dL_law_533 ?_
  refine hv_sld (j := i + 1) rfl dL_law_534 (nI_add i 1) (by omega) (by omega) ?_
  refine hv_cv1 (hd) dL_law_535 ml_L_62 mk_X12_days (by first | rfl | assumption) rfl rfl rfl rfl rfl ?_
  rintro v2 r2 σ2 τ2 hP2
  obtain ⟨rfl, rfl, hR2⟩ := hdd v2 r2 σ2 τ2 hP2
  refine hv_icmp_eq (tgt := 1336) dL_law_538 (by decide) (fun c_538 => ?_) (fun c_538 => absurd (rfl) c_538)
  exact hE x y σ2 τ2 hR2
set_option maxRecDepth 100000 in
theorem law_undo (hE : ∀ x y σ τ, Rel σ τ → hV G (mLaw nm) 109 lawS shp 1336 (lawlv G i) [] (rr 38 51 x y) σ τ) (hR : Rel σ τ) (hL : (hgX G).2.1 ≤ 3072) (hi : i + 6 ≤ (hgX G).2.1) : hV G (mLaw nm) 109 lawS shp 543 (lawlv G i) [] (rr 38 51 x y) σ τ := by
  obtain ⟨PC, hc, hcd⟩ := q_undo G x y σ τ hR
  refine hv_aload_n dL_law_543 rfl ?_
  refine hv_cv0 (hc) dL_law_544 ml_L_63 mk_X11_undo (by first | rfl | assumption) rfl rfl rfl rfl rfl ?_
  rintro v r1 σ1 τ1 hP
  obtain ⟨A, rfl, rfl, PD, hd, hdd⟩ := hcd v r1 σ1 τ1 hP
  refine hv_aload_n dL_law_547 rfl ?_
  refine hv_cv0 (hd) dL_law_548 ml_L_67 mk_X12_undo (by first | rfl | assumption) rfl rfl rfl rfl rfl ?_
  rintro v2 r2 σ2 τ2 hP2
  obtain ⟨rfl, rfl, hR2⟩ := hdd v2 r2 σ2 τ2 hP2
  refine hv_icmp_eq (tgt := 1336) dL_law_551 (by decide) (fun c_551 => ?_) (fun c_551 => absurd (rfl) c_551)
  exact hE x y σ2 τ2 hR2
set_option maxRecDepth 100000 in
theorem law_panic (hE : ∀ x y σ τ, Rel σ τ → hV G (mLaw nm) 109 lawS shp 1336 (lawlv G i) [] (rr 38 51 x y) σ τ) (hR : Rel σ τ) (hL : (hgX G).2.1 ≤ 3072) (hi : i + 6 ≤ (hgX G).2.1) : hV G (mLaw nm) 109 lawS shp 556 (lawlv G i) [] (rr 38 51 x y) σ τ := by
  obtain ⟨PC, hc, hcd⟩ := q_panic ((hgX G).2.2 (i + 1)) G x y σ τ hR
  refine hv_aload_n dL_law_556 rfl ?_
  refine hv_aload_n dL_law_557 rfl ?_
  refine hv_iload_n dL_law_558 rfl ?_
  refine hv_iconst (v := 1) dL_law_559 (by decide) ?_
  refine hv_iadd dL_law_560 ?_
  refine hv_sld (j := i + 1) rfl dL_law_561 (nI_add i 1) (by omega) (by omega) ?_
  refine hv_cv1 (hc) dL_law_562 ml_L_68 mk_X11_panic (by first | rfl | assumption) rfl rfl rfl rfl rfl ?_
  rintro v r1 σ1 τ1 hP
  obtain ⟨A, rfl, rfl, PD, hd, hdd⟩ := hcd v r1 σ1 τ1 hP
  refine hv_aload_n dL_law_565 rfl ?_
  refine hv_aload_n dL_law_566 rfl ?_
  refine hv_iload_n dL_law_567 rfl ?_
  refine hv_iconst (v := 1) dL_law_568 (by decide) ?_
  refine hv_iadd dL_law_569 ?_
  refine hv_sld (j := i + 1) rfl dL_law_570 (nI_add i 1) (by omega) (by omega) ?_
  refine hv_cv1 (hd) dL_law_571 ml_L_71 mk_X12_panic (by first | rfl | assumption) rfl rfl rfl rfl rfl ?_
  rintro v2 r2 σ2 τ2 hP2
  obtain ⟨rfl, rfl, hR2⟩ := hdd v2 r2 σ2 τ2 hP2
  refine hv_icmp_eq (tgt := 1336) dL_law_574 (by decide) (fun c_574 => ?_) (fun c_574 => absurd (rfl) c_574)
  exact hE x y σ2 τ2 hR2
set_option maxRecDepth 100000 in
theorem law_spark (hE : ∀ x y σ τ, Rel σ τ → hV G (mLaw nm) 109 lawS shp 1336 (lawlv G i) [] (rr 38 51 x y) σ τ) (hR : Rel σ τ) (hL : (hgX G).2.1 ≤ 3072) (hi : i + 6 ≤ (hgX G).2.1) : hV G (mLaw nm) 109 lawS shp 579 (lawlv G i) [] (rr 38 51 x y) σ τ := by
  obtain ⟨PC, hc, hcd⟩ := q_spark ((hgX G).2.2 (i + 1)) G x y σ τ hR
  refine hv_aload_n dL_law_579 rfl ?_
  refine hv_aload_n dL_law_580 rfl ?_
  refine hv_iload_n dL_law_581 rfl ?_
  refine hv_iconst (v := 1) dL_law_582 (by decide) ?_
  refine hv_iadd dL_law_583 ?_
  refine hv_sld (j := i + 1) rfl dL_law_584 (nI_add i 1) (by omega) (by omega) ?_
  refine hv_cv1 (hc) dL_law_585 ml_L_72 mk_X11_spark (by first | rfl | assumption) rfl rfl rfl rfl rfl ?_
  rintro v r1 σ1 τ1 hP
  obtain ⟨A, rfl, rfl, PD, hd, hdd⟩ := hcd v r1 σ1 τ1 hP
  refine hv_aload_n dL_law_588 rfl ?_
  refine hv_aload_n dL_law_589 rfl ?_
  refine hv_iload_n dL_law_590 rfl ?_
  refine hv_iconst (v := 1) dL_law_591 (by decide) ?_
  refine hv_iadd dL_law_592 ?_
  refine hv_sld (j := i + 1) rfl dL_law_593 (nI_add i 1) (by omega) (by omega) ?_
  refine hv_cv1 (hd) dL_law_594 ml_L_75 mk_X12_spark (by first | rfl | assumption) rfl rfl rfl rfl rfl ?_
  rintro v2 r2 σ2 τ2 hP2
  obtain ⟨rfl, rfl, hR2⟩ := hdd v2 r2 σ2 τ2 hP2
  refine hv_icmp_eq (tgt := 1336) dL_law_597 (by decide) (fun c_597 => ?_) (fun c_597 => absurd (rfl) c_597)
  exact hE x y σ2 τ2 hR2
set_option maxRecDepth 100000 in
theorem law_calm (hE : ∀ x y σ τ, Rel σ τ → hV G (mLaw nm) 109 lawS shp 1336 (lawlv G i) [] (rr 38 51 x y) σ τ) (hR : Rel σ τ) (hL : (hgX G).2.1 ≤ 3072) (hi : i + 6 ≤ (hgX G).2.1) : hV G (mLaw nm) 109 lawS shp 602 (lawlv G i) [] (rr 38 51 x y) σ τ := by
  obtain ⟨PC, hc, hcd⟩ := q_calm ((hgX G).2.2 (i + 1)) ((hgX G).2.2 (i + 2)) ((hgX G).2.2 (i + 3)) G x y σ τ hR
  refine hv_aload_n dL_law_602 rfl ?_
  refine hv_aload_n dL_law_603 rfl ?_
  refine hv_iload_n dL_law_604 rfl ?_
  refine hv_iconst (v := 1) dL_law_605 (by decide) ?_
  refine hv_iadd dL_law_606 ?_
  refine hv_sld (j := i + 1) rfl dL_law_607 (nI_add i 1) (by omega) (by omega) ?_
  refine hv_aload_n dL_law_608 rfl ?_
  refine hv_iload_n dL_law_609 rfl ?_
  refine hv_iconst (v := 2) dL_law_610 (by decide) ?_
  refine hv_iadd dL_law_611 ?_
  refine hv_sld (j := i + 2) rfl dL_law_612 (nI_add i 2) (by omega) (by omega) ?_
  refine hv_aload_n dL_law_613 rfl ?_
  refine hv_iload_n dL_law_614 rfl ?_
  refine hv_iconst (v := 3) dL_law_615 (by decide) ?_
  refine hv_iadd dL_law_616 ?_
  refine hv_sld (j := i + 3) rfl dL_law_617 (nI_add i 3) (by omega) (by omega) ?_
  refine hv_cv3 (hc) dL_law_618 ml_L_76 mk_X11_calm (by first | rfl | assumption) rfl rfl rfl rfl rfl ?_
  rintro v r1 σ1 τ1 hP
  obtain ⟨A, rfl, rfl, PD, hd, hdd⟩ := hcd v r1 σ1 τ1 hP
  refine hv_aload_n dL_law_621 rfl ?_
  refine hv_aload_n dL_law_622 rfl ?_
  refine hv_iload_n dL_law_623 rfl ?_
  refine hv_iconst (v := 1) dL_law_624 (by decide) ?_
  refine hv_iadd dL_law_625 ?_
  refine hv_sld (j := i + 1) rfl dL_law_626 (nI_add i 1) (by omega) (by omega) ?_
  refine hv_aload_n dL_law_627 rfl ?_
  refine hv_iload_n dL_law_628 rfl ?_
  refine hv_iconst (v := 2) dL_law_629 (by decide) ?_
  refine hv_iadd dL_law_630 ?_
  refine hv_sld (j := i + 2) rfl dL_law_631 (nI_add i 2) (by omega) (by omega) ?_
  refine hv_aload_n dL_law_632 rfl ?_
  refine hv_iload_n dL_law_633 rfl ?_
  refine hv_iconst (v := 3) dL_law_634 (by decide) ?_
  refine hv_iadd dL_law_635 ?_
  refine hv_sld (j := i + 3) rfl dL_law_636 (nI_add i 3) (by omega) (by omega) ?_
  refine hv_cv3 (hd) dL_law_637 ml_L_79 mk_X12_calm (by first | rfl | assumption) rfl rfl rfl rfl rfl ?_
  rintro v2 r2 σ2 τ2 hP2
  obtain ⟨rfl, rfl, hR2⟩ := hdd v2 r2 σ2 τ2 hP2
  refine hv_icmp_eq (tgt := 1336) dL_law_640 (by decide) (fun c_640 => ?_) (fun c_640 => absurd (rfl) c_640)
  exact hE x y σ2 τ2 hR2
set_option maxRecDepth 100000 in
theorem law_power (hE : ∀ x y σ τ, Rel σ τ → hV G (mLaw nm) 109 lawS shp 1336 (lawlv G i) [] (rr 38 51 x y) σ τ) (hR : Rel σ τ) (hL : (hgX G).2.1 ≤ 3072) (hi : i + 6 ≤ (hgX G).2.1) : hV G (mLaw nm) 109 lawS shp 645 (lawlv G i) [] (rr 38 51 x y) σ τ := by
  by_cases hz : (hgX G).2.2 (i + 2) = 0
  · skip
    obtain ⟨PC, hc, hcd⟩ := q_power ((hgX G).2.2 (i + 1)) 0 G x y σ τ hR
    refine hv_aload_n dL_law_645 rfl ?_
    refine hv_aload_n dL_law_646 rfl ?_
    refine hv_iload_n dL_law_647 rfl ?_
    refine hv_iconst (v := 1) dL_law_648 (by decide) ?_
    refine hv_iadd dL_law_649 ?_
    refine hv_sld (j := i + 1) rfl dL_law_650 (nI_add i 1) (by omega) (by omega) ?_
    refine hv_aload_n dL_law_651 rfl ?_
    refine hv_iload_n dL_law_652 rfl ?_
    refine hv_iconst (v := 2) dL_law_653 (by decide) ?_
    refine hv_iadd dL_law_654 ?_
    refine hv_sld (j := i + 2) rfl dL_law_655 (nI_add i 2) (by omega) (by omega) ?_
    refine hv_if_eq (tgt := 663) dL_law_656 (by decide) (fun c_656 => ?_) (fun c_656 => absurd (hz) c_656)
    refine hv_iconst (v := 0) dL_law_663 (by decide) ?_
    refine hv_cv2 (hc) dL_law_664 ml_L_80 mk_X11_power (by first | rfl | assumption) rfl rfl rfl rfl rfl ?_
    rintro v r1 σ1 τ1 hP
    obtain ⟨A, rfl, rfl, PD, hd, hdd⟩ := hcd v r1 σ1 τ1 hP
    refine hv_aload_n dL_law_667 rfl ?_
    refine hv_aload_n dL_law_668 rfl ?_
    refine hv_iload_n dL_law_669 rfl ?_
    refine hv_iconst (v := 1) dL_law_670 (by decide) ?_
    refine hv_iadd dL_law_671 ?_
    refine hv_sld (j := i + 1) rfl dL_law_672 (nI_add i 1) (by omega) (by omega) ?_
    refine hv_aload_n dL_law_673 rfl ?_
    refine hv_iload_n dL_law_674 rfl ?_
    refine hv_iconst (v := 2) dL_law_675 (by decide) ?_
    refine hv_iadd dL_law_676 ?_
    refine hv_sld (j := i + 2) rfl dL_law_677 (nI_add i 2) (by omega) (by omega) ?_
    refine hv_if_eq (tgt := 685) dL_law_678 (by decide) (fun c_678 => ?_) (fun c_678 => absurd (hz) c_678)
    refine hv_iconst (v := 0) dL_law_685 (by decide) ?_
    refine hv_cv2 (hd) dL_law_686 ml_L_84 mk_X12_power (by first | rfl | assumption) rfl rfl rfl rfl rfl ?_
    rintro v2 r2 σ2 τ2 hP2
    obtain ⟨rfl, rfl, hR2⟩ := hdd v2 r2 σ2 τ2 hP2
    refine hv_icmp_eq (tgt := 1336) dL_law_689 (by decide) (fun c_689 => ?_) (fun c_689 => absurd (rfl) c_689)
    exact hE x y σ2 τ2 hR2
  · skip
    obtain ⟨PC, hc, hcd⟩ := q_power ((hgX G).2.2 (i + 1)) 1 G x y σ τ hR
    refine hv_aload_n dL_law_645 rfl ?_
    refine hv_aload_n dL_law_646 rfl ?_
    refine hv_iload_n dL_law_647 rfl ?_
    refine hv_iconst (v := 1) dL_law_648 (by decide) ?_
    refine hv_iadd dL_law_649 ?_
    refine hv_sld (j := i + 1) rfl dL_law_650 (nI_add i 1) (by omega) (by omega) ?_
    refine hv_aload_n dL_law_651 rfl ?_
    refine hv_iload_n dL_law_652 rfl ?_
    refine hv_iconst (v := 2) dL_law_653 (by decide) ?_
    refine hv_iadd dL_law_654 ?_
    refine hv_sld (j := i + 2) rfl dL_law_655 (nI_add i 2) (by omega) (by omega) ?_
    refine hv_if_eq (tgt := 663) dL_law_656 (by decide) (fun c_656 => absurd c_656 (hz)) (fun c_656 => ?_)
    refine hv_iconst (v := 1) dL_law_659 (by decide) ?_
    refine hv_goto (tgt := 664) dL_law_660 (by decide) ?_
    refine hv_cv2 (hc) dL_law_664 ml_L_80 mk_X11_power (by first | rfl | assumption) rfl rfl rfl rfl rfl ?_
    rintro v r1 σ1 τ1 hP
    obtain ⟨A, rfl, rfl, PD, hd, hdd⟩ := hcd v r1 σ1 τ1 hP
    refine hv_aload_n dL_law_667 rfl ?_
    refine hv_aload_n dL_law_668 rfl ?_
    refine hv_iload_n dL_law_669 rfl ?_
    refine hv_iconst (v := 1) dL_law_670 (by decide) ?_
    refine hv_iadd dL_law_671 ?_
    refine hv_sld (j := i + 1) rfl dL_law_672 (nI_add i 1) (by omega) (by omega) ?_
    refine hv_aload_n dL_law_673 rfl ?_
    refine hv_iload_n dL_law_674 rfl ?_
    refine hv_iconst (v := 2) dL_law_675 (by decide) ?_
    refine hv_iadd dL_law_676 ?_
    refine hv_sld (j := i + 2) rfl dL_law_677 (nI_add i 2) (by omega) (by omega) ?_
    refine hv_if_eq (tgt := 685) dL_law_678 (by decide) (fun c_678 => absurd c_678 (hz)) (fun c_678 => ?_)
    refine hv_iconst (v := 1) dL_law_681 (by decide) ?_
    refine hv_goto (tgt := 686) dL_law_682 (by decide) ?_
    refine hv_cv2 (hd) dL_law_686 ml_L_84 mk_X12_power (by first | rfl | assumption) rfl rfl rfl rfl rfl ?_
    rintro v2 r2 σ2 τ2 hP2
    obtain ⟨rfl, rfl, hR2⟩ := hdd v2 r2 σ2 τ2 hP2
    refine hv_icmp_eq (tgt := 1336) dL_law_689 (by decide) (fun c_689 => ?_) (fun c_689 => absurd (rfl) c_689)
    exact hE x y σ2 τ2 hR2
set_option maxRecDepth 100000 in
theorem law_strongest (hE : ∀ x y σ τ, Rel σ τ → hV G (mLaw nm) 109 lawS shp 1336 (lawlv G i) [] (rr 38 51 x y) σ τ) (hR : Rel σ τ) (hL : (hgX G).2.1 ≤ 3072) (hi : i + 6 ≤ (hgX G).2.1) : hV G (mLaw nm) 109 lawS shp 694 (lawlv G i) [] (rr 38 51 x y) σ τ := by
  obtain ⟨PC, hc, hcd⟩ := q_strongest ((hgX G).2.2 (i + 1)) G x y σ τ hR
  refine hv_aload_n dL_law_694 rfl ?_
  refine hv_aload_n dL_law_695 rfl ?_
  refine hv_iload_n dL_law_696 rfl ?_
  refine hv_iconst (v := 1) dL_law_697 (by decide) ?_
  refine hv_iadd dL_law_698 ?_
  refine hv_sld (j := i + 1) rfl dL_law_699 (nI_add i 1) (by omega) (by omega) ?_
  refine hv_cv1 (hc) dL_law_700 ml_L_85 mk_X11_strongest (by first | rfl | assumption) rfl rfl rfl rfl rfl ?_
  rintro v r1 σ1 τ1 hP
  obtain ⟨A, rfl, rfl, PD, hd, hdd⟩ := hcd v r1 σ1 τ1 hP
  refine hv_aload_n dL_law_703 rfl ?_
  refine hv_aload_n dL_law_704 rfl ?_
  refine hv_iload_n dL_law_705 rfl ?_
  refine hv_iconst (v := 1) dL_law_706 (by decide) ?_
  refine hv_iadd dL_law_707 ?_
  refine hv_sld (j := i + 1) rfl dL_law_708 (nI_add i 1) (by omega) (by omega) ?_
  refine hv_cv1 (hd) dL_law_709 ml_L_88 mk_X12_strongest (by first | rfl | assumption) rfl rfl rfl rfl rfl ?_
  rintro v2 r2 σ2 τ2 hP2
  obtain ⟨rfl, rfl, hR2⟩ := hdd v2 r2 σ2 τ2 hP2
  refine hv_icmp_eq (tgt := 1336) dL_law_712 (by decide) (fun c_712 => ?_) (fun c_712 => absurd (rfl) c_712)
  exact hE x y σ2 τ2 hR2
set_option maxRecDepth 100000 in
theorem law_allies (hE : ∀ x y σ τ, Rel σ τ → hV G (mLaw nm) 109 lawS shp 1336 (lawlv G i) [] (rr 38 51 x y) σ τ) (hR : Rel σ τ) (hL : (hgX G).2.1 ≤ 3072) (hi : i + 6 ≤ (hgX G).2.1) : hV G (mLaw nm) 109 lawS shp 717 (lawlv G i) [] (rr 38 51 x y) σ τ := by
  obtain ⟨PC, hc, hcd⟩ := q_allies ((hgX G).2.2 (i + 1)) G x y σ τ hR
  refine hv_aload_n dL_law_717 rfl ?_
  refine hv_aload_n dL_law_718 rfl ?_
  refine hv_iload_n dL_law_719 rfl ?_
  refine hv_iconst (v := 1) dL_law_720 (by decide) ?_
  refine hv_iadd dL_law_721 ?_
  refine hv_sld (j := i + 1) rfl dL_law_722 (nI_add i 1) (by omega) (by omega) ?_
  refine hv_cv1 (hc) dL_law_723 ml_L_89 mk_X11_allies (by first | rfl | assumption) rfl rfl rfl rfl rfl ?_
  rintro v r1 σ1 τ1 hP
  obtain ⟨A, rfl, rfl, PD, hd, hdd⟩ := hcd v r1 σ1 τ1 hP
  refine hv_aload_n dL_law_726 rfl ?_
  refine hv_aload_n dL_law_727 rfl ?_
  refine hv_iload_n dL_law_728 rfl ?_
  refine hv_iconst (v := 1) dL_law_729 (by decide) ?_
  refine hv_iadd dL_law_730 ?_
  refine hv_sld (j := i + 1) rfl dL_law_731 (nI_add i 1) (by omega) (by omega) ?_
  refine hv_cv1 (hd) dL_law_732 ml_L_92 mk_X12_allies (by first | rfl | assumption) rfl rfl rfl rfl rfl ?_
  rintro v2 r2 σ2 τ2 hP2
  obtain ⟨rfl, rfl, hR2⟩ := hdd v2 r2 σ2 τ2 hP2
  refine hv_icmp_eq (tgt := 1336) dL_law_735 (by decide) (fun c_735 => ?_) (fun c_735 => absurd (rfl) c_735)
  exact hE x y σ2 τ2 hR2
set_option maxRecDepth 100000 in
theorem law_takeover (hE : ∀ x y σ τ, Rel σ τ → hV G (mLaw nm) 109 lawS shp 1336 (lawlv G i) [] (rr 38 51 x y) σ τ) (hR : Rel σ τ) (hL : (hgX G).2.1 ≤ 3072) (hi : i + 6 ≤ (hgX G).2.1) : hV G (mLaw nm) 109 lawS shp 740 (lawlv G i) [] (rr 38 51 x y) σ τ := by
  obtain ⟨PC, hc, hcd⟩ := q_takeover ((hgX G).2.2 (i + 1)) ((hgX G).2.2 (i + 2)) G x y σ τ hR
  refine hv_aload_n dL_law_740 rfl ?_
  refine hv_aload_n dL_law_741 rfl ?_
  refine hv_iload_n dL_law_742 rfl ?_
  refine hv_iconst (v := 1) dL_law_743 (by decide) ?_
  refine hv_iadd dL_law_744 ?_
  refine hv_sld (j := i + 1) rfl dL_law_745 (nI_add i 1) (by omega) (by omega) ?_
  refine hv_aload_n dL_law_746 rfl ?_
  refine hv_iload_n dL_law_747 rfl ?_
  refine hv_iconst (v := 2) dL_law_748 (by decide) ?_
  refine hv_iadd dL_law_749 ?_
  refine hv_sld (j := i + 2) rfl dL_law_750 (nI_add i 2) (by omega) (by omega) ?_
  refine hv_cv2 (hc) dL_law_751 ml_L_93 mk_X11_takeover (by first | rfl | assumption) rfl rfl rfl rfl rfl ?_
  rintro v r1 σ1 τ1 hP
  obtain ⟨A, rfl, rfl, PD, hd, hdd⟩ := hcd v r1 σ1 τ1 hP
  refine hv_aload_n dL_law_754 rfl ?_
  refine hv_aload_n dL_law_755 rfl ?_
  refine hv_iload_n dL_law_756 rfl ?_
  refine hv_iconst (v := 1) dL_law_757 (by decide) ?_
  refine hv_iadd dL_law_758 ?_
  refine hv_sld (j := i + 1) rfl dL_law_759 (nI_add i 1) (by omega) (by omega) ?_
  refine hv_aload_n dL_law_760 rfl ?_
  refine hv_iload_n dL_law_761 rfl ?_
  refine hv_iconst (v := 2) dL_law_762 (by decide) ?_
  refine hv_iadd dL_law_763 ?_
  refine hv_sld (j := i + 2) rfl dL_law_764 (nI_add i 2) (by omega) (by omega) ?_
  refine hv_cv2 (hd) dL_law_765 ml_L_96 mk_X12_takeover (by first | rfl | assumption) rfl rfl rfl rfl rfl ?_
  rintro v2 r2 σ2 τ2 hP2
  obtain ⟨rfl, rfl, hR2⟩ := hdd v2 r2 σ2 τ2 hP2
  refine hv_icmp_eq (tgt := 1336) dL_law_768 (by decide) (fun c_768 => ?_) (fun c_768 => absurd (rfl) c_768)
  exact hE x y σ2 τ2 hR2
set_option maxRecDepth 100000 in
theorem law_motion (hE : ∀ x y σ τ, Rel σ τ → hV G (mLaw nm) 109 lawS shp 1336 (lawlv G i) [] (rr 38 51 x y) σ τ) (hR : Rel σ τ) (hL : (hgX G).2.1 ≤ 3072) (hi : i + 6 ≤ (hgX G).2.1) : hV G (mLaw nm) 109 lawS shp 773 (lawlv G i) [] (rr 38 51 x y) σ τ := by
  obtain ⟨PC, hc, hcd⟩ := q_motion ((hgX G).2.2 (i + 1)) ((hgX G).2.2 (i + 2)) G x y σ τ hR
  refine hv_aload_n dL_law_773 rfl ?_
  refine hv_aload_n dL_law_774 rfl ?_
  refine hv_iload_n dL_law_775 rfl ?_
  refine hv_iconst (v := 1) dL_law_776 (by decide) ?_
  refine hv_iadd dL_law_777 ?_
  refine hv_sld (j := i + 1) rfl dL_law_778 (nI_add i 1) (by omega) (by omega) ?_
  refine hv_aload_n dL_law_779 rfl ?_
  refine hv_iload_n dL_law_780 rfl ?_
  refine hv_iconst (v := 2) dL_law_781 (by decide) ?_
  refine hv_iadd dL_law_782 ?_
  refine hv_sld (j := i + 2) rfl dL_law_783 (nI_add i 2) (by omega) (by omega) ?_
  refine hv_cv2 (hc) dL_law_784 ml_L_97 mk_X11_motion (by first | rfl | assumption) rfl rfl rfl rfl rfl ?_
  rintro v r1 σ1 τ1 hP
  obtain ⟨A, rfl, rfl, PD, hd, hdd⟩ := hcd v r1 σ1 τ1 hP
  refine hv_aload_n dL_law_787 rfl ?_
  refine hv_aload_n dL_law_788 rfl ?_
  refine hv_iload_n dL_law_789 rfl ?_
  refine hv_iconst (v := 1) dL_law_790 (by decide) ?_
  refine hv_iadd dL_law_791 ?_
  refine hv_sld (j := i + 1) rfl dL_law_792 (nI_add i 1) (by omega) (by omega) ?_
  refine hv_aload_n dL_law_793 rfl ?_
  refine hv_iload_n dL_law_794 rfl ?_
  refine hv_iconst (v := 2) dL_law_795 (by decide) ?_
  refine hv_iadd dL_law_796 ?_
  refine hv_sld (j := i + 2) rfl dL_law_797 (nI_add i 2) (by omega) (by omega) ?_
  refine hv_cv2 (hd) dL_law_798 ml_L_100 mk_X12_motion (by first | rfl | assumption) rfl rfl rfl rfl rfl ?_
  rintro v2 r2 σ2 τ2 hP2
  obtain ⟨rfl, rfl, hR2⟩ := hdd v2 r2 σ2 τ2 hP2
  refine hv_icmp_eq (tgt := 1336) dL_law_801 (by decide) (fun c_801 => ?_) (fun c_801 => absurd (rfl) c_801)
  exact hE x y σ2 τ2 hR2
set_option maxRecDepth 100000 in
theorem law_sell (hE : ∀ x y σ τ, Rel σ τ → hV G (mLaw nm) 109 lawS shp 1336 (lawlv G i) [] (rr 38 51 x y) σ τ) (hR : Rel σ τ) (hL : (hgX G).2.1 ≤ 3072) (hi : i + 6 ≤ (hgX G).2.1) : hV G (mLaw nm) 109 lawS shp 806 (lawlv G i) [] (rr 38 51 x y) σ τ := by
  obtain ⟨PC, hc, hcd⟩ := q_sell ((hgX G).2.2 (i + 1)) ((hgX G).2.2 (i + 2)) ((hgX G).2.2 (i + 3)) G x y σ τ hR
  refine hv_aload_n dL_law_806 rfl ?_
  refine hv_aload_n dL_law_807 rfl ?_
  refine hv_iload_n dL_law_808 rfl ?_
  refine hv_iconst (v := 1) dL_law_809 (by decide) ?_
  refine hv_iadd dL_law_810 ?_
  refine hv_sld (j := i + 1) rfl dL_law_811 (nI_add i 1) (by omega) (by omega) ?_
  refine hv_aload_n dL_law_812 rfl ?_
  refine hv_iload_n dL_law_813 rfl ?_
  refine hv_iconst (v := 2) dL_law_814 (by decide) ?_
  refine hv_iadd dL_law_815 ?_
  refine hv_sld (j := i + 2) rfl dL_law_816 (nI_add i 2) (by omega) (by omega) ?_
  refine hv_aload_n dL_law_817 rfl ?_
  refine hv_iload_n dL_law_818 rfl ?_
  refine hv_iconst (v := 3) dL_law_819 (by decide) ?_
  refine hv_iadd dL_law_820 ?_
  refine hv_sld (j := i + 3) rfl dL_law_821 (nI_add i 3) (by omega) (by omega) ?_
  refine hv_cv3 (hc) dL_law_822 ml_L_101 mk_X11_sell (by first | rfl | assumption) rfl rfl rfl rfl rfl ?_
  rintro v r1 σ1 τ1 hP
  obtain ⟨A, rfl, rfl, PD, hd, hdd⟩ := hcd v r1 σ1 τ1 hP
  refine hv_aload_n dL_law_825 rfl ?_
  refine hv_aload_n dL_law_826 rfl ?_
  refine hv_iload_n dL_law_827 rfl ?_
  refine hv_iconst (v := 1) dL_law_828 (by decide) ?_
  refine hv_iadd dL_law_829 ?_
  refine hv_sld (j := i + 1) rfl dL_law_830 (nI_add i 1) (by omega) (by omega) ?_
  refine hv_aload_n dL_law_831 rfl ?_
  refine hv_iload_n dL_law_832 rfl ?_
  refine hv_iconst (v := 2) dL_law_833 (by decide) ?_
  refine hv_iadd dL_law_834 ?_
  refine hv_sld (j := i + 2) rfl dL_law_835 (nI_add i 2) (by omega) (by omega) ?_
  refine hv_aload_n dL_law_836 rfl ?_
  refine hv_iload_n dL_law_837 rfl ?_
  refine hv_iconst (v := 3) dL_law_838 (by decide) ?_
  refine hv_iadd dL_law_839 ?_
  refine hv_sld (j := i + 3) rfl dL_law_840 (nI_add i 3) (by omega) (by omega) ?_
  refine hv_cv3 (hd) dL_law_841 ml_L_104 mk_X12_sell (by first | rfl | assumption) rfl rfl rfl rfl rfl ?_
  rintro v2 r2 σ2 τ2 hP2
  obtain ⟨rfl, rfl, hR2⟩ := hdd v2 r2 σ2 τ2 hP2
  refine hv_icmp_eq (tgt := 1336) dL_law_844 (by decide) (fun c_844 => ?_) (fun c_844 => absurd (rfl) c_844)
  exact hE x y σ2 τ2 hR2
set_option maxRecDepth 100000 in
theorem law_salting (hE : ∀ x y σ τ, Rel σ τ → hV G (mLaw nm) 109 lawS shp 1336 (lawlv G i) [] (rr 38 51 x y) σ τ) (hR : Rel σ τ) (hL : (hgX G).2.1 ≤ 3072) (hi : i + 6 ≤ (hgX G).2.1) : hV G (mLaw nm) 109 lawS shp 849 (lawlv G i) [] (rr 38 51 x y) σ τ := by
  obtain ⟨PC, hc, hcd⟩ := q_salting ((hgX G).2.2 (i + 1)) ((hgX G).2.2 (i + 2)) G x y σ τ hR
  refine hv_aload_n dL_law_849 rfl ?_
  refine hv_aload_n dL_law_850 rfl ?_
  refine hv_iload_n dL_law_851 rfl ?_
  refine hv_iconst (v := 1) dL_law_852 (by decide) ?_
  refine hv_iadd dL_law_853 ?_
  refine hv_sld (j := i + 1) rfl dL_law_854 (nI_add i 1) (by omega) (by omega) ?_
  refine hv_aload_n dL_law_855 rfl ?_
  refine hv_iload_n dL_law_856 rfl ?_
  refine hv_iconst (v := 2) dL_law_857 (by decide) ?_
  refine hv_iadd dL_law_858 ?_
  refine hv_sld (j := i + 2) rfl dL_law_859 (nI_add i 2) (by omega) (by omega) ?_
  refine hv_cv2 (hc) dL_law_860 ml_L_105 mk_X11_salting (by first | rfl | assumption) rfl rfl rfl rfl rfl ?_
  rintro v r1 σ1 τ1 hP
  obtain ⟨A, rfl, rfl, PD, hd, hdd⟩ := hcd v r1 σ1 τ1 hP
  refine hv_aload_n dL_law_863 rfl ?_
  refine hv_aload_n dL_law_864 rfl ?_
  refine hv_iload_n dL_law_865 rfl ?_
  refine hv_iconst (v := 1) dL_law_866 (by decide) ?_
  refine hv_iadd dL_law_867 ?_
  refine hv_sld (j := i + 1) rfl dL_law_868 (nI_add i 1) (by omega) (by omega) ?_
  refine hv_aload_n dL_law_869 rfl ?_
  refine hv_iload_n dL_law_870 rfl ?_
  refine hv_iconst (v := 2) dL_law_871 (by decide) ?_
  refine hv_iadd dL_law_872 ?_
  refine hv_sld (j := i + 2) rfl dL_law_873 (nI_add i 2) (by omega) (by omega) ?_
  refine hv_cv2 (hd) dL_law_874 ml_L_108 mk_X12_salting (by first | rfl | assumption) rfl rfl rfl rfl rfl ?_
  rintro v2 r2 σ2 τ2 hP2
  obtain ⟨rfl, rfl, hR2⟩ := hdd v2 r2 σ2 τ2 hP2
  refine hv_icmp_eq (tgt := 1336) dL_law_877 (by decide) (fun c_877 => ?_) (fun c_877 => absurd (rfl) c_877)
  exact hE x y σ2 τ2 hR2
set_option maxRecDepth 100000 in
theorem law_dearest (hE : ∀ x y σ τ, Rel σ τ → hV G (mLaw nm) 109 lawS shp 1336 (lawlv G i) [] (rr 38 51 x y) σ τ) (hR : Rel σ τ) (hL : (hgX G).2.1 ≤ 3072) (hi : i + 6 ≤ (hgX G).2.1) : hV G (mLaw nm) 109 lawS shp 882 (lawlv G i) [] (rr 38 51 x y) σ τ := by
  obtain ⟨PC, hc, hcd⟩ := q_dearest ((hgX G).2.2 (i + 1)) ((hgX G).2.2 (i + 2)) G x y σ τ hR
  refine hv_aload_n dL_law_882 rfl ?_
  refine hv_aload_n dL_law_883 rfl ?_
  refine hv_iload_n dL_law_884 rfl ?_
  refine hv_iconst (v := 1) dL_law_885 (by decide) ?_
  refine hv_iadd dL_law_886 ?_
  refine hv_sld (j := i + 1) rfl dL_law_887 (nI_add i 1) (by omega) (by omega) ?_
  refine hv_aload_n dL_law_888 rfl ?_
  refine hv_iload_n dL_law_889 rfl ?_
  refine hv_iconst (v := 2) dL_law_890 (by decide) ?_
  refine hv_iadd dL_law_891 ?_
  refine hv_sld (j := i + 2) rfl dL_law_892 (nI_add i 2) (by omega) (by omega) ?_
  refine hv_cv2 (hc) dL_law_893 ml_L_109 mk_X11_dearest (by first | rfl | assumption) rfl rfl rfl rfl rfl ?_
  rintro v r1 σ1 τ1 hP
  obtain ⟨A, rfl, rfl, PD, hd, hdd⟩ := hcd v r1 σ1 τ1 hP
  refine hv_aload_n dL_law_896 rfl ?_
  refine hv_aload_n dL_law_897 rfl ?_
  refine hv_iload_n dL_law_898 rfl ?_
  refine hv_iconst (v := 1) dL_law_899 (by decide) ?_
  refine hv_iadd dL_law_900 ?_
  refine hv_sld (j := i + 1) rfl dL_law_901 (nI_add i 1) (by omega) (by omega) ?_
  refine hv_aload_n dL_law_902 rfl ?_
  refine hv_iload_n dL_law_903 rfl ?_
  refine hv_iconst (v := 2) dL_law_904 (by decide) ?_
  refine hv_iadd dL_law_905 ?_
  refine hv_sld (j := i + 2) rfl dL_law_906 (nI_add i 2) (by omega) (by omega) ?_
  refine hv_cv2 (hd) dL_law_907 ml_L_112 mk_X12_dearest (by first | rfl | assumption) rfl rfl rfl rfl rfl ?_
  rintro v2 r2 σ2 τ2 hP2
  obtain ⟨rfl, rfl, hR2⟩ := hdd v2 r2 σ2 τ2 hP2
  refine hv_icmp_eq (tgt := 1336) dL_law_910 (by decide) (fun c_910 => ?_) (fun c_910 => absurd (rfl) c_910)
  exact hE x y σ2 τ2 hR2
set_option maxRecDepth 100000 in
theorem law_poorest (hE : ∀ x y σ τ, Rel σ τ → hV G (mLaw nm) 109 lawS shp 1336 (lawlv G i) [] (rr 38 51 x y) σ τ) (hR : Rel σ τ) (hL : (hgX G).2.1 ≤ 3072) (hi : i + 6 ≤ (hgX G).2.1) : hV G (mLaw nm) 109 lawS shp 915 (lawlv G i) [] (rr 38 51 x y) σ τ := by
  obtain ⟨PC, hc, hcd⟩ := q_poorest ((hgX G).2.2 (i + 1)) ((hgX G).2.2 (i + 2)) G x y σ τ hR
  refine hv_aload_n dL_law_915 rfl ?_
  refine hv_aload_n dL_law_916 rfl ?_
  refine hv_iload_n dL_law_917 rfl ?_
  refine hv_iconst (v := 1) dL_law_918 (by decide) ?_
  refine hv_iadd dL_law_919 ?_
  refine hv_sld (j := i + 1) rfl dL_law_920 (nI_add i 1) (by omega) (by omega) ?_
  refine hv_aload_n dL_law_921 rfl ?_
  refine hv_iload_n dL_law_922 rfl ?_
  refine hv_iconst (v := 2) dL_law_923 (by decide) ?_
  refine hv_iadd dL_law_924 ?_
  refine hv_sld (j := i + 2) rfl dL_law_925 (nI_add i 2) (by omega) (by omega) ?_
  refine hv_cv2 (hc) dL_law_926 ml_L_113 mk_X11_poorest (by first | rfl | assumption) rfl rfl rfl rfl rfl ?_
  rintro v r1 σ1 τ1 hP
  obtain ⟨A, rfl, rfl, PD, hd, hdd⟩ := hcd v r1 σ1 τ1 hP
  refine hv_aload_n dL_law_929 rfl ?_
  refine hv_aload_n dL_law_930 rfl ?_
  refine hv_iload_n dL_law_931 rfl ?_
  refine hv_iconst (v := 1) dL_law_932 (by decide) ?_
  refine hv_iadd dL_law_933 ?_
  refine hv_sld (j := i + 1) rfl dL_law_934 (nI_add i 1) (by omega) (by omega) ?_
  refine hv_aload_n dL_law_935 rfl ?_
  refine hv_iload_n dL_law_936 rfl ?_
  refine hv_iconst (v := 2) dL_law_937 (by decide) ?_
  refine hv_iadd dL_law_938 ?_
  refine hv_sld (j := i + 2) rfl dL_law_939 (nI_add i 2) (by omega) (by omega) ?_
  refine hv_cv2 (hd) dL_law_940 ml_L_116 mk_X12_poorest (by first | rfl | assumption) rfl rfl rfl rfl rfl ?_
  rintro v2 r2 σ2 τ2 hP2
  obtain ⟨rfl, rfl, hR2⟩ := hdd v2 r2 σ2 τ2 hP2
  refine hv_icmp_eq (tgt := 1336) dL_law_943 (by decide) (fun c_943 => ?_) (fun c_943 => absurd (rfl) c_943)
  exact hE x y σ2 τ2 hR2
set_option maxRecDepth 100000 in
theorem law_quiet (hE : ∀ x y σ τ, Rel σ τ → hV G (mLaw nm) 109 lawS shp 1336 (lawlv G i) [] (rr 38 51 x y) σ τ) (hR : Rel σ τ) (hL : (hgX G).2.1 ≤ 3072) (hi : i + 6 ≤ (hgX G).2.1) : hV G (mLaw nm) 109 lawS shp 948 (lawlv G i) [] (rr 38 51 x y) σ τ := by
  obtain ⟨PC, hc, hcd⟩ := q_quiet ((hgX G).2.2 (i + 1)) G x y σ τ hR
  refine hv_aload_n dL_law_948 rfl ?_
  refine hv_aload_n dL_law_949 rfl ?_
  refine hv_iload_n dL_law_950 rfl ?_
  refine hv_iconst (v := 1) dL_law_951 (by decide) ?_
  refine hv_iadd dL_law_952 ?_
  refine hv_sld (j := i + 1) rfl dL_law_953 (nI_add i 1) (by omega) (by omega) ?_
  refine hv_cv1 (hc) dL_law_954 ml_L_117 mk_X11_quiet (by first | rfl | assumption) rfl rfl rfl rfl rfl ?_
  rintro v r1 σ1 τ1 hP
  obtain ⟨A, rfl, rfl, PD, hd, hdd⟩ := hcd v r1 σ1 τ1 hP
  refine hv_aload_n dL_law_957 rfl ?_
  refine hv_aload_n dL_law_958 rfl ?_
  refine hv_iload_n dL_law_959 rfl ?_
  refine hv_iconst (v := 1) dL_law_960 (by decide) ?_
  refine hv_iadd dL_law_961 ?_
  refine hv_sld (j := i + 1) rfl dL_law_962 (nI_add i 1) (by omega) (by omega) ?_
  refine hv_cv1 (hd) dL_law_963 ml_L_120 mk_X12_quiet (by first | rfl | assumption) rfl rfl rfl rfl rfl ?_
  rintro v2 r2 σ2 τ2 hP2
  obtain ⟨rfl, rfl, hR2⟩ := hdd v2 r2 σ2 τ2 hP2
  refine hv_icmp_eq (tgt := 1336) dL_law_966 (by decide) (fun c_966 => ?_) (fun c_966 => absurd (rfl) c_966)
  exact hE x y σ2 τ2 hR2
set_option maxRecDepth 100000 in
theorem law_share (hE : ∀ x y σ τ, Rel σ τ → hV G (mLaw nm) 109 lawS shp 1336 (lawlv G i) [] (rr 38 51 x y) σ τ) (hR : Rel σ τ) (hL : (hgX G).2.1 ≤ 3072) (hi : i + 6 ≤ (hgX G).2.1) : hV G (mLaw nm) 109 lawS shp 971 (lawlv G i) [] (rr 38 51 x y) σ τ := by
  obtain ⟨PC, hc, hcd⟩ := q_share ((hgX G).2.2 (i + 1)) G x y σ τ hR
  refine hv_aload_n dL_law_971 rfl ?_
  refine hv_aload_n dL_law_972 rfl ?_
  refine hv_iload_n dL_law_973 rfl ?_
  refine hv_iconst (v := 1) dL_law_974 (by decide) ?_
  refine hv_iadd dL_law_975 ?_
  refine hv_sld (j := i + 1) rfl dL_law_976 (nI_add i 1) (by omega) (by omega) ?_
  refine hv_cv1 (hc) dL_law_977 ml_L_121 mk_X11_share (by first | rfl | assumption) rfl rfl rfl rfl rfl ?_
  rintro v r1 σ1 τ1 hP
  obtain ⟨A, rfl, rfl, PD, hd, hdd⟩ := hcd v r1 σ1 τ1 hP
  refine hv_aload_n dL_law_980 rfl ?_
  refine hv_aload_n dL_law_981 rfl ?_
  refine hv_iload_n dL_law_982 rfl ?_
  refine hv_iconst (v := 1) dL_law_983 (by decide) ?_
  refine hv_iadd dL_law_984 ?_
  refine hv_sld (j := i + 1) rfl dL_law_985 (nI_add i 1) (by omega) (by omega) ?_
  refine hv_cv1 (hd) dL_law_986 ml_L_124 mk_X12_share (by first | rfl | assumption) rfl rfl rfl rfl rfl ?_
  rintro v2 r2 σ2 τ2 hP2
  obtain ⟨rfl, rfl, hR2⟩ := hdd v2 r2 σ2 τ2 hP2
  refine hv_icmp_eq (tgt := 1336) dL_law_989 (by decide) (fun c_989 => ?_) (fun c_989 => absurd (rfl) c_989)
  exact hE x y σ2 τ2 hR2
set_option maxRecDepth 100000 in
theorem law_priceIn (hE : ∀ x y σ τ, Rel σ τ → hV G (mLaw nm) 109 lawS shp 1336 (lawlv G i) [] (rr 38 51 x y) σ τ) (hR : Rel σ τ) (hL : (hgX G).2.1 ≤ 3072) (hi : i + 6 ≤ (hgX G).2.1) : hV G (mLaw nm) 109 lawS shp 994 (lawlv G i) [] (rr 38 51 x y) σ τ := by
  obtain ⟨PC, hc, hcd⟩ := q_priceIn ((hgX G).2.2 (i + 1)) G x y σ τ hR
  refine hv_aload_n dL_law_994 rfl ?_
  refine hv_aload_n dL_law_995 rfl ?_
  refine hv_iload_n dL_law_996 rfl ?_
  refine hv_iconst (v := 1) dL_law_997 (by decide) ?_
  refine hv_iadd dL_law_998 ?_
  refine hv_sld (j := i + 1) rfl dL_law_999 (nI_add i 1) (by omega) (by omega) ?_
  refine hv_cv1 (hc) dL_law_1000 ml_L_125 mk_X11_priceIn (by first | rfl | assumption) rfl rfl rfl rfl rfl ?_
  rintro v r1 σ1 τ1 hP
  obtain ⟨A, rfl, rfl, PD, hd, hdd⟩ := hcd v r1 σ1 τ1 hP
  refine hv_aload_n dL_law_1003 rfl ?_
  refine hv_aload_n dL_law_1004 rfl ?_
  refine hv_iload_n dL_law_1005 rfl ?_
  refine hv_iconst (v := 1) dL_law_1006 (by decide) ?_
  refine hv_iadd dL_law_1007 ?_
  refine hv_sld (j := i + 1) rfl dL_law_1008 (nI_add i 1) (by omega) (by omega) ?_
  refine hv_cv1 (hd) dL_law_1009 ml_L_128 mk_X12_priceIn (by first | rfl | assumption) rfl rfl rfl rfl rfl ?_
  rintro v2 r2 σ2 τ2 hP2
  obtain ⟨rfl, rfl, hR2⟩ := hdd v2 r2 σ2 τ2 hP2
  refine hv_icmp_eq (tgt := 1336) dL_law_1012 (by decide) (fun c_1012 => ?_) (fun c_1012 => absurd (rfl) c_1012)
  exact hE x y σ2 τ2 hR2
set_option maxRecDepth 100000 in
theorem law_then (hE : ∀ x y σ τ, Rel σ τ → hV G (mLaw nm) 109 lawS shp 1336 (lawlv G i) [] (rr 38 51 x y) σ τ) (hR : Rel σ τ) (hL : (hgX G).2.1 ≤ 3072) (hi : i + 6 ≤ (hgX G).2.1) : hV G (mLaw nm) 109 lawS shp 1017 (lawlv G i) [] (rr 38 51 x y) σ τ := by
  obtain ⟨PC, hc, hcd⟩ := q_then ((hgX G).2.2 (i + 1)) ((hgX G).2.2 (i + 2)) ((hgX G).2.2 (i + 3)) G x y σ τ hR
  refine hv_aload_n dL_law_1017 rfl ?_
  refine hv_aload_n dL_law_1018 rfl ?_
  refine hv_iload_n dL_law_1019 rfl ?_
  refine hv_iconst (v := 1) dL_law_1020 (by decide) ?_
  refine hv_iadd dL_law_1021 ?_
  refine hv_sld (j := i + 1) rfl dL_law_1022 (nI_add i 1) (by omega) (by omega) ?_
  refine hv_aload_n dL_law_1023 rfl ?_
  refine hv_iload_n dL_law_1024 rfl ?_
  refine hv_iconst (v := 2) dL_law_1025 (by decide) ?_
  refine hv_iadd dL_law_1026 ?_
  refine hv_sld (j := i + 2) rfl dL_law_1027 (nI_add i 2) (by omega) (by omega) ?_
  refine hv_aload_n dL_law_1028 rfl ?_
  refine hv_iload_n dL_law_1029 rfl ?_
  refine hv_iconst (v := 3) dL_law_1030 (by decide) ?_
  refine hv_iadd dL_law_1031 ?_
  refine hv_sld (j := i + 3) rfl dL_law_1032 (nI_add i 3) (by omega) (by omega) ?_
  refine hv_cv3 (hc) dL_law_1033 ml_L_129 mk_X11_then (by first | rfl | assumption) rfl rfl rfl rfl rfl ?_
  rintro v r1 σ1 τ1 hP
  obtain ⟨A, rfl, rfl, PD, hd, hdd⟩ := hcd v r1 σ1 τ1 hP
  refine hv_aload_n dL_law_1036 rfl ?_
  refine hv_aload_n dL_law_1037 rfl ?_
  refine hv_iload_n dL_law_1038 rfl ?_
  refine hv_iconst (v := 1) dL_law_1039 (by decide) ?_
  refine hv_iadd dL_law_1040 ?_
  refine hv_sld (j := i + 1) rfl dL_law_1041 (nI_add i 1) (by omega) (by omega) ?_
  refine hv_aload_n dL_law_1042 rfl ?_
  refine hv_iload_n dL_law_1043 rfl ?_
  refine hv_iconst (v := 2) dL_law_1044 (by decide) ?_
  refine hv_iadd dL_law_1045 ?_
  refine hv_sld (j := i + 2) rfl dL_law_1046 (nI_add i 2) (by omega) (by omega) ?_
  refine hv_aload_n dL_law_1047 rfl ?_
  refine hv_iload_n dL_law_1048 rfl ?_
  refine hv_iconst (v := 3) dL_law_1049 (by decide) ?_
  refine hv_iadd dL_law_1050 ?_
  refine hv_sld (j := i + 3) rfl dL_law_1051 (nI_add i 3) (by omega) (by omega) ?_
  refine hv_cv3 (hd) dL_law_1052 ml_L_132 mk_X12_then (by first | rfl | assumption) rfl rfl rfl rfl rfl ?_
  rintro v2 r2 σ2 τ2 hP2
  obtain ⟨rfl, rfl, hR2⟩ := hdd v2 r2 σ2 τ2 hP2
  refine hv_icmp_eq (tgt := 1336) dL_law_1055 (by decide) (fun c_1055 => ?_) (fun c_1055 => absurd (rfl) c_1055)
  exact hE x y σ2 τ2 hR2
set_option maxRecDepth 100000 in
theorem law_allIn (hE : ∀ x y σ τ, Rel σ τ → hV G (mLaw nm) 109 lawS shp 1336 (lawlv G i) [] (rr 38 51 x y) σ τ) (hR : Rel σ τ) (hL : (hgX G).2.1 ≤ 3072) (hi : i + 6 ≤ (hgX G).2.1) : hV G (mLaw nm) 109 lawS shp 1060 (lawlv G i) [] (rr 38 51 x y) σ τ := by
  obtain ⟨PC, hc, hcd⟩ := q_allIn ((hgX G).2.2 (i + 1)) G x y σ τ hR
  refine hv_aload_n dL_law_1060 rfl ?_
  refine hv_aload_n dL_law_1061 rfl ?_
  refine hv_iload_n dL_law_1062 rfl ?_
  refine hv_iconst (v := 1) dL_law_1063 (by decide) ?_
  refine hv_iadd dL_law_1064 ?_
  refine hv_sld (j := i + 1) rfl dL_law_1065 (nI_add i 1) (by omega) (by omega) ?_
  refine hv_cv1 (hc) dL_law_1066 ml_L_133 mk_X11_allIn (by first | rfl | assumption) rfl rfl rfl rfl rfl ?_
  rintro v r1 σ1 τ1 hP
  obtain ⟨A, rfl, rfl, PD, hd, hdd⟩ := hcd v r1 σ1 τ1 hP
  refine hv_aload_n dL_law_1069 rfl ?_
  refine hv_aload_n dL_law_1070 rfl ?_
  refine hv_iload_n dL_law_1071 rfl ?_
  refine hv_iconst (v := 1) dL_law_1072 (by decide) ?_
  refine hv_iadd dL_law_1073 ?_
  refine hv_sld (j := i + 1) rfl dL_law_1074 (nI_add i 1) (by omega) (by omega) ?_
  refine hv_cv1 (hd) dL_law_1075 ml_L_136 mk_X12_allIn (by first | rfl | assumption) rfl rfl rfl rfl rfl ?_
  rintro v2 r2 σ2 τ2 hP2
  obtain ⟨rfl, rfl, hR2⟩ := hdd v2 r2 σ2 τ2 hP2
  refine hv_icmp_eq (tgt := 1336) dL_law_1078 (by decide) (fun c_1078 => ?_) (fun c_1078 => absurd (rfl) c_1078)
  exact hE x y σ2 τ2 hR2
set_option maxRecDepth 100000 in
theorem law_deals (hE : ∀ x y σ τ, Rel σ τ → hV G (mLaw nm) 109 lawS shp 1336 (lawlv G i) [] (rr 38 51 x y) σ τ) (hR : Rel σ τ) (hL : (hgX G).2.1 ≤ 3072) (hi : i + 6 ≤ (hgX G).2.1) : hV G (mLaw nm) 109 lawS shp 1083 (lawlv G i) [] (rr 38 51 x y) σ τ := by
  obtain ⟨PC, hc, hcd⟩ := q_deals ((hgX G).2.2 (i + 1)) G x y σ τ hR
  refine hv_aload_n dL_law_1083 rfl ?_
  refine hv_aload_n dL_law_1084 rfl ?_
  refine hv_iload_n dL_law_1085 rfl ?_
  refine hv_iconst (v := 1) dL_law_1086 (by decide) ?_
  refine hv_iadd dL_law_1087 ?_
  refine hv_sld (j := i + 1) rfl dL_law_1088 (nI_add i 1) (by omega) (by omega) ?_
  refine hv_cv1 (hc) dL_law_1089 ml_L_137 mk_X11_deals (by first | rfl | assumption) rfl rfl rfl rfl rfl ?_
  rintro v r1 σ1 τ1 hP
  obtain ⟨A, rfl, rfl, PD, hd, hdd⟩ := hcd v r1 σ1 τ1 hP
  refine hv_aload_n dL_law_1092 rfl ?_
  refine hv_aload_n dL_law_1093 rfl ?_
  refine hv_iload_n dL_law_1094 rfl ?_
  refine hv_iconst (v := 1) dL_law_1095 (by decide) ?_
  refine hv_iadd dL_law_1096 ?_
  refine hv_sld (j := i + 1) rfl dL_law_1097 (nI_add i 1) (by omega) (by omega) ?_
  refine hv_cv1 (hd) dL_law_1098 ml_L_140 mk_X12_deals (by first | rfl | assumption) rfl rfl rfl rfl rfl ?_
  rintro v2 r2 σ2 τ2 hP2
  obtain ⟨rfl, rfl, hR2⟩ := hdd v2 r2 σ2 τ2 hP2
  refine hv_icmp_eq (tgt := 1336) dL_law_1101 (by decide) (fun c_1101 => ?_) (fun c_1101 => absurd (rfl) c_1101)
  exact hE x y σ2 τ2 hR2
set_option maxRecDepth 100000 in
theorem law_ruin (hE : ∀ x y σ τ, Rel σ τ → hV G (mLaw nm) 109 lawS shp 1336 (lawlv G i) [] (rr 38 51 x y) σ τ) (hR : Rel σ τ) (hL : (hgX G).2.1 ≤ 3072) (hi : i + 6 ≤ (hgX G).2.1) : hV G (mLaw nm) 109 lawS shp 1106 (lawlv G i) [] (rr 38 51 x y) σ τ := by
  obtain ⟨PC, hc, hcd⟩ := q_ruin ((hgX G).2.2 (i + 1)) ((hgX G).2.2 (i + 2)) ((hgX G).2.2 (i + 3)) G x y σ τ hR
  refine hv_aload_n dL_law_1106 rfl ?_
  refine hv_aload_n dL_law_1107 rfl ?_
  refine hv_iload_n dL_law_1108 rfl ?_
  refine hv_iconst (v := 1) dL_law_1109 (by decide) ?_
  refine hv_iadd dL_law_1110 ?_
  refine hv_sld (j := i + 1) rfl dL_law_1111 (nI_add i 1) (by omega) (by omega) ?_
  refine hv_aload_n dL_law_1112 rfl ?_
  refine hv_iload_n dL_law_1113 rfl ?_
  refine hv_iconst (v := 2) dL_law_1114 (by decide) ?_
  refine hv_iadd dL_law_1115 ?_
  refine hv_sld (j := i + 2) rfl dL_law_1116 (nI_add i 2) (by omega) (by omega) ?_
  refine hv_aload_n dL_law_1117 rfl ?_
  refine hv_iload_n dL_law_1118 rfl ?_
  refine hv_iconst (v := 3) dL_law_1119 (by decide) ?_
  refine hv_iadd dL_law_1120 ?_
  refine hv_sld (j := i + 3) rfl dL_law_1121 (nI_add i 3) (by omega) (by omega) ?_
  refine hv_cv3 (hc) dL_law_1122 ml_L_141 mk_X11_ruin (by first | rfl | assumption) rfl rfl rfl rfl rfl ?_
  rintro v r1 σ1 τ1 hP
  obtain ⟨A, rfl, rfl, PD, hd, hdd⟩ := hcd v r1 σ1 τ1 hP
  refine hv_aload_n dL_law_1125 rfl ?_
  refine hv_aload_n dL_law_1126 rfl ?_
  refine hv_iload_n dL_law_1127 rfl ?_
  refine hv_iconst (v := 1) dL_law_1128 (by decide) ?_
  refine hv_iadd dL_law_1129 ?_
  refine hv_sld (j := i + 1) rfl dL_law_1130 (nI_add i 1) (by omega) (by omega) ?_
  refine hv_aload_n dL_law_1131 rfl ?_
  refine hv_iload_n dL_law_1132 rfl ?_
  refine hv_iconst (v := 2) dL_law_1133 (by decide) ?_
  refine hv_iadd dL_law_1134 ?_
  refine hv_sld (j := i + 2) rfl dL_law_1135 (nI_add i 2) (by omega) (by omega) ?_
  refine hv_aload_n dL_law_1136 rfl ?_
  refine hv_iload_n dL_law_1137 rfl ?_
  refine hv_iconst (v := 3) dL_law_1138 (by decide) ?_
  refine hv_iadd dL_law_1139 ?_
  refine hv_sld (j := i + 3) rfl dL_law_1140 (nI_add i 3) (by omega) (by omega) ?_
  refine hv_cv3 (hd) dL_law_1141 ml_L_144 mk_X12_ruin (by first | rfl | assumption) rfl rfl rfl rfl rfl ?_
  rintro v2 r2 σ2 τ2 hP2
  obtain ⟨rfl, rfl, hR2⟩ := hdd v2 r2 σ2 τ2 hP2
  refine hv_icmp_eq (tgt := 1336) dL_law_1144 (by decide) (fun c_1144 => ?_) (fun c_1144 => absurd (rfl) c_1144)
  exact hE x y σ2 τ2 hR2
set_option maxRecDepth 100000 in
theorem law_tell (hE : ∀ x y σ τ, Rel σ τ → hV G (mLaw nm) 109 lawS shp 1336 (lawlv G i) [] (rr 38 51 x y) σ τ) (hR : Rel σ τ) (hL : (hgX G).2.1 ≤ 3072) (hi : i + 6 ≤ (hgX G).2.1) : hV G (mLaw nm) 109 lawS shp 1149 (lawlv G i) [] (rr 38 51 x y) σ τ := by
  by_cases hz : (hgX G).2.2 (i + 2) = 0
  · skip
    obtain ⟨PC, hc, hcd⟩ := q_tell ((hgX G).2.2 (i + 1)) 0 (Or.inl rfl) G x y σ τ hR
    refine hv_aload_n dL_law_1149 rfl ?_
    refine hv_aload_n dL_law_1150 rfl ?_
    refine hv_iload_n dL_law_1151 rfl ?_
    refine hv_iconst (v := 1) dL_law_1152 (by decide) ?_
    refine hv_iadd dL_law_1153 ?_
    refine hv_sld (j := i + 1) rfl dL_law_1154 (nI_add i 1) (by omega) (by omega) ?_
    refine hv_aload_n dL_law_1155 rfl ?_
    refine hv_iload_n dL_law_1156 rfl ?_
    refine hv_iconst (v := 2) dL_law_1157 (by decide) ?_
    refine hv_iadd dL_law_1158 ?_
    refine hv_sld (j := i + 2) rfl dL_law_1159 (nI_add i 2) (by omega) (by omega) ?_
    refine hv_if_eq (tgt := 1167) dL_law_1160 (by decide) (fun c_1160 => ?_) (fun c_1160 => absurd (hz) c_1160)
    refine hv_iconst (v := 0) dL_law_1167 (by decide) ?_
    refine hv_cv2 (hc) dL_law_1168 ml_L_145 mk_X11_tell (by first | rfl | assumption) rfl rfl rfl rfl rfl ?_
    rintro v r1 σ1 τ1 hP
    obtain ⟨A, rfl, rfl, PD, hd, hdd⟩ := hcd v r1 σ1 τ1 hP
    refine hv_aload_n dL_law_1171 rfl ?_
    refine hv_aload_n dL_law_1172 rfl ?_
    refine hv_iload_n dL_law_1173 rfl ?_
    refine hv_iconst (v := 1) dL_law_1174 (by decide) ?_
    refine hv_iadd dL_law_1175 ?_
    refine hv_sld (j := i + 1) rfl dL_law_1176 (nI_add i 1) (by omega) (by omega) ?_
    refine hv_aload_n dL_law_1177 rfl ?_
    refine hv_iload_n dL_law_1178 rfl ?_
    refine hv_iconst (v := 2) dL_law_1179 (by decide) ?_
    refine hv_iadd dL_law_1180 ?_
    refine hv_sld (j := i + 2) rfl dL_law_1181 (nI_add i 2) (by omega) (by omega) ?_
    refine hv_if_eq (tgt := 1189) dL_law_1182 (by decide) (fun c_1182 => ?_) (fun c_1182 => absurd (hz) c_1182)
    refine hv_iconst (v := 0) dL_law_1189 (by decide) ?_
    refine hv_cv2 (hd) dL_law_1190 ml_L_148 mk_X12_tell (by first | rfl | assumption) rfl rfl rfl rfl rfl ?_
    rintro v2 r2 σ2 τ2 hP2
    obtain ⟨rfl, rfl, hR2⟩ := hdd v2 r2 σ2 τ2 hP2
    refine hv_icmp_eq (tgt := 1336) dL_law_1193 (by decide) (fun c_1193 => ?_) (fun c_1193 => absurd (rfl) c_1193)
    exact hE x y σ2 τ2 hR2
  · skip
    obtain ⟨PC, hc, hcd⟩ := q_tell ((hgX G).2.2 (i + 1)) 1 (Or.inr rfl) G x y σ τ hR
    refine hv_aload_n dL_law_1149 rfl ?_
    refine hv_aload_n dL_law_1150 rfl ?_
    refine hv_iload_n dL_law_1151 rfl ?_
    refine hv_iconst (v := 1) dL_law_1152 (by decide) ?_
    refine hv_iadd dL_law_1153 ?_
    refine hv_sld (j := i + 1) rfl dL_law_1154 (nI_add i 1) (by omega) (by omega) ?_
    refine hv_aload_n dL_law_1155 rfl ?_
    refine hv_iload_n dL_law_1156 rfl ?_
    refine hv_iconst (v := 2) dL_law_1157 (by decide) ?_
    refine hv_iadd dL_law_1158 ?_
    refine hv_sld (j := i + 2) rfl dL_law_1159 (nI_add i 2) (by omega) (by omega) ?_
    refine hv_if_eq (tgt := 1167) dL_law_1160 (by decide) (fun c_1160 => absurd c_1160 (hz)) (fun c_1160 => ?_)
    refine hv_iconst (v := 1) dL_law_1163 (by decide) ?_
    refine hv_goto (tgt := 1168) dL_law_1164 (by decide) ?_
    refine hv_cv2 (hc) dL_law_1168 ml_L_145 mk_X11_tell (by first | rfl | assumption) rfl rfl rfl rfl rfl ?_
    rintro v r1 σ1 τ1 hP
    obtain ⟨A, rfl, rfl, PD, hd, hdd⟩ := hcd v r1 σ1 τ1 hP
    refine hv_aload_n dL_law_1171 rfl ?_
    refine hv_aload_n dL_law_1172 rfl ?_
    refine hv_iload_n dL_law_1173 rfl ?_
    refine hv_iconst (v := 1) dL_law_1174 (by decide) ?_
    refine hv_iadd dL_law_1175 ?_
    refine hv_sld (j := i + 1) rfl dL_law_1176 (nI_add i 1) (by omega) (by omega) ?_
    refine hv_aload_n dL_law_1177 rfl ?_
    refine hv_iload_n dL_law_1178 rfl ?_
    refine hv_iconst (v := 2) dL_law_1179 (by decide) ?_
    refine hv_iadd dL_law_1180 ?_
    refine hv_sld (j := i + 2) rfl dL_law_1181 (nI_add i 2) (by omega) (by omega) ?_
    refine hv_if_eq (tgt := 1189) dL_law_1182 (by decide) (fun c_1182 => absurd c_1182 (hz)) (fun c_1182 => ?_)
    refine hv_iconst (v := 1) dL_law_1185 (by decide) ?_
    refine hv_goto (tgt := 1190) dL_law_1186 (by decide) ?_
    refine hv_cv2 (hd) dL_law_1190 ml_L_148 mk_X12_tell (by first | rfl | assumption) rfl rfl rfl rfl rfl ?_
    rintro v2 r2 σ2 τ2 hP2
    obtain ⟨rfl, rfl, hR2⟩ := hdd v2 r2 σ2 τ2 hP2
    refine hv_icmp_eq (tgt := 1336) dL_law_1193 (by decide) (fun c_1193 => ?_) (fun c_1193 => absurd (rfl) c_1193)
    exact hE x y σ2 τ2 hR2
set_option maxRecDepth 100000 in
theorem law_forget (hE : ∀ x y σ τ, Rel σ τ → hV G (mLaw nm) 109 lawS shp 1336 (lawlv G i) [] (rr 38 51 x y) σ τ) (hR : Rel σ τ) (hL : (hgX G).2.1 ≤ 3072) (hi : i + 6 ≤ (hgX G).2.1) : hV G (mLaw nm) 109 lawS shp 1198 (lawlv G i) [] (rr 38 51 x y) σ τ := by
  obtain ⟨PC, hc, hcd⟩ := q_forget G x y σ τ hR
  refine hv_aload_n dL_law_1198 rfl ?_
  refine hv_cv0 (hc) dL_law_1199 ml_L_149 mk_X11_forget (by first | rfl | assumption) rfl rfl rfl rfl rfl ?_
  rintro v r1 σ1 τ1 hP
  obtain ⟨A, rfl, rfl, PD, hd, hdd⟩ := hcd v r1 σ1 τ1 hP
  refine hv_aload_n dL_law_1202 rfl ?_
  refine hv_cv0 (hd) dL_law_1203 ml_L_152 mk_X12_forget (by first | rfl | assumption) rfl rfl rfl rfl rfl ?_
  rintro v2 r2 σ2 τ2 hP2
  obtain ⟨rfl, rfl, hR2⟩ := hdd v2 r2 σ2 τ2 hP2
  refine hv_icmp_eq (tgt := 1336) dL_law_1206 (by decide) (fun c_1206 => ?_) (fun c_1206 => absurd (rfl) c_1206)
  exact hE x y σ2 τ2 hR2
set_option maxRecDepth 100000 in
theorem law_began (hE : ∀ x y σ τ, Rel σ τ → hV G (mLaw nm) 109 lawS shp 1336 (lawlv G i) [] (rr 38 51 x y) σ τ) (hR : Rel σ τ) (hL : (hgX G).2.1 ≤ 3072) (hi : i + 6 ≤ (hgX G).2.1) : hV G (mLaw nm) 109 lawS shp 1211 (lawlv G i) [] (rr 38 51 x y) σ τ := by
  obtain ⟨PC, hc, hcd⟩ := q_began ((hgX G).2.2 (i + 1)) ((hgX G).2.2 (i + 2)) G x y σ τ hR
  refine hv_aload_n dL_law_1211 rfl ?_
  refine hv_aload_n dL_law_1212 rfl ?_
  refine hv_iload_n dL_law_1213 rfl ?_
  refine hv_iconst (v := 1) dL_law_1214 (by decide) ?_
  refine hv_iadd dL_law_1215 ?_
  refine hv_sld (j := i + 1) rfl dL_law_1216 (nI_add i 1) (by omega) (by omega) ?_
  refine hv_aload_n dL_law_1217 rfl ?_
  refine hv_iload_n dL_law_1218 rfl ?_
  refine hv_iconst (v := 2) dL_law_1219 (by decide) ?_
  refine hv_iadd dL_law_1220 ?_
  refine hv_sld (j := i + 2) rfl dL_law_1221 (nI_add i 2) (by omega) (by omega) ?_
  refine hv_cv2 (hc) dL_law_1222 ml_L_153 mk_X11_began (by first | rfl | assumption) rfl rfl rfl rfl rfl ?_
  rintro v r1 σ1 τ1 hP
  obtain ⟨A, rfl, rfl, PD, hd, hdd⟩ := hcd v r1 σ1 τ1 hP
  refine hv_aload_n dL_law_1225 rfl ?_
  refine hv_aload_n dL_law_1226 rfl ?_
  refine hv_iload_n dL_law_1227 rfl ?_
  refine hv_iconst (v := 1) dL_law_1228 (by decide) ?_
  refine hv_iadd dL_law_1229 ?_
  refine hv_sld (j := i + 1) rfl dL_law_1230 (nI_add i 1) (by omega) (by omega) ?_
  refine hv_aload_n dL_law_1231 rfl ?_
  refine hv_iload_n dL_law_1232 rfl ?_
  refine hv_iconst (v := 2) dL_law_1233 (by decide) ?_
  refine hv_iadd dL_law_1234 ?_
  refine hv_sld (j := i + 2) rfl dL_law_1235 (nI_add i 2) (by omega) (by omega) ?_
  refine hv_cv2 (hd) dL_law_1236 ml_L_156 mk_X12_began (by first | rfl | assumption) rfl rfl rfl rfl rfl ?_
  rintro v2 r2 σ2 τ2 hP2
  obtain ⟨rfl, rfl, hR2⟩ := hdd v2 r2 σ2 τ2 hP2
  refine hv_icmp_eq (tgt := 1336) dL_law_1239 (by decide) (fun c_1239 => ?_) (fun c_1239 => absurd (rfl) c_1239)
  exact hE x y σ2 τ2 hR2
set_option maxRecDepth 100000 in
theorem law_ask (hE : ∀ x y σ τ, Rel σ τ → hV G (mLaw nm) 109 lawS shp 1336 (lawlv G i) [] (rr 38 51 x y) σ τ) (hR : Rel σ τ) (hL : (hgX G).2.1 ≤ 3072) (hi : i + 6 ≤ (hgX G).2.1) : hV G (mLaw nm) 109 lawS shp 1244 (lawlv G i) [] (rr 38 51 x y) σ τ := by
  obtain ⟨PC, hc, hcd⟩ := q_ask ((hgX G).2.2 (i + 1)) G x y σ τ hR
  refine hv_aload_n dL_law_1244 rfl ?_
  refine hv_aload_n dL_law_1245 rfl ?_
  refine hv_iload_n dL_law_1246 rfl ?_
  refine hv_iconst (v := 1) dL_law_1247 (by decide) ?_
  refine hv_iadd dL_law_1248 ?_
  refine hv_sld (j := i + 1) rfl dL_law_1249 (nI_add i 1) (by omega) (by omega) ?_
  refine hv_cv1 (hc) dL_law_1250 ml_L_157 mk_X11_ask (by first | rfl | assumption) rfl rfl rfl rfl rfl ?_
  rintro v r1 σ1 τ1 hP
  obtain ⟨A, rfl, rfl, PD, hd, hdd⟩ := hcd v r1 σ1 τ1 hP
  refine hv_aload_n dL_law_1253 rfl ?_
  refine hv_aload_n dL_law_1254 rfl ?_
  refine hv_iload_n dL_law_1255 rfl ?_
  refine hv_iconst (v := 1) dL_law_1256 (by decide) ?_
  refine hv_iadd dL_law_1257 ?_
  refine hv_sld (j := i + 1) rfl dL_law_1258 (nI_add i 1) (by omega) (by omega) ?_
  refine hv_cv1 (hd) dL_law_1259 ml_L_160 mk_X12_ask (by first | rfl | assumption) rfl rfl rfl rfl rfl ?_
  rintro v2 r2 σ2 τ2 hP2
  obtain ⟨rfl, rfl, hR2⟩ := hdd v2 r2 σ2 τ2 hP2
  refine hv_icmp_eq (tgt := 1336) dL_law_1262 (by decide) (fun c_1262 => ?_) (fun c_1262 => absurd (rfl) c_1262)
  exact hE x y σ2 τ2 hR2
set_option maxRecDepth 100000 in
theorem law_hold (hE : ∀ x y σ τ, Rel σ τ → hV G (mLaw nm) 109 lawS shp 1336 (lawlv G i) [] (rr 38 51 x y) σ τ) (hR : Rel σ τ) (hL : (hgX G).2.1 ≤ 3072) (hi : i + 6 ≤ (hgX G).2.1) : hV G (mLaw nm) 109 lawS shp 1267 (lawlv G i) [] (rr 38 51 x y) σ τ := by
  obtain ⟨PC, hc, hcd⟩ := q_hold ((hgX G).2.2 (i + 1)) G x y σ τ hR
  refine hv_aload_n dL_law_1267 rfl ?_
  refine hv_aload_n dL_law_1268 rfl ?_
  refine hv_iload_n dL_law_1269 rfl ?_
  refine hv_iconst (v := 1) dL_law_1270 (by decide) ?_
  refine hv_iadd dL_law_1271 ?_
  refine hv_sld (j := i + 1) rfl dL_law_1272 (nI_add i 1) (by omega) (by omega) ?_
  refine hv_cv1 (hc) dL_law_1273 ml_L_161 mk_X11_hold (by first | rfl | assumption) rfl rfl rfl rfl rfl ?_
  rintro v r1 σ1 τ1 hP
  obtain ⟨A, rfl, rfl, PD, hd, hdd⟩ := hcd v r1 σ1 τ1 hP
  refine hv_aload_n dL_law_1276 rfl ?_
  refine hv_aload_n dL_law_1277 rfl ?_
  refine hv_iload_n dL_law_1278 rfl ?_
  refine hv_iconst (v := 1) dL_law_1279 (by decide) ?_
  refine hv_iadd dL_law_1280 ?_
  refine hv_sld (j := i + 1) rfl dL_law_1281 (nI_add i 1) (by omega) (by omega) ?_
  refine hv_cv1 (hd) dL_law_1282 ml_L_165 mk_X12_hold (by first | rfl | assumption) rfl rfl rfl rfl rfl ?_
  rintro v2 r2 σ2 τ2 hP2
  obtain ⟨rfl, rfl, hR2⟩ := hdd v2 r2 σ2 τ2 hP2
  refine hv_icmp_eq (tgt := 1336) dL_law_1285 (by decide) (fun c_1285 => ?_) (fun c_1285 => absurd (rfl) c_1285)
  exact hE x y σ2 τ2 hR2
set_option maxRecDepth 100000 in
theorem law_restore (hE : ∀ x y σ τ, Rel σ τ → hV G (mLaw nm) 109 lawS shp 1336 (lawlv G i) [] (rr 38 51 x y) σ τ) (hR : Rel σ τ) (hL : (hgX G).2.1 ≤ 3072) (hi : i + 6 ≤ (hgX G).2.1) : hV G (mLaw nm) 109 lawS shp 1290 (lawlv G i) [] (rr 38 51 x y) σ τ := by
  obtain ⟨PC, hc, hcd⟩ := q_restore ((hgX G).2.2 (i + 1)) G x y σ τ hR
  refine hv_aload_n dL_law_1290 rfl ?_
  refine hv_aload_n dL_law_1291 rfl ?_
  refine hv_iload_n dL_law_1292 rfl ?_
  refine hv_iconst (v := 1) dL_law_1293 (by decide) ?_
  refine hv_iadd dL_law_1294 ?_
  refine hv_sld (j := i + 1) rfl dL_law_1295 (nI_add i 1) (by omega) (by omega) ?_
  refine hv_cv1 (hc) dL_law_1296 ml_L_166 mk_X11_restore (by first | rfl | assumption) rfl rfl rfl rfl rfl ?_
  rintro v r1 σ1 τ1 hP
  obtain ⟨A, rfl, rfl, PD, hd, hdd⟩ := hcd v r1 σ1 τ1 hP
  refine hv_aload_n dL_law_1299 rfl ?_
  refine hv_aload_n dL_law_1300 rfl ?_
  refine hv_iload_n dL_law_1301 rfl ?_
  refine hv_iconst (v := 1) dL_law_1302 (by decide) ?_
  refine hv_iadd dL_law_1303 ?_
  refine hv_sld (j := i + 1) rfl dL_law_1304 (nI_add i 1) (by omega) (by omega) ?_
  refine hv_cv1 (hd) dL_law_1305 ml_L_169 mk_X12_restore (by first | rfl | assumption) rfl rfl rfl rfl rfl ?_
  rintro v2 r2 σ2 τ2 hP2
  obtain ⟨rfl, rfl, hR2⟩ := hdd v2 r2 σ2 τ2 hP2
  refine hv_icmp_eq (tgt := 1336) dL_law_1308 (by decide) (fun c_1308 => ?_) (fun c_1308 => absurd (rfl) c_1308)
  exact hE x y σ2 τ2 hR2
set_option maxRecDepth 100000 in
theorem law_count (hE : ∀ x y σ τ, Rel σ τ → hV G (mLaw nm) 109 lawS shp 1336 (lawlv G i) [] (rr 38 51 x y) σ τ) (hR : Rel σ τ) (hL : (hgX G).2.1 ≤ 3072) (hi : i + 6 ≤ (hgX G).2.1) : hV G (mLaw nm) 109 lawS shp 1313 (lawlv G i) [] (rr 38 51 x y) σ τ := by
  obtain ⟨PC, hc, hcd⟩ := q_count ((hgX G).2.2 (i + 1)) G x y σ τ hR
  refine hv_aload_n dL_law_1313 rfl ?_
  refine hv_aload_n dL_law_1314 rfl ?_
  refine hv_iload_n dL_law_1315 rfl ?_
  refine hv_iconst (v := 1) dL_law_1316 (by decide) ?_
  refine hv_iadd dL_law_1317 ?_
  refine hv_sld (j := i + 1) rfl dL_law_1318 (nI_add i 1) (by omega) (by omega) ?_
  refine hv_cv1 (hc) dL_law_1319 ml_L_170 mk_X11_count (by first | rfl | assumption) rfl rfl rfl rfl rfl ?_
  rintro v r1 σ1 τ1 hP
  obtain ⟨A, rfl, rfl, PD, hd, hdd⟩ := hcd v r1 σ1 τ1 hP
  refine hv_aload_n dL_law_1322 rfl ?_
  refine hv_aload_n dL_law_1323 rfl ?_
  refine hv_iload_n dL_law_1324 rfl ?_
  refine hv_iconst (v := 1) dL_law_1325 (by decide) ?_
  refine hv_iadd dL_law_1326 ?_
  refine hv_sld (j := i + 1) rfl dL_law_1327 (nI_add i 1) (by omega) (by omega) ?_
  refine hv_cv1 (hd) dL_law_1328 ml_L_173 mk_X12_count (by first | rfl | assumption) rfl rfl rfl rfl rfl ?_
  rintro v2 r2 σ2 τ2 hP2
  obtain ⟨rfl, rfl, hR2⟩ := hdd v2 r2 σ2 τ2 hP2
  refine hv_icmp_eq (tgt := 1336) dL_law_1331 (by decide) (fun c_1331 => ?_) (fun c_1331 => absurd (rfl) c_1331)
  exact hE x y σ2 τ2 hR2
end S9zf
theorem gt_out {i L : Nat} (hi : i ≤ 4000) (hL : L ≤ 3072) (h : ¬ i + 6 ≤ L) : nI i > nI L - 6 := by
  have e : (nI L - nI 6).toInt = (L : Int) - 6 := pk_sub_toInt (by omega) (by decide)
  refine Int32.lt_iff_toInt_lt.mpr ?_
  show (nI L - nI 6).toInt < _
  rw [e, nI_toInt (by omega)]
  omega
theorem gt_in {i L : Nat} (hL : L ≤ 3072) (h : i + 6 ≤ L) : ¬ nI i > nI L - 6 := by
  intro q
  have e : (nI L - nI 6).toInt = (L : Int) - 6 := pk_sub_toInt (by omega) (by decide)
  have := Int32.lt_iff_toInt_lt.mp q
  have q2 : (nI L - nI 6).toInt < (nI i).toInt := this
  rw [e, nI_toInt (by omega)] at q2
  omega
set_option maxRecDepth 100000 in
theorem law_loop {nm : String} : ∀ (k i : Nat) (G : hGl) (x y : Option Nat) (σ : hS) (τ : hT), (hgX G).2.1 ≤ 3072 → i ≤ 3080 → (hgX G).2.1 ≤ i + k → Rel σ τ → hV G (mLaw nm) 109 lawS shp 18 (lawlv G i) [] (rr 38 51 x y) σ τ := by
  intro k
  induction k with
  | zero =>
    intro i G x y σ τ hL hi hk hR
    refine hv_iload_n dL_law_18 rfl ?_
    refine hv_aload_n dL_law_19 rfl ?_
    refine hv_slen rfl dL_law_20 ?_
    refine hv_bipush (v := 6) dL_law_21 (by decide) ?_
    refine hv_isub dL_law_23 ?_
    refine hv_icmp_gt (tgt := 1342) dL_law_24 (by decide) (fun c_24 => ?_) (fun c_24 => absurd ((gt_out (by omega) hL (by omega))) c_24)
    refine hv_nil ?_
    refine hv_iconst (v := 1) dL_law_1342 (by decide) ?_
    refine hv_zret dL_law_1343 rfl (by first | exact Or.inl rfl | exact Or.inr rfl | assumption) ?_
    rfl
  | succ k ih =>
    intro i G x y σ τ hL hi hk hR
    by_cases h6 : i + 6 ≤ (hgX G).2.1
    · have hE : ∀ G2 : hGl, hgX G2 = hgX G → hgA G2 0 = hgA G 0 → hgA G2 64 = hgA G 64 → ∀ x y σ τ, Rel σ τ → hV G2 (mLaw nm) 109 lawS shp 1336 (lawlv G i) [] (rr 38 51 x y) σ τ := by
        intro G2 g1 g2 g3 x y σ τ hR
        have e : lawlv G i = lawlv G2 i := by unfold lawlv; rw [g1, g2, g3]
        rw [e]
        have hL2 : (hgX G2).2.1 ≤ 3072 := by rw [g1]; exact hL
        refine hv_iinc dL_law_1336 rfl (nI_add i 6) rfl rfl ?_
        refine hv_goto (tgt := 18) dL_law_1339 (by decide) ?_
        exact ih (i + 6) G2 x y σ τ hL2 (by omega) (by rw [g1]; omega) hR
      refine hv_iload_n dL_law_18 rfl ?_
      refine hv_aload_n dL_law_19 rfl ?_
      refine hv_slen rfl dL_law_20 ?_
      refine hv_bipush (v := 6) dL_law_21 (by decide) ?_
      refine hv_isub dL_law_23 ?_
      refine hv_icmp_gt (tgt := 1342) dL_law_24 (by decide) (fun c_24 => absurd c_24 ((gt_in hL h6))) (fun c_24 => ?_)
      refine hv_aload_n dL_law_27 rfl ?_
      refine hv_iload_n dL_law_28 rfl ?_
      refine hv_sld (j := i) rfl dL_law_29 rfl (by omega) (by omega) ?_
      refine hv_bipush (v := 63) dL_law_30 (by decide) ?_
      refine hv_iand dL_law_32 ?_
      by_cases c_33_0 : ((hgX G).2.2 i &&& 63) = 0
      · refine hv_tin (off := 167) (tgt := 200) (i := 0) dL_law_33 c_33_0 (by decide) (by decide) (by decide) (by decide) ?_
        exact law_feed (hE G rfl rfl rfl) hR hL h6
      by_cases c_33_1 : ((hgX G).2.2 i &&& 63) = 1
      · refine hv_tin (off := 230) (tgt := 263) (i := 1) dL_law_33 c_33_1 (by decide) (by decide) (by decide) (by decide) ?_
        exact law_back (hE G rfl rfl rfl) hR hL h6
      by_cases c_33_2 : ((hgX G).2.2 i &&& 63) = 2
      · refine hv_tin (off := 253) (tgt := 286) (i := 2) dL_law_33 c_33_2 (by decide) (by decide) (by decide) (by decide) ?_
        exact law_read hE hR hL h6
      by_cases c_33_3 : ((hgX G).2.2 i &&& 63) = 3
      · refine hv_tin (off := 266) (tgt := 299) (i := 3) dL_law_33 c_33_3 (by decide) (by decide) (by decide) (by decide) ?_
        exact law_place (hE G rfl rfl rfl) hR hL h6
      by_cases c_33_4 : ((hgX G).2.2 i &&& 63) = 4
      · refine hv_tin (off := 279) (tgt := 312) (i := 4) dL_law_33 c_33_4 (by decide) (by decide) (by decide) (by decide) ?_
        exact law_house (hE G rfl rfl rfl) hR hL h6
      by_cases c_33_5 : ((hgX G).2.2 i &&& 63) = 5
      · refine hv_tin (off := 312) (tgt := 345) (i := 5) dL_law_33 c_33_5 (by decide) (by decide) (by decide) (by decide) ?_
        exact law_tells (hE G rfl rfl rfl) hR hL h6
      by_cases c_33_6 : ((hgX G).2.2 i &&& 63) = 6
      · refine hv_tin (off := 345) (tgt := 378) (i := 6) dL_law_33 c_33_6 (by decide) (by decide) (by decide) (by decide) ?_
        exact law_buy (hE G rfl rfl rfl) hR hL h6
      by_cases c_33_7 : ((hgX G).2.2 i &&& 63) = 7
      · refine hv_tin (off := 388) (tgt := 421) (i := 7) dL_law_33 c_33_7 (by decide) (by decide) (by decide) (by decide) ?_
        exact law_eat (hE G rfl rfl rfl) hR hL h6
      by_cases c_33_8 : ((hgX G).2.2 i &&& 63) = 8
      · refine hv_tin (off := 421) (tgt := 454) (i := 8) dL_law_33 c_33_8 (by decide) (by decide) (by decide) (by decide) ?_
        exact law_salts (hE G rfl rfl rfl) hR hL h6
      by_cases c_33_9 : ((hgX G).2.2 i &&& 63) = 9
      · refine hv_tin (off := 454) (tgt := 487) (i := 9) dL_law_33 c_33_9 (by decide) (by decide) (by decide) (by decide) ?_
        exact law_proxy (hE G rfl rfl rfl) hR hL h6
      by_cases c_33_10 : ((hgX G).2.2 i &&& 63) = 10
      · refine hv_tin (off := 487) (tgt := 520) (i := 10) dL_law_33 c_33_10 (by decide) (by decide) (by decide) (by decide) ?_
        exact law_days (hE G rfl rfl rfl) hR hL h6
      by_cases c_33_11 : ((hgX G).2.2 i &&& 63) = 11
      · refine hv_tin (off := 510) (tgt := 543) (i := 11) dL_law_33 c_33_11 (by decide) (by decide) (by decide) (by decide) ?_
        exact law_undo (hE G rfl rfl rfl) hR hL h6
      by_cases c_33_12 : ((hgX G).2.2 i &&& 63) = 12
      · refine hv_tin (off := 523) (tgt := 556) (i := 12) dL_law_33 c_33_12 (by decide) (by decide) (by decide) (by decide) ?_
        exact law_panic (hE G rfl rfl rfl) hR hL h6
      by_cases c_33_13 : ((hgX G).2.2 i &&& 63) = 13
      · refine hv_tin (off := 546) (tgt := 579) (i := 13) dL_law_33 c_33_13 (by decide) (by decide) (by decide) (by decide) ?_
        exact law_spark (hE G rfl rfl rfl) hR hL h6
      by_cases c_33_14 : ((hgX G).2.2 i &&& 63) = 14
      · refine hv_tin (off := 569) (tgt := 602) (i := 14) dL_law_33 c_33_14 (by decide) (by decide) (by decide) (by decide) ?_
        exact law_calm (hE G rfl rfl rfl) hR hL h6
      by_cases c_33_15 : ((hgX G).2.2 i &&& 63) = 15
      · refine hv_tin (off := 612) (tgt := 645) (i := 15) dL_law_33 c_33_15 (by decide) (by decide) (by decide) (by decide) ?_
        exact law_power (hE G rfl rfl rfl) hR hL h6
      by_cases c_33_16 : ((hgX G).2.2 i &&& 63) = 16
      · refine hv_tin (off := 661) (tgt := 694) (i := 16) dL_law_33 c_33_16 (by decide) (by decide) (by decide) (by decide) ?_
        exact law_strongest (hE G rfl rfl rfl) hR hL h6
      by_cases c_33_17 : ((hgX G).2.2 i &&& 63) = 17
      · refine hv_tin (off := 684) (tgt := 717) (i := 17) dL_law_33 c_33_17 (by decide) (by decide) (by decide) (by decide) ?_
        exact law_allies (hE G rfl rfl rfl) hR hL h6
      by_cases c_33_18 : ((hgX G).2.2 i &&& 63) = 18
      · refine hv_tin (off := 707) (tgt := 740) (i := 18) dL_law_33 c_33_18 (by decide) (by decide) (by decide) (by decide) ?_
        exact law_takeover (hE G rfl rfl rfl) hR hL h6
      by_cases c_33_19 : ((hgX G).2.2 i &&& 63) = 19
      · refine hv_tin (off := 740) (tgt := 773) (i := 19) dL_law_33 c_33_19 (by decide) (by decide) (by decide) (by decide) ?_
        exact law_motion (hE G rfl rfl rfl) hR hL h6
      by_cases c_33_20 : ((hgX G).2.2 i &&& 63) = 20
      · refine hv_tin (off := 773) (tgt := 806) (i := 20) dL_law_33 c_33_20 (by decide) (by decide) (by decide) (by decide) ?_
        exact law_sell (hE G rfl rfl rfl) hR hL h6
      by_cases c_33_21 : ((hgX G).2.2 i &&& 63) = 21
      · refine hv_tin (off := 816) (tgt := 849) (i := 21) dL_law_33 c_33_21 (by decide) (by decide) (by decide) (by decide) ?_
        exact law_salting (hE G rfl rfl rfl) hR hL h6
      by_cases c_33_22 : ((hgX G).2.2 i &&& 63) = 22
      · refine hv_tin (off := 849) (tgt := 882) (i := 22) dL_law_33 c_33_22 (by decide) (by decide) (by decide) (by decide) ?_
        exact law_dearest (hE G rfl rfl rfl) hR hL h6
      by_cases c_33_23 : ((hgX G).2.2 i &&& 63) = 23
      · refine hv_tin (off := 882) (tgt := 915) (i := 23) dL_law_33 c_33_23 (by decide) (by decide) (by decide) (by decide) ?_
        exact law_poorest (hE G rfl rfl rfl) hR hL h6
      by_cases c_33_24 : ((hgX G).2.2 i &&& 63) = 24
      · refine hv_tin (off := 915) (tgt := 948) (i := 24) dL_law_33 c_33_24 (by decide) (by decide) (by decide) (by decide) ?_
        exact law_quiet (hE G rfl rfl rfl) hR hL h6
      by_cases c_33_25 : ((hgX G).2.2 i &&& 63) = 25
      · refine hv_tin (off := 938) (tgt := 971) (i := 25) dL_law_33 c_33_25 (by decide) (by decide) (by decide) (by decide) ?_
        exact law_share (hE G rfl rfl rfl) hR hL h6
      by_cases c_33_26 : ((hgX G).2.2 i &&& 63) = 26
      · refine hv_tin (off := 961) (tgt := 994) (i := 26) dL_law_33 c_33_26 (by decide) (by decide) (by decide) (by decide) ?_
        exact law_priceIn (hE G rfl rfl rfl) hR hL h6
      by_cases c_33_27 : ((hgX G).2.2 i &&& 63) = 27
      · refine hv_tin (off := 984) (tgt := 1017) (i := 27) dL_law_33 c_33_27 (by decide) (by decide) (by decide) (by decide) ?_
        exact law_then (hE G rfl rfl rfl) hR hL h6
      by_cases c_33_28 : ((hgX G).2.2 i &&& 63) = 28
      · refine hv_tin (off := 1027) (tgt := 1060) (i := 28) dL_law_33 c_33_28 (by decide) (by decide) (by decide) (by decide) ?_
        exact law_allIn (hE G rfl rfl rfl) hR hL h6
      by_cases c_33_29 : ((hgX G).2.2 i &&& 63) = 29
      · refine hv_tin (off := 1050) (tgt := 1083) (i := 29) dL_law_33 c_33_29 (by decide) (by decide) (by decide) (by decide) ?_
        exact law_deals (hE G rfl rfl rfl) hR hL h6
      by_cases c_33_30 : ((hgX G).2.2 i &&& 63) = 30
      · refine hv_tin (off := 1073) (tgt := 1106) (i := 30) dL_law_33 c_33_30 (by decide) (by decide) (by decide) (by decide) ?_
        exact law_ruin (hE G rfl rfl rfl) hR hL h6
      by_cases c_33_31 : ((hgX G).2.2 i &&& 63) = 31
      · refine hv_tin (off := 1116) (tgt := 1149) (i := 31) dL_law_33 c_33_31 (by decide) (by decide) (by decide) (by decide) ?_
        exact law_tell (hE G rfl rfl rfl) hR hL h6
      by_cases c_33_32 : ((hgX G).2.2 i &&& 63) = 32
      · refine hv_tin (off := 1165) (tgt := 1198) (i := 32) dL_law_33 c_33_32 (by decide) (by decide) (by decide) (by decide) ?_
        exact law_forget (hE G rfl rfl rfl) hR hL h6
      by_cases c_33_33 : ((hgX G).2.2 i &&& 63) = 33
      · refine hv_tin (off := 1178) (tgt := 1211) (i := 33) dL_law_33 c_33_33 (by decide) (by decide) (by decide) (by decide) ?_
        exact law_began (hE G rfl rfl rfl) hR hL h6
      by_cases c_33_34 : ((hgX G).2.2 i &&& 63) = 34
      · refine hv_tin (off := 1211) (tgt := 1244) (i := 34) dL_law_33 c_33_34 (by decide) (by decide) (by decide) (by decide) ?_
        exact law_ask (hE G rfl rfl rfl) hR hL h6
      by_cases c_33_35 : ((hgX G).2.2 i &&& 63) = 35
      · refine hv_tin (off := 1234) (tgt := 1267) (i := 35) dL_law_33 c_33_35 (by decide) (by decide) (by decide) (by decide) ?_
        exact law_hold (hE G rfl rfl rfl) hR hL h6
      by_cases c_33_36 : ((hgX G).2.2 i &&& 63) = 36
      · refine hv_tin (off := 1257) (tgt := 1290) (i := 36) dL_law_33 c_33_36 (by decide) (by decide) (by decide) (by decide) ?_
        exact law_restore (hE G rfl rfl rfl) hR hL h6
      by_cases c_33_37 : ((hgX G).2.2 i &&& 63) = 37
      · refine hv_tin (off := 1280) (tgt := 1313) (i := 37) dL_law_33 c_33_37 (by decide) (by decide) (by decide) (by decide) ?_
        exact law_count (hE G rfl rfl rfl) hR hL h6
      refine hv_tout (tgt := 1336) dL_law_33 (by have q0 := lv_neT (a := 0) c_33_0 (by decide); have q1 := lv_neT (a := 1) c_33_1 (by decide); have q2 := lv_neT (a := 2) c_33_2 (by decide); have q3 := lv_neT (a := 3) c_33_3 (by decide); have q4 := lv_neT (a := 4) c_33_4 (by decide); have q5 := lv_neT (a := 5) c_33_5 (by decide); have q6 := lv_neT (a := 6) c_33_6 (by decide); have q7 := lv_neT (a := 7) c_33_7 (by decide); have q8 := lv_neT (a := 8) c_33_8 (by decide); have q9 := lv_neT (a := 9) c_33_9 (by decide); have q10 := lv_neT (a := 10) c_33_10 (by decide); have q11 := lv_neT (a := 11) c_33_11 (by decide); have q12 := lv_neT (a := 12) c_33_12 (by decide); have q13 := lv_neT (a := 13) c_33_13 (by decide); have q14 := lv_neT (a := 14) c_33_14 (by decide); have q15 := lv_neT (a := 15) c_33_15 (by decide); have q16 := lv_neT (a := 16) c_33_16 (by decide); have q17 := lv_neT (a := 17) c_33_17 (by decide); have q18 := lv_neT (a := 18) c_33_18 (by decide); have q19 := lv_neT (a := 19) c_33_19 (by decide); have q20 := lv_neT (a := 20) c_33_20 (by decide); have q21 := lv_neT (a := 21) c_33_21 (by decide); have q22 := lv_neT (a := 22) c_33_22 (by decide); have q23 := lv_neT (a := 23) c_33_23 (by decide); have q24 := lv_neT (a := 24) c_33_24 (by decide); have q25 := lv_neT (a := 25) c_33_25 (by decide); have q26 := lv_neT (a := 26) c_33_26 (by decide); have q27 := lv_neT (a := 27) c_33_27 (by decide); have q28 := lv_neT (a := 28) c_33_28 (by decide); have q29 := lv_neT (a := 29) c_33_29 (by decide); have q30 := lv_neT (a := 30) c_33_30 (by decide); have q31 := lv_neT (a := 31) c_33_31 (by decide); have q32 := lv_neT (a := 32) c_33_32 (by decide); have q33 := lv_neT (a := 33) c_33_33 (by decide); have q34 := lv_neT (a := 34) c_33_34 (by decide); have q35 := lv_neT (a := 35) c_33_35 (by decide); have q36 := lv_neT (a := 36) c_33_36 (by decide); have q37 := lv_neT (a := 37) c_33_37 (by decide); omega) (by decide) ?_
      exact hE G rfl rfl rfl x y σ τ hR
    · skip
      refine hv_iload_n dL_law_18 rfl ?_
      refine hv_aload_n dL_law_19 rfl ?_
      refine hv_slen rfl dL_law_20 ?_
      refine hv_bipush (v := 6) dL_law_21 (by decide) ?_
      refine hv_isub dL_law_23 ?_
      refine hv_icmp_gt (tgt := 1342) dL_law_24 (by decide) (fun c_24 => ?_) (fun c_24 => absurd ((gt_out (by omega) hL h6)) c_24)
      refine hv_nil ?_
      refine hv_iconst (v := 1) dL_law_1342 (by decide) ?_
      refine hv_zret dL_law_1343 rfl (by first | exact Or.inl rfl | exact Or.inr rfl | assumption) ?_
      rfl
abbrev r00 : hR := fun _ _ => none
abbrev τ00 : hT := fun _ _ => 0
set_option maxRecDepth 100000 in
theorem cR_X11_rr : ∀ k, k < 64 → ∀ j, j < 100 → cR_X11_init_1 (nO 0 r00) k j = rr 38 51 none none k j := by decide +kernel
set_option maxRecDepth 100000 in
theorem law_start {nm : String} {G : hGl} (hg : hgN G) (hL : (hgX G).2.1 ≤ 3072) : hV G (mLaw nm) 0 0 (shp.take 0) 0 [some (.ref (hgX G).1), none, none, none] [] r00 σ00 τ00 := by
  refine hv_new (n := 0) (ci := 11) (Sh' := shp.take 1) dL_law_0 rfl kl_L_7 ki_X11 kn_X11 rfl rfl hg rfl rfl rfl rfl ?_
  refine hv_dup dL_law_3 rfl ?_
  refine hv_ci0 (k_X11_init_1 hg) dL_law_4 ml_L_9 mk_X11_init rfl rfl rfl rfl hg rfl rfl rfl ?_
  rintro _ _ _ _ ⟨rfl, rfl, rfl, rfl⟩
  refine hv_astore_n dL_law_7 rfl rfl ?_
  refine hv_cg (r' := rr 38 51 none none) (σ' := σ11) (τ' := τ00) (hWd_r (shp.take 64) 0 (fun i hi j hj => cR_X11_rr i (by have : (shp.take 64).length = 64 := rfl; omega) j hj)) ?_
  refine hv_new (n := 64) (ci := 12) (Sh' := shp.take 65) dL_law_8 rfl kl_L_10 ki_X12 kn_X12 rfl rfl hg rfl rfl rfl rfl ?_
  refine hv_dup dL_law_11 rfl ?_
  refine hv_ci0 (k_X12_init (σ := σ11) hg) dL_law_12 ml_L_12 mk_X12_init rfl rfl rfl rfl hg rfl rfl rfl ?_
  rintro v r1 σ1 τ1 ⟨rfl, rfl, h1, h2, h3⟩
  refine hv_astore_n dL_law_15 rfl rfl ?_
  refine hv_iconst (v := 0) dL_law_16 (by decide) ?_
  refine hv_istore_n dL_law_17 rfl rfl ?_
  exact law_loop (hgX G).2.1 0 G none none σ1 τ1 hL (by omega) (by omega) (Rel_0 h1 h2 h3)

