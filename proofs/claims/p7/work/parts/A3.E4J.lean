/-! each case of the switch -/
theorem lk_103 : lcK ct_48 0 false false = true := by decide +kernel
theorem wx_103 : wfree ct_48 = true := by decide +kernel
theorem lk_245 : lcK ct_149 0 false false = true := by decide +kernel
theorem wx_245 : wfree ct_149 = true := by decide +kernel
theorem cs_8 {N : Nat} {E : Env9} (hN : N ≤ 3072) (hE : PE N E) : CaseOK (runM 200) N E 8 := case_C0 (h := 103) (w := 245) hN hE rfl (calK_of (cc_48 200 (by decide)) (fun v u v' u' => lift1 (cc_48 200 (by decide)) wx_103) lk_103 ⟨a0, trivial⟩) (calK_of (cc_149 200 (by decide)) (fun v u v' u' => lift1 (cc_149 200 (by decide)) wx_245) lk_245 ⟨a452, trivial⟩)
theorem lk_105 : lcK ct_50 0 false false = true := by decide +kernel
theorem wx_105 : wfree ct_50 = true := by decide +kernel
theorem lk_263 : lcK ct_151 0 false false = true := by decide +kernel
theorem wx_263 : wfree ct_151 = true := by decide +kernel
theorem cs_11 {N : Nat} {E : Env9} (hN : N ≤ 3072) (hE : PE N E) : CaseOK (runM 200) N E 11 := case_C0 (h := 105) (w := 263) hN hE rfl (calK_of (cc_50 200 (by decide)) (fun v u v' u' => lift1 (cc_50 200 (by decide)) wx_105) lk_105 ⟨a0, trivial⟩) (calK_of (cc_151 200 (by decide)) (fun v u v' u' => lift1 (cc_151 200 (by decide)) wx_263) lk_263 ⟨a452, trivial⟩)
theorem lk_106 : lcK ct_51 0 false false = true := by decide +kernel
theorem wx_106 : wfree ct_51 = true := by decide +kernel
theorem lk_264 : lcK ct_152 0 false false = true := by decide +kernel
theorem wx_264 : wfree ct_152 = true := by decide +kernel
theorem cs_12 {N : Nat} {E : Env9} (hN : N ≤ 3072) (hE : PE N E) : CaseOK (runM 200) N E 12 := case_C0 (h := 106) (w := 264) hN hE rfl (calK_of (cc_51 200 (by decide)) (fun v u v' u' => lift1 (cc_51 200 (by decide)) wx_106) lk_106 ⟨a0, trivial⟩) (calK_of (cc_152 200 (by decide)) (fun v u v' u' => lift1 (cc_152 200 (by decide)) wx_264) lk_264 ⟨a452, trivial⟩)
theorem lk_107 : lcK ct_52 0 false false = true := by decide +kernel
theorem wx_107 : wfree ct_52 = true := by decide +kernel
theorem lk_265 : lcK ct_153 0 false false = true := by decide +kernel
theorem wx_265 : wfree ct_153 = true := by decide +kernel
theorem cs_13 {N : Nat} {E : Env9} (hN : N ≤ 3072) (hE : PE N E) : CaseOK (runM 200) N E 13 := case_C0 (h := 107) (w := 265) hN hE rfl (calK_of (cc_52 200 (by decide)) (fun v u v' u' => lift1 (cc_52 200 (by decide)) wx_107) lk_107 ⟨a0, trivial⟩) (calK_of (cc_153 200 (by decide)) (fun v u v' u' => lift1 (cc_153 200 (by decide)) wx_265) lk_265 ⟨a452, trivial⟩)
theorem lk_108 : lcK ct_53 0 false false = true := by decide +kernel
theorem wx_108 : wfree ct_53 = true := by decide +kernel
theorem lk_266 : lcK ct_154 0 false false = true := by decide +kernel
theorem wx_266 : wfree ct_154 = true := by decide +kernel
theorem cs_14 {N : Nat} {E : Env9} (hN : N ≤ 3072) (hE : PE N E) : CaseOK (runM 200) N E 14 := case_C0 (h := 108) (w := 266) hN hE rfl (calK_of (cc_53 200 (by decide)) (fun v u v' u' => lift1 (cc_53 200 (by decide)) wx_108) lk_108 ⟨a0, trivial⟩) (calK_of (cc_154 200 (by decide)) (fun v u v' u' => lift1 (cc_154 200 (by decide)) wx_266) lk_266 ⟨a452, trivial⟩)
theorem lk_349 : lcK cl_349 0 false false = true := by decide +kernel
theorem wx_349 : wfree cl_349 = true := by decide +kernel
theorem lk_267 : lcK ct_155 0 false false = true := by decide +kernel
theorem wx_267 : wfree ct_155 = true := by decide +kernel
theorem cs_15 {N : Nat} {E : Env9} (hN : N ≤ 3072) (hE : PE N E) : CaseOK (runM 200) N E 15 := case_B1 (h := 349) (w := 267) (bud := 7) hN hE rfl (by decide) (fun x hx => calK_of (kl_349 200 (by decide)) (fun v u v' u' => lift1 (kl_349 200 (by decide)) wx_349) lk_349 ⟨a0, aFull x hx, a465, trivial⟩) (fun x hx => calK_of (cc_155 200 (by decide)) (fun v u v' u' => lift1 (cc_155 200 (by decide)) wx_267) lk_267 ⟨a452, aFull x hx, trivial⟩)
theorem lk_110 : lcK ct_56 0 false false = true := by decide +kernel
theorem wx_110 : wfree ct_56 = true := by decide +kernel
theorem lk_269 : lcK ct_158 0 false false = true := by decide +kernel
theorem wx_269 : wfree ct_158 = true := by decide +kernel
theorem cs_16 {N : Nat} {E : Env9} (hN : N ≤ 3072) (hE : PE N E) : CaseOK (runM 200) N E 16 := case_C0 (h := 110) (w := 269) hN hE rfl (calK_of (cc_56 200 (by decide)) (fun v u v' u' => lift1 (cc_56 200 (by decide)) wx_110) lk_110 ⟨a0, trivial⟩) (calK_of (cc_158 200 (by decide)) (fun v u v' u' => lift1 (cc_158 200 (by decide)) wx_269) lk_269 ⟨a452, trivial⟩)
theorem lk_111 : lcK ct_57 0 false false = true := by decide +kernel
theorem wx_111 : wfree ct_57 = true := by decide +kernel
theorem lk_270 : lcK ct_159 0 false false = true := by decide +kernel
theorem wx_270 : wfree ct_159 = true := by decide +kernel
theorem cs_17 {N : Nat} {E : Env9} (hN : N ≤ 3072) (hE : PE N E) : CaseOK (runM 200) N E 17 := case_C0 (h := 111) (w := 270) hN hE rfl (calK_of (cc_57 200 (by decide)) (fun v u v' u' => lift1 (cc_57 200 (by decide)) wx_111) lk_111 ⟨a0, trivial⟩) (calK_of (cc_159 200 (by decide)) (fun v u v' u' => lift1 (cc_159 200 (by decide)) wx_270) lk_270 ⟨a452, trivial⟩)
theorem lk_350 : lcK cl_350 0 false false = true := by decide +kernel
theorem wx_350 : wfree cl_350 = true := by decide +kernel
theorem lk_271 : lcK ct_160 0 false false = true := by decide +kernel
theorem wx_271 : wfree ct_160 = true := by decide +kernel
theorem cs_18 {N : Nat} {E : Env9} (hN : N ≤ 3072) (hE : PE N E) : CaseOK (runM 200) N E 18 := case_B1 (h := 350) (w := 271) (bud := 7) hN hE rfl (by decide) (fun x hx => calK_of (kl_350 200 (by decide)) (fun v u v' u' => lift1 (kl_350 200 (by decide)) wx_350) lk_350 ⟨a0, aFull x hx, a465, trivial⟩) (fun x hx => calK_of (cc_160 200 (by decide)) (fun v u v' u' => lift1 (cc_160 200 (by decide)) wx_271) lk_271 ⟨a452, aFull x hx, trivial⟩)
theorem lk_351 : lcK cl_351 0 false false = true := by decide +kernel
theorem wx_351 : wfree cl_351 = true := by decide +kernel
theorem lk_272 : lcK ct_161 0 false false = true := by decide +kernel
theorem wx_272 : wfree ct_161 = true := by decide +kernel
theorem cs_19 {N : Nat} {E : Env9} (hN : N ≤ 3072) (hE : PE N E) : CaseOK (runM 200) N E 19 := case_B1 (h := 351) (w := 272) (bud := 7) hN hE rfl (by decide) (fun x hx => calK_of (kl_351 200 (by decide)) (fun v u v' u' => lift1 (kl_351 200 (by decide)) wx_351) lk_351 ⟨a0, aFull x hx, a465, trivial⟩) (fun x hx => calK_of (cc_161 200 (by decide)) (fun v u v' u' => lift1 (cc_161 200 (by decide)) wx_272) lk_272 ⟨a452, aFull x hx, trivial⟩)
theorem lk_352 : lcK cl_352 0 false false = true := by decide +kernel
theorem wx_352 : wfree cl_352 = true := by decide +kernel
theorem lk_273 : lcK ct_162 0 false false = true := by decide +kernel
theorem wx_273 : wfree ct_162 = true := by decide +kernel
theorem cs_20 {N : Nat} {E : Env9} (hN : N ≤ 3072) (hE : PE N E) : CaseOK (runM 200) N E 20 := case_B1 (h := 352) (w := 273) (bud := 7) hN hE rfl (by decide) (fun x hx => calK_of (kl_352 200 (by decide)) (fun v u v' u' => lift1 (kl_352 200 (by decide)) wx_352) lk_352 ⟨a0, aFull x hx, a465, trivial⟩) (fun x hx => calK_of (cc_162 200 (by decide)) (fun v u v' u' => lift1 (cc_162 200 (by decide)) wx_273) lk_273 ⟨a452, aFull x hx, trivial⟩)
theorem lk_353 : lcK cl_353 0 false false = true := by decide +kernel
theorem wx_353 : wfree cl_353 = true := by decide +kernel
theorem lk_274 : lcK ct_163 0 false false = true := by decide +kernel
theorem wx_274 : wfree ct_163 = true := by decide +kernel
theorem cs_21 {N : Nat} {E : Env9} (hN : N ≤ 3072) (hE : PE N E) : CaseOK (runM 200) N E 21 := case_B1 (h := 353) (w := 274) (bud := 7) hN hE rfl (by decide) (fun x hx => calK_of (kl_353 200 (by decide)) (fun v u v' u' => lift1 (kl_353 200 (by decide)) wx_353) lk_353 ⟨a0, aFull x hx, a465, trivial⟩) (fun x hx => calK_of (cc_163 200 (by decide)) (fun v u v' u' => lift1 (cc_163 200 (by decide)) wx_274) lk_274 ⟨a452, aFull x hx, trivial⟩)
theorem lk_354 : lcK cl_354 0 false false = true := by decide +kernel
theorem wx_354 : wfree cl_354 = true := by decide +kernel
theorem lk_275 : lcK ct_164 0 false false = true := by decide +kernel
theorem wx_275 : wfree ct_164 = true := by decide +kernel
theorem cs_22 {N : Nat} {E : Env9} (hN : N ≤ 3072) (hE : PE N E) : CaseOK (runM 200) N E 22 := case_B1 (h := 354) (w := 275) (bud := 7) hN hE rfl (by decide) (fun x hx => calK_of (kl_354 200 (by decide)) (fun v u v' u' => lift1 (kl_354 200 (by decide)) wx_354) lk_354 ⟨a0, aFull x hx, a465, trivial⟩) (fun x hx => calK_of (cc_164 200 (by decide)) (fun v u v' u' => lift1 (cc_164 200 (by decide)) wx_275) lk_275 ⟨a452, aFull x hx, trivial⟩)
theorem lk_355 : lcK cl_355 0 false false = true := by decide +kernel
theorem wx_355 : wfree cl_355 = true := by decide +kernel
theorem lk_276 : lcK ct_165 0 false false = true := by decide +kernel
theorem wx_276 : wfree ct_165 = true := by decide +kernel
theorem cs_23 {N : Nat} {E : Env9} (hN : N ≤ 3072) (hE : PE N E) : CaseOK (runM 200) N E 23 := case_B1 (h := 355) (w := 276) (bud := 7) hN hE rfl (by decide) (fun x hx => calK_of (kl_355 200 (by decide)) (fun v u v' u' => lift1 (kl_355 200 (by decide)) wx_355) lk_355 ⟨a0, aFull x hx, a465, trivial⟩) (fun x hx => calK_of (cc_165 200 (by decide)) (fun v u v' u' => lift1 (cc_165 200 (by decide)) wx_276) lk_276 ⟨a452, aFull x hx, trivial⟩)
theorem lk_356 : lcK cl_356 0 false false = true := by decide +kernel
theorem wx_356 : wfree cl_356 = true := by decide +kernel
theorem lk_277 : lcK ct_166 0 false false = true := by decide +kernel
theorem wx_277 : wfree ct_166 = true := by decide +kernel
theorem cs_24 {N : Nat} {E : Env9} (hN : N ≤ 3072) (hE : PE N E) : CaseOK (runM 200) N E 24 := case_B1 (h := 356) (w := 277) (bud := 7) hN hE rfl (by decide) (fun x hx => calK_of (kl_356 200 (by decide)) (fun v u v' u' => lift1 (kl_356 200 (by decide)) wx_356) lk_356 ⟨a0, aFull x hx, a465, trivial⟩) (fun x hx => calK_of (cc_166 200 (by decide)) (fun v u v' u' => lift1 (cc_166 200 (by decide)) wx_277) lk_277 ⟨a452, aFull x hx, trivial⟩)
theorem lk_357 : lcK cl_357 0 false false = true := by decide +kernel
theorem wx_357 : wfree cl_357 = true := by decide +kernel
theorem lk_278 : lcK ct_167 0 false false = true := by decide +kernel
theorem wx_278 : wfree ct_167 = true := by decide +kernel
theorem cs_25 {N : Nat} {E : Env9} (hN : N ≤ 3072) (hE : PE N E) : CaseOK (runM 200) N E 25 := case_B1 (h := 357) (w := 278) (bud := 7) hN hE rfl (by decide) (fun x hx => calK_of (kl_357 200 (by decide)) (fun v u v' u' => lift1 (kl_357 200 (by decide)) wx_357) lk_357 ⟨a0, aFull x hx, a465, trivial⟩) (fun x hx => calK_of (cc_167 200 (by decide)) (fun v u v' u' => lift1 (cc_167 200 (by decide)) wx_278) lk_278 ⟨a452, aFull x hx, trivial⟩)
theorem lk_358 : lcK cl_358 0 false false = true := by decide +kernel
theorem wx_358 : wfree cl_358 = true := by decide +kernel
theorem lk_279 : lcK ct_168 0 false false = true := by decide +kernel
theorem wx_279 : wfree ct_168 = true := by decide +kernel
theorem cs_26 {N : Nat} {E : Env9} (hN : N ≤ 3072) (hE : PE N E) : CaseOK (runM 200) N E 26 := case_B1 (h := 358) (w := 279) (bud := 7) hN hE rfl (by decide) (fun x hx => calK_of (kl_358 200 (by decide)) (fun v u v' u' => lift1 (kl_358 200 (by decide)) wx_358) lk_358 ⟨a0, aFull x hx, a465, trivial⟩) (fun x hx => calK_of (cc_168 200 (by decide)) (fun v u v' u' => lift1 (cc_168 200 (by decide)) wx_279) lk_279 ⟨a452, aFull x hx, trivial⟩)
theorem lk_359 : lcK cl_359 0 false false = true := by decide +kernel
theorem wx_359 : wfree cl_359 = true := by decide +kernel
theorem lk_280 : lcK ct_169 0 false false = true := by decide +kernel
theorem wx_280 : wfree ct_169 = true := by decide +kernel
theorem cs_27 {N : Nat} {E : Env9} (hN : N ≤ 3072) (hE : PE N E) : CaseOK (runM 200) N E 27 := case_B1 (h := 359) (w := 280) (bud := 7) hN hE rfl (by decide) (fun x hx => calK_of (kl_359 200 (by decide)) (fun v u v' u' => lift1 (kl_359 200 (by decide)) wx_359) lk_359 ⟨a0, aFull x hx, a465, trivial⟩) (fun x hx => calK_of (cc_169 200 (by decide)) (fun v u v' u' => lift1 (cc_169 200 (by decide)) wx_280) lk_280 ⟨a452, aFull x hx, trivial⟩)
theorem lk_360 : lcK cl_360 0 false false = true := by decide +kernel
theorem wx_360 : wfree cl_360 = true := by decide +kernel
theorem lk_281 : lcK ct_170 0 false false = true := by decide +kernel
theorem wx_281 : wfree ct_170 = true := by decide +kernel
theorem cs_28 {N : Nat} {E : Env9} (hN : N ≤ 3072) (hE : PE N E) : CaseOK (runM 200) N E 28 := case_B1 (h := 360) (w := 281) (bud := 7) hN hE rfl (by decide) (fun x hx => calK_of (kl_360 200 (by decide)) (fun v u v' u' => lift1 (kl_360 200 (by decide)) wx_360) lk_360 ⟨a0, aFull x hx, a465, trivial⟩) (fun x hx => calK_of (cc_170 200 (by decide)) (fun v u v' u' => lift1 (cc_170 200 (by decide)) wx_281) lk_281 ⟨a452, aFull x hx, trivial⟩)
theorem lk_361 : lcK cl_361 0 false false = true := by decide +kernel
theorem wx_361 : wfree cl_361 = true := by decide +kernel
theorem lk_282 : lcK ct_171 0 false false = true := by decide +kernel
theorem wx_282 : wfree ct_171 = true := by decide +kernel
theorem cs_29 {N : Nat} {E : Env9} (hN : N ≤ 3072) (hE : PE N E) : CaseOK (runM 200) N E 29 := case_B1 (h := 361) (w := 282) (bud := 7) hN hE rfl (by decide) (fun x hx => calK_of (kl_361 200 (by decide)) (fun v u v' u' => lift1 (kl_361 200 (by decide)) wx_361) lk_361 ⟨a0, aFull x hx, a465, trivial⟩) (fun x hx => calK_of (cc_171 200 (by decide)) (fun v u v' u' => lift1 (cc_171 200 (by decide)) wx_282) lk_282 ⟨a452, aFull x hx, trivial⟩)
theorem lk_362 : lcK cl_362 0 false false = true := by decide +kernel
theorem wx_362 : wfree cl_362 = true := by decide +kernel
theorem lk_283 : lcK ct_172 0 false false = true := by decide +kernel
theorem wx_283 : wfree ct_172 = true := by decide +kernel
theorem cs_30 {N : Nat} {E : Env9} (hN : N ≤ 3072) (hE : PE N E) : CaseOK (runM 200) N E 30 := case_B2 (h := 362) (w := 283) (bud := 7) hN hE rfl (by decide) (fun x x' hx hx' => calK_of (kl_362 200 (by decide)) (fun v u v' u' => lift1 (kl_362 200 (by decide)) wx_362) lk_362 ⟨a0, aFull x hx, aFull x' hx', a465, trivial⟩) (fun x x' hx hx' => calK_of (cc_172 200 (by decide)) (fun v u v' u' => lift1 (cc_172 200 (by decide)) wx_283) lk_283 ⟨a452, aFull x hx, aFull x' hx', trivial⟩)
theorem lk_363 : lcK cl_363 0 false false = true := by decide +kernel
theorem wx_363 : wfree cl_363 = true := by decide +kernel
theorem lk_284 : lcK ct_173 0 false false = true := by decide +kernel
theorem wx_284 : wfree ct_173 = true := by decide +kernel
theorem cs_31 {N : Nat} {E : Env9} (hN : N ≤ 3072) (hE : PE N E) : CaseOK (runM 200) N E 31 := case_B2 (h := 363) (w := 284) (bud := 14) hN hE rfl (by decide) (fun x x' hx hx' => calK_of (kl_363 200 (by decide)) (fun v u v' u' => lift1 (kl_363 200 (by decide)) wx_363) lk_363 ⟨a0, aFull x hx, aFull x' hx', a465, trivial⟩) (fun x x' hx hx' => calK_of (cc_173 200 (by decide)) (fun v u v' u' => lift1 (cc_173 200 (by decide)) wx_284) lk_284 ⟨a452, aFull x hx, aFull x' hx', trivial⟩)
theorem lk_364 : lcK cl_364 0 false false = true := by decide +kernel
theorem wx_364 : wfree cl_364 = true := by decide +kernel
theorem lk_285 : lcK ct_176 0 false false = true := by decide +kernel
theorem wx_285 : wfree ct_176 = true := by decide +kernel
theorem cs_32 {N : Nat} {E : Env9} (hN : N ≤ 3072) (hE : PE N E) : CaseOK (runM 200) N E 32 := case_B2 (h := 364) (w := 285) (bud := 14) hN hE rfl (by decide) (fun x x' hx hx' => calK_of (kl_364 200 (by decide)) (fun v u v' u' => lift1 (kl_364 200 (by decide)) wx_364) lk_364 ⟨a0, aFull x hx, aFull x' hx', a465, trivial⟩) (fun x x' hx hx' => calK_of (cc_176 200 (by decide)) (fun v u v' u' => lift1 (cc_176 200 (by decide)) wx_285) lk_285 ⟨a452, aFull x hx, aFull x' hx', trivial⟩)
theorem lk_365 : lcK cl_365 0 false false = true := by decide +kernel
theorem wx_365 : wfree cl_365 = true := by decide +kernel
theorem lk_286 : lcK ct_177 0 false false = true := by decide +kernel
theorem wx_286 : wfree ct_177 = true := by decide +kernel
theorem cs_33 {N : Nat} {E : Env9} (hN : N ≤ 3072) (hE : PE N E) : CaseOK (runM 200) N E 33 := case_B2 (h := 365) (w := 286) (bud := 14) hN hE rfl (by decide) (fun x x' hx hx' => calK_of (kl_365 200 (by decide)) (fun v u v' u' => lift1 (kl_365 200 (by decide)) wx_365) lk_365 ⟨a0, aFull x hx, aFull x' hx', a465, trivial⟩) (fun x x' hx hx' => calK_of (cc_177 200 (by decide)) (fun v u v' u' => lift1 (cc_177 200 (by decide)) wx_286) lk_286 ⟨a452, aFull x hx, aFull x' hx', trivial⟩)
theorem lk_366 : lcK cl_366 0 false false = true := by decide +kernel
theorem wx_366 : wfree cl_366 = true := by decide +kernel
theorem lk_288 : lcK ct_181 0 false false = true := by decide +kernel
theorem wx_288 : wfree ct_181 = true := by decide +kernel
theorem cs_34 {N : Nat} {E : Env9} (hN : N ≤ 3072) (hE : PE N E) : CaseOK (runM 200) N E 34 := case_B2 (h := 366) (w := 288) (bud := 7) hN hE rfl (by decide) (fun x x' hx hx' => calK_of (kl_366 200 (by decide)) (fun v u v' u' => lift1 (kl_366 200 (by decide)) wx_366) lk_366 ⟨a0, aFull x hx, aFull x' hx', a465, trivial⟩) (fun x x' hx hx' => calK_of (cc_181 200 (by decide)) (fun v u v' u' => lift1 (cc_181 200 (by decide)) wx_288) lk_288 ⟨a452, aFull x hx, aFull x' hx', trivial⟩)
theorem lk_367 : lcK cl_367 0 false false = true := by decide +kernel
theorem wx_367 : wfree cl_367 = true := by decide +kernel
theorem lk_290 : lcK ct_184 0 false false = true := by decide +kernel
theorem wx_290 : wfree ct_184 = true := by decide +kernel
theorem cs_35 {N : Nat} {E : Env9} (hN : N ≤ 3072) (hE : PE N E) : CaseOK (runM 200) N E 35 := case_B2 (h := 367) (w := 290) (bud := 7) hN hE rfl (by decide) (fun x x' hx hx' => calK_of (kl_367 200 (by decide)) (fun v u v' u' => lift1 (kl_367 200 (by decide)) wx_367) lk_367 ⟨a0, aFull x hx, aFull x' hx', a465, trivial⟩) (fun x x' hx hx' => calK_of (cc_184 200 (by decide)) (fun v u v' u' => lift1 (cc_184 200 (by decide)) wx_290) lk_290 ⟨a452, aFull x hx, aFull x' hx', trivial⟩)
theorem lk_130 : lcK ct_86 0 false false = true := by decide +kernel
theorem wx_130 : wfree ct_86 = true := by decide +kernel
theorem lk_294 : lcK ct_188 0 false false = true := by decide +kernel
theorem wx_294 : wfree ct_188 = true := by decide +kernel
theorem cs_36 {N : Nat} {E : Env9} (hN : N ≤ 3072) (hE : PE N E) : CaseOK (runM 200) N E 36 := case_C0 (h := 130) (w := 294) hN hE rfl (calK_of (cc_86 200 (by decide)) (fun v u v' u' => lift1 (cc_86 200 (by decide)) wx_130) lk_130 ⟨a0, trivial⟩) (calK_of (cc_188 200 (by decide)) (fun v u v' u' => lift1 (cc_188 200 (by decide)) wx_294) lk_294 ⟨a452, trivial⟩)
theorem lk_368 : lcK cl_368 0 false false = true := by decide +kernel
theorem lk_296 : lcK ct_192 0 false false = true := by decide +kernel
theorem cs_37 {N : Nat} {E : Env9} (hN : N ≤ 3072) (hE : PE N E) : CaseOK (runM 200) N E 37 := case_B1 (h := 368) (w := 296) (bud := 7) hN hE rfl (by decide) (fun x hx => calK_of (kl_368 200 (by decide)) (fun v u v' u' => gl_368 (v := v) (u := u) (v' := v') (u' := u') 200 (by decide)) lk_368 ⟨a0, aFull x hx, a465, trivial⟩) (fun x hx => calK_of (f_192 200 (by decide)) (fun v u v' u' => g1_192 (v := v) (u := u) (v' := v') (u' := u') 200 (by decide)) lk_296 ⟨a452, aFull x hx, trivial⟩)
theorem lk_369 : lcK cl_369 0 false false = true := by decide +kernel
theorem lk_298 : lcK ct_200 0 false false = true := by decide +kernel
theorem cs_38 {N : Nat} {E : Env9} (hN : N ≤ 3072) (hE : PE N E) : CaseOK (runM 200) N E 38 := case_B2 (h := 369) (w := 298) (bud := 14) hN hE rfl (by decide) (fun x x' hx hx' => calK_of (kl_369 200 (by decide)) (fun v u v' u' => gl_369 (v := v) (u := u) (v' := v') (u' := u') 200 (by decide)) lk_369 ⟨a0, aFull x hx, aFull x' hx', a465, trivial⟩) (fun x x' hx hx' => calK_of (f_200 200 (by decide)) (fun v u v' u' => g1_200 (v := v) (u := u) (v' := v') (u' := u') 200 (by decide)) lk_298 ⟨a452, aFull x hx, aFull x' hx', trivial⟩)
theorem lk_370 : lcK cl_370 0 false false = true := by decide +kernel
theorem lk_299 : lcK ct_201 0 false false = true := by decide +kernel
theorem cs_39 {N : Nat} {E : Env9} (hN : N ≤ 3072) (hE : PE N E) : CaseOK (runM 200) N E 39 := case_B2 (h := 370) (w := 299) (bud := 14) hN hE rfl (by decide) (fun x x' hx hx' => calK_of (kl_370 200 (by decide)) (fun v u v' u' => gl_370 (v := v) (u := u) (v' := v') (u' := u') 200 (by decide)) lk_370 ⟨a0, aFull x hx, aFull x' hx', a465, trivial⟩) (fun x x' hx hx' => calK_of (f_201 200 (by decide)) (fun v u v' u' => g1_201 (v := v) (u := u) (v' := v') (u' := u') 200 (by decide)) lk_299 ⟨a452, aFull x hx, aFull x' hx', trivial⟩)
theorem lk_371 : lcK cl_371 0 false false = true := by decide +kernel
theorem lk_300 : lcK ct_202 0 false false = true := by decide +kernel
theorem cs_40 {N : Nat} {E : Env9} (hN : N ≤ 3072) (hE : PE N E) : CaseOK (runM 200) N E 40 := case_B1 (h := 371) (w := 300) (bud := 7) hN hE rfl (by decide) (fun x hx => calK_of (kl_371 200 (by decide)) (fun v u v' u' => gl_371 (v := v) (u := u) (v' := v') (u' := u') 200 (by decide)) lk_371 ⟨a0, aFull x hx, a465, trivial⟩) (fun x hx => calK_of (f_202 200 (by decide)) (fun v u v' u' => g1_202 (v := v) (u := u) (v' := v') (u' := u') 200 (by decide)) lk_300 ⟨a452, aFull x hx, trivial⟩)
theorem lk_372 : lcK cl_372 0 false false = true := by decide +kernel
theorem lk_301 : lcK ct_203 0 false false = true := by decide +kernel
theorem cs_41 {N : Nat} {E : Env9} (hN : N ≤ 3072) (hE : PE N E) : CaseOK (runM 200) N E 41 := case_B2 (h := 372) (w := 301) (bud := 14) hN hE rfl (by decide) (fun x x' hx hx' => calK_of (kl_372 200 (by decide)) (fun v u v' u' => gl_372 (v := v) (u := u) (v' := v') (u' := u') 200 (by decide)) lk_372 ⟨a0, aFull x hx, aFull x' hx', a465, trivial⟩) (fun x x' hx hx' => calK_of (f_203 200 (by decide)) (fun v u v' u' => g1_203 (v := v) (u := u) (v' := v') (u' := u') 200 (by decide)) lk_301 ⟨a452, aFull x hx, aFull x' hx', trivial⟩)
theorem lk_373 : lcK cl_373 0 false false = true := by decide +kernel
theorem wx_373 : wfree cl_373 = true := by decide +kernel
theorem lk_302 : lcK ct_205 0 false false = true := by decide +kernel
theorem wx_302 : wfree ct_205 = true := by decide +kernel
theorem cs_42 {N : Nat} {E : Env9} (hN : N ≤ 3072) (hE : PE N E) : CaseOK (runM 200) N E 42 := case_B1 (h := 373) (w := 302) (bud := 7) hN hE rfl (by decide) (fun x hx => calK_of (kl_373 200 (by decide)) (fun v u v' u' => lift1 (kl_373 200 (by decide)) wx_373) lk_373 ⟨a0, aFull x hx, a465, trivial⟩) (fun x hx => calK_of (cc_205 200 (by decide)) (fun v u v' u' => lift1 (cc_205 200 (by decide)) wx_302) lk_302 ⟨a452, aFull x hx, trivial⟩)
theorem lk_137 : lcK ct_110 0 false false = true := by decide +kernel
theorem wx_137 : wfree ct_110 = true := by decide +kernel
theorem lk_303 : lcK ct_206 0 false false = true := by decide +kernel
theorem wx_303 : wfree ct_206 = true := by decide +kernel
theorem cs_43 {N : Nat} {E : Env9} (hN : N ≤ 3072) (hE : PE N E) : CaseOK (runM 200) N E 43 := case_C0 (h := 137) (w := 303) hN hE rfl (calK_of (cc_110 200 (by decide)) (fun v u v' u' => lift1 (cc_110 200 (by decide)) wx_137) lk_137 ⟨a0, trivial⟩) (calK_of (cc_206 200 (by decide)) (fun v u v' u' => lift1 (cc_206 200 (by decide)) wx_303) lk_303 ⟨a452, trivial⟩)
theorem lk_374 : lcK cl_374 0 false false = true := by decide +kernel
theorem wx_374 : wfree cl_374 = true := by decide +kernel
theorem lk_304 : lcK ct_207 0 false false = true := by decide +kernel
theorem wx_304 : wfree ct_207 = true := by decide +kernel
theorem cs_44 {N : Nat} {E : Env9} (hN : N ≤ 3072) (hE : PE N E) : CaseOK (runM 200) N E 44 := case_B2 (h := 374) (w := 304) (bud := 14) hN hE rfl (by decide) (fun x x' hx hx' => calK_of (kl_374 200 (by decide)) (fun v u v' u' => lift1 (kl_374 200 (by decide)) wx_374) lk_374 ⟨a0, aFull x hx, aFull x' hx', a465, trivial⟩) (fun x x' hx hx' => calK_of (cc_207 200 (by decide)) (fun v u v' u' => lift1 (cc_207 200 (by decide)) wx_304) lk_304 ⟨a452, aFull x hx, aFull x' hx', trivial⟩)
theorem lk_139 : lcK ct_112 0 false false = true := by decide +kernel
theorem wx_139 : wfree ct_112 = true := by decide +kernel
theorem lk_305 : lcK ct_208 0 false false = true := by decide +kernel
theorem wx_305 : wfree ct_208 = true := by decide +kernel
theorem cs_45 {N : Nat} {E : Env9} (hN : N ≤ 3072) (hE : PE N E) : CaseOK (runM 200) N E 45 := case_C0 (h := 139) (w := 305) hN hE rfl (calK_of (cc_112 200 (by decide)) (fun v u v' u' => lift1 (cc_112 200 (by decide)) wx_139) lk_139 ⟨a0, trivial⟩) (calK_of (cc_208 200 (by decide)) (fun v u v' u' => lift1 (cc_208 200 (by decide)) wx_305) lk_305 ⟨a452, trivial⟩)
theorem lk_140 : lcK ct_113 0 false false = true := by decide +kernel
theorem wx_140 : wfree ct_113 = true := by decide +kernel
theorem lk_306 : lcK ct_209 0 false false = true := by decide +kernel
theorem wx_306 : wfree ct_209 = true := by decide +kernel
theorem cs_46 {N : Nat} {E : Env9} (hN : N ≤ 3072) (hE : PE N E) : CaseOK (runM 200) N E 46 := case_C0 (h := 140) (w := 306) hN hE rfl (calK_of (cc_113 200 (by decide)) (fun v u v' u' => lift1 (cc_113 200 (by decide)) wx_140) lk_140 ⟨a0, trivial⟩) (calK_of (cc_209 200 (by decide)) (fun v u v' u' => lift1 (cc_209 200 (by decide)) wx_306) lk_306 ⟨a452, trivial⟩)
theorem lk_375 : lcK cl_375 0 false false = true := by decide +kernel
theorem wx_375 : wfree cl_375 = true := by decide +kernel
theorem lk_307 : lcK ct_210 0 false false = true := by decide +kernel
theorem wx_307 : wfree ct_210 = true := by decide +kernel
theorem cs_47 {N : Nat} {E : Env9} (hN : N ≤ 3072) (hE : PE N E) : CaseOK (runM 200) N E 47 := case_B1 (h := 375) (w := 307) (bud := 7) hN hE rfl (by decide) (fun x hx => calK_of (kl_375 200 (by decide)) (fun v u v' u' => lift1 (kl_375 200 (by decide)) wx_375) lk_375 ⟨a0, aFull x hx, a465, trivial⟩) (fun x hx => calK_of (cc_210 200 (by decide)) (fun v u v' u' => lift1 (cc_210 200 (by decide)) wx_307) lk_307 ⟨a452, aFull x hx, trivial⟩)
theorem lk_376 : lcK cl_376 0 false false = true := by decide +kernel
theorem wx_376 : wfree cl_376 = true := by decide +kernel
theorem lk_308 : lcK ct_211 0 false false = true := by decide +kernel
theorem wx_308 : wfree ct_211 = true := by decide +kernel
theorem cs_48 {N : Nat} {E : Env9} (hN : N ≤ 3072) (hE : PE N E) : CaseOK (runM 200) N E 48 := case_B1 (h := 376) (w := 308) (bud := 7) hN hE rfl (by decide) (fun x hx => calK_of (kl_376 200 (by decide)) (fun v u v' u' => lift1 (kl_376 200 (by decide)) wx_376) lk_376 ⟨a0, aFull x hx, a465, trivial⟩) (fun x hx => calK_of (cc_211 200 (by decide)) (fun v u v' u' => lift1 (cc_211 200 (by decide)) wx_308) lk_308 ⟨a452, aFull x hx, trivial⟩)
theorem lk_377 : lcK cl_377 0 false false = true := by decide +kernel
theorem wx_377 : wfree cl_377 = true := by decide +kernel
theorem lk_309 : lcK ct_212 0 false false = true := by decide +kernel
theorem wx_309 : wfree ct_212 = true := by decide +kernel
theorem cs_49 {N : Nat} {E : Env9} (hN : N ≤ 3072) (hE : PE N E) : CaseOK (runM 200) N E 49 := case_B1 (h := 377) (w := 309) (bud := 7) hN hE rfl (by decide) (fun x hx => calK_of (kl_377 200 (by decide)) (fun v u v' u' => lift1 (kl_377 200 (by decide)) wx_377) lk_377 ⟨a0, aFull x hx, a465, trivial⟩) (fun x hx => calK_of (cc_212 200 (by decide)) (fun v u v' u' => lift1 (cc_212 200 (by decide)) wx_309) lk_309 ⟨a452, aFull x hx, trivial⟩)
theorem lk_144 : lcK ct_119 0 false false = true := by decide +kernel
theorem wx_144 : wfree ct_119 = true := by decide +kernel
theorem lk_313 : lcK ct_215 0 false false = true := by decide +kernel
theorem wx_313 : wfree ct_215 = true := by decide +kernel
theorem cs_50 {N : Nat} {E : Env9} (hN : N ≤ 3072) (hE : PE N E) : CaseOK (runM 200) N E 50 := case_C0 (h := 144) (w := 313) hN hE rfl (calK_of (cc_119 200 (by decide)) (fun v u v' u' => lift1 (cc_119 200 (by decide)) wx_144) lk_144 ⟨a0, trivial⟩) (calK_of (cc_215 200 (by decide)) (fun v u v' u' => lift1 (cc_215 200 (by decide)) wx_313) lk_313 ⟨a452, trivial⟩)
theorem lk_145 : lcK ct_121 0 false false = true := by decide +kernel
theorem wx_145 : wfree ct_121 = true := by decide +kernel
theorem lk_314 : lcK ct_217 0 false false = true := by decide +kernel
theorem wx_314 : wfree ct_217 = true := by decide +kernel
theorem cs_51 {N : Nat} {E : Env9} (hN : N ≤ 3072) (hE : PE N E) : CaseOK (runM 200) N E 51 := case_C0 (h := 145) (w := 314) hN hE rfl (calK_of (cc_121 200 (by decide)) (fun v u v' u' => lift1 (cc_121 200 (by decide)) wx_145) lk_145 ⟨a0, trivial⟩) (calK_of (cc_217 200 (by decide)) (fun v u v' u' => lift1 (cc_217 200 (by decide)) wx_314) lk_314 ⟨a452, trivial⟩)
theorem lk_146 : lcK ct_123 0 false false = true := by decide +kernel
theorem wx_146 : wfree ct_123 = true := by decide +kernel
theorem lk_316 : lcK ct_219 0 false false = true := by decide +kernel
theorem wx_316 : wfree ct_219 = true := by decide +kernel
theorem cs_52 {N : Nat} {E : Env9} (hN : N ≤ 3072) (hE : PE N E) : CaseOK (runM 200) N E 52 := case_C0 (h := 146) (w := 316) hN hE rfl (calK_of (cc_123 200 (by decide)) (fun v u v' u' => lift1 (cc_123 200 (by decide)) wx_146) lk_146 ⟨a0, trivial⟩) (calK_of (cc_219 200 (by decide)) (fun v u v' u' => lift1 (cc_219 200 (by decide)) wx_316) lk_316 ⟨a452, trivial⟩)
theorem lk_147 : lcK ct_124 3 false false = true := by decide +kernel
theorem wx_147 : wfree ct_124 = true := by decide +kernel
theorem lk_317 : lcK ct_220 3 false false = true := by decide +kernel
theorem wx_317 : wfree ct_220 = true := by decide +kernel
theorem cs_53 {N : Nat} {E : Env9} (hN : N ≤ 3072) (hE : PE N E) : CaseOK (runM 200) N E 53 := case_D1 (h := 147) (w := 317) hN hE rfl (calK_of (cc_124 200 (by decide)) (fun v u v' u' => lift1 (cc_124 200 (by decide)) wx_147) lk_147 ⟨a0, trivial⟩) (calK_of (cc_220 200 (by decide)) (fun v u v' u' => lift1 (cc_220 200 (by decide)) wx_317) lk_317 ⟨a452, trivial⟩)
theorem lk_148 : lcK ct_125 10 false false = true := by decide +kernel
theorem wx_148 : wfree ct_125 = true := by decide +kernel
theorem lk_318 : lcK ct_221 10 false false = true := by decide +kernel
theorem wx_318 : wfree ct_221 = true := by decide +kernel
theorem cs_54 {N : Nat} {E : Env9} (hN : N ≤ 3072) (hE : PE N E) : CaseOK (runM 200) N E 54 := case_D2 (h := 148) (w := 318) hN hE rfl (calK_of (cc_125 200 (by decide)) (fun v u v' u' => lift1 (cc_125 200 (by decide)) wx_148) lk_148 ⟨a0, trivial⟩) (calK_of (cc_221 200 (by decide)) (fun v u v' u' => lift1 (cc_221 200 (by decide)) wx_318) lk_318 ⟨a452, trivial⟩)
theorem lk_378 : lcK cl_378 0 false false = true := by decide +kernel
theorem lk_321 : lcK ct_225 0 false false = true := by decide +kernel
theorem cs_55 {N : Nat} {E : Env9} (hN : N ≤ 3072) (hE : PE N E) : CaseOK (runM 200) N E 55 := case_B1 (h := 378) (w := 321) (bud := 7) hN hE rfl (by decide) (fun x hx => calK_of (kl_378 200 (by decide)) (fun v u v' u' => gl_378 (v := v) (u := u) (v' := v') (u' := u') 200 (by decide)) lk_378 ⟨a0, aFull x hx, a465, trivial⟩) (fun x hx => calK_of (f_225 200 (by decide)) (fun v u v' u' => g1_225 (v := v) (u := u) (v' := v') (u' := u') 200 (by decide)) lk_321 ⟨a452, aFull x hx, trivial⟩)
theorem lk_150 : lcK ct_128 0 false false = true := by decide +kernel
theorem lk_322 : lcK ct_226 0 false false = true := by decide +kernel
theorem cs_56 {N : Nat} {E : Env9} (hN : N ≤ 3072) (hE : PE N E) : CaseOK (runM 200) N E 56 := case_C0 (h := 150) (w := 322) hN hE rfl (calK_of (cc_128 200 (by decide)) (fun v u v' u' => g1_128 (v := v) (u := u) (v' := v') (u' := u') 200 (by decide)) lk_150 ⟨a0, trivial⟩) (calK_of (f_226 200 (by decide)) (fun v u v' u' => g1_226 (v := v) (u := u) (v' := v') (u' := u') 200 (by decide)) lk_322 ⟨a452, trivial⟩)
theorem lk_379 : lcK cl_379 0 false false = true := by decide +kernel
theorem lk_323 : lcK ct_227 0 false false = true := by decide +kernel
theorem cs_57 {N : Nat} {E : Env9} (hN : N ≤ 3072) (hE : PE N E) : CaseOK (runM 200) N E 57 := case_B2 (h := 379) (w := 323) (bud := 21) hN hE rfl (by decide) (fun x x' hx hx' => calK_of (kl_379 200 (by decide)) (fun v u v' u' => gl_379 (v := v) (u := u) (v' := v') (u' := u') 200 (by decide)) lk_379 ⟨a0, aFull x hx, aFull x' hx', a465, trivial⟩) (fun x x' hx hx' => calK_of (f_227 200 (by decide)) (fun v u v' u' => g1_227 (v := v) (u := u) (v' := v') (u' := u') 200 (by decide)) lk_323 ⟨a452, aFull x hx, aFull x' hx', trivial⟩)
theorem lk_380 : lcK cl_380 0 false false = true := by decide +kernel
theorem lk_324 : lcK ct_229 0 false false = true := by decide +kernel
theorem cs_58 {N : Nat} {E : Env9} (hN : N ≤ 3072) (hE : PE N E) : CaseOK (runM 200) N E 58 := case_B1 (h := 380) (w := 324) (bud := 14) hN hE rfl (by decide) (fun x hx => calK_of (kl_380 200 (by decide)) (fun v u v' u' => gl_380 (v := v) (u := u) (v' := v') (u' := u') 200 (by decide)) lk_380 ⟨a0, aFull x hx, a465, trivial⟩) (fun x hx => calK_of (f_229 200 (by decide)) (fun v u v' u' => g1_229 (v := v) (u := u) (v' := v') (u' := u') 200 (by decide)) lk_324 ⟨a452, aFull x hx, trivial⟩)
theorem lk_381 : lcK cl_381 0 false false = true := by decide +kernel
theorem lk_325 : lcK ct_230 0 false false = true := by decide +kernel
theorem cs_59 {N : Nat} {E : Env9} (hN : N ≤ 3072) (hE : PE N E) : CaseOK (runM 200) N E 59 := case_B2 (h := 381) (w := 325) (bud := 14) hN hE rfl (by decide) (fun x x' hx hx' => calK_of (kl_381 200 (by decide)) (fun v u v' u' => gl_381 (v := v) (u := u) (v' := v') (u' := u') 200 (by decide)) lk_381 ⟨a0, aFull x hx, aFull x' hx', a465, trivial⟩) (fun x x' hx hx' => calK_of (f_230 200 (by decide)) (fun v u v' u' => g1_230 (v := v) (u := u) (v' := v') (u' := u') 200 (by decide)) lk_325 ⟨a452, aFull x hx, aFull x' hx', trivial⟩)
theorem lk_382 : lcK cl_382 0 false false = true := by decide +kernel
theorem lk_326 : lcK ct_231 0 false false = true := by decide +kernel
theorem cs_60 {N : Nat} {E : Env9} (hN : N ≤ 3072) (hE : PE N E) : CaseOK (runM 200) N E 60 := case_B2 (h := 382) (w := 326) (bud := 14) hN hE rfl (by decide) (fun x x' hx hx' => calK_of (kl_382 200 (by decide)) (fun v u v' u' => gl_382 (v := v) (u := u) (v' := v') (u' := u') 200 (by decide)) lk_382 ⟨a0, aFull x hx, aFull x' hx', a465, trivial⟩) (fun x x' hx hx' => calK_of (f_231 200 (by decide)) (fun v u v' u' => g1_231 (v := v) (u := u) (v' := v') (u' := u') 200 (by decide)) lk_326 ⟨a452, aFull x hx, aFull x' hx', trivial⟩)
theorem lk_383 : lcK cl_383 0 false false = true := by decide +kernel
theorem lk_327 : lcK ct_232 0 false false = true := by decide +kernel
theorem cs_61 {N : Nat} {E : Env9} (hN : N ≤ 3072) (hE : PE N E) : CaseOK (runM 200) N E 61 := case_B1 (h := 383) (w := 327) (bud := 14) hN hE rfl (by decide) (fun x hx => calK_of (kl_383 200 (by decide)) (fun v u v' u' => gl_383 (v := v) (u := u) (v' := v') (u' := u') 200 (by decide)) lk_383 ⟨a0, aFull x hx, a465, trivial⟩) (fun x hx => calK_of (f_232 200 (by decide)) (fun v u v' u' => g1_232 (v := v) (u := u) (v' := v') (u' := u') 200 (by decide)) lk_327 ⟨a452, aFull x hx, trivial⟩)
theorem lk_384 : lcK cl_384 0 false false = true := by decide +kernel
theorem lk_328 : lcK ctUndo 0 false false = true := by decide +kernel
theorem cs_62 {N : Nat} {E : Env9} (hN : N ≤ 3072) (hE : PE N E) : CaseOK (runM 200) N E 62 := case_B0 (h := 384) (w := 328) (bud := 7) hN hE rfl (by decide) (calK_of (kl_384 200 (by decide)) (fun v u v' u' => gl_384 (v := v) (u := u) (v' := v') (u' := u') 200 (by decide)) lk_384 ⟨a0, a465, trivial⟩) (calK_of (undo_ok 200 (by decide)) (fun v u v' u' => undoJ_ok (v := v) (u := u) (v' := v') (u' := u') 200 (by decide)) lk_328 ⟨a452, trivial⟩)
theorem lk_159 : lcK ct_140 0 false false = true := by decide +kernel
theorem wx_159 : wfree ct_140 = true := by decide +kernel
theorem lk_333 : lcK ctFm 0 false false = true := by decide +kernel
theorem wx_333 : wfree ctFm = true := by decide +kernel
theorem cs_65 {N : Nat} {E : Env9} (hN : N ≤ 3072) (hE : PE N E) : CaseOK (runM 200) N E 65 := case_C0 (h := 159) (w := 333) hN hE rfl (calK_of (cc_140 200 (by decide)) (fun v u v' u' => lift1 (cc_140 200 (by decide)) wx_159) lk_159 ⟨a0, trivial⟩) (calK_of (form_ok 200 (by decide)) (fun v u v' u' => lift1 (form_ok 200 (by decide)) wx_333) lk_333 ⟨a452, trivial⟩)
theorem lk_160 : lcK ct_141 0 false false = true := by decide +kernel
theorem wx_160 : wfree ct_141 = true := by decide +kernel
theorem lk_334 : lcK ct_233 0 false false = true := by decide +kernel
theorem wx_334 : wfree ct_233 = true := by decide +kernel
theorem cs_66 {N : Nat} {E : Env9} (hN : N ≤ 3072) (hE : PE N E) : CaseOK (runM 200) N E 66 := case_C1 (h := 160) (w := 334) hN hE rfl (fun x hx => calK_of (cc_141 200 (by decide)) (fun v u v' u' => lift1 (cc_141 200 (by decide)) wx_160) lk_160 ⟨a0, aFull x hx, trivial⟩) (fun x hx => calK_of (cc_233 200 (by decide)) (fun v u v' u' => lift1 (cc_233 200 (by decide)) wx_334) lk_334 ⟨a452, aFull x hx, trivial⟩)
theorem lk_104 : lcK ct_49 0 false false = true := by decide +kernel
theorem wx_104 : wfree ct_49 = true := by decide +kernel
theorem lk_246 : lcK ct_150 0 false false = true := by decide +kernel
theorem wx_246 : wfree ct_150 = true := by decide +kernel
