/-! each case of the switch -/
theorem lk_348 : lcB cl_348 0 true false = true := by decide +kernel
theorem lk_259 : lcB ctZ 0 false true = true := by decide +kernel
theorem cs_12 {N : Nat} {E : Env9} (hN : N ≤ 3072) (hE : PE N E) : CaseOK (runM 200) N E 12 := case_B0 (h := 348) (w := 259) (bud := 7) hN hE rfl (by decide) (calB9_of (kl_348 200 (by decide)) lk_348 ⟨a0, a465, trivial⟩) (calB9_of (f_execR 200 (by decide)) lk_259 ⟨a452, trivial⟩)
theorem lk_103 : lcB ct_48 0 false false = true := by decide +kernel
theorem lk_245 : lcB ct_149 0 false false = true := by decide +kernel
theorem cs_13 {N : Nat} {E : Env9} (hN : N ≤ 3072) (hE : PE N E) : CaseOK (runM 200) N E 13 := case_C0 (h := 103) (w := 245) hN hE rfl (calB9_of (cc_48 200 (by decide)) lk_103 ⟨a0, trivial⟩) (calB9_of (cc_149 200 (by decide)) lk_245 ⟨a452, trivial⟩)
theorem lk_104 : lcB ct_49 0 false false = true := by decide +kernel
theorem lk_246 : lcB ct_150 0 false false = true := by decide +kernel
theorem cs_14 {N : Nat} {E : Env9} (hN : N ≤ 3072) (hE : PE N E) : CaseOK (runM 200) N E 14 := case_C0 (h := 104) (w := 246) hN hE rfl (calB9_of (cc_49 200 (by decide)) lk_104 ⟨a0, trivial⟩) (calB9_of (cc_150 200 (by decide)) lk_246 ⟨a452, trivial⟩)
theorem lk_105 : lcB ct_50 0 false false = true := by decide +kernel
theorem lk_263 : lcB ct_151 0 false false = true := by decide +kernel
theorem cs_15 {N : Nat} {E : Env9} (hN : N ≤ 3072) (hE : PE N E) : CaseOK (runM 200) N E 15 := case_C0 (h := 105) (w := 263) hN hE rfl (calB9_of (cc_50 200 (by decide)) lk_105 ⟨a0, trivial⟩) (calB9_of (cc_151 200 (by decide)) lk_263 ⟨a452, trivial⟩)
theorem lk_106 : lcB ct_51 0 false false = true := by decide +kernel
theorem lk_264 : lcB ct_152 0 false false = true := by decide +kernel
theorem cs_16 {N : Nat} {E : Env9} (hN : N ≤ 3072) (hE : PE N E) : CaseOK (runM 200) N E 16 := case_C0 (h := 106) (w := 264) hN hE rfl (calB9_of (cc_51 200 (by decide)) lk_106 ⟨a0, trivial⟩) (calB9_of (cc_152 200 (by decide)) lk_264 ⟨a452, trivial⟩)
theorem lk_107 : lcB ct_52 0 false false = true := by decide +kernel
theorem lk_265 : lcB ct_153 0 false false = true := by decide +kernel
theorem cs_17 {N : Nat} {E : Env9} (hN : N ≤ 3072) (hE : PE N E) : CaseOK (runM 200) N E 17 := case_C0 (h := 107) (w := 265) hN hE rfl (calB9_of (cc_52 200 (by decide)) lk_107 ⟨a0, trivial⟩) (calB9_of (cc_153 200 (by decide)) lk_265 ⟨a452, trivial⟩)
theorem lk_108 : lcB ct_53 0 false false = true := by decide +kernel
theorem lk_266 : lcB ct_154 0 false false = true := by decide +kernel
theorem cs_18 {N : Nat} {E : Env9} (hN : N ≤ 3072) (hE : PE N E) : CaseOK (runM 200) N E 18 := case_C0 (h := 108) (w := 266) hN hE rfl (calB9_of (cc_53 200 (by decide)) lk_108 ⟨a0, trivial⟩) (calB9_of (cc_154 200 (by decide)) lk_266 ⟨a452, trivial⟩)
theorem lk_349 : lcB cl_349 0 false false = true := by decide +kernel
theorem lk_267 : lcB ct_155 0 false false = true := by decide +kernel
theorem cs_19 {N : Nat} {E : Env9} (hN : N ≤ 3072) (hE : PE N E) : CaseOK (runM 200) N E 19 := case_B1 (h := 349) (w := 267) (bud := 7) hN hE rfl (by decide) (fun x hx => calB9_of (kl_349 200 (by decide)) lk_349 ⟨a0, aFull x hx, a465, trivial⟩) (fun x hx => calB9_of (cc_155 200 (by decide)) lk_267 ⟨a452, aFull x hx, trivial⟩)
theorem lk_110 : lcB ct_56 0 false false = true := by decide +kernel
theorem lk_269 : lcB ct_158 0 false false = true := by decide +kernel
theorem cs_20 {N : Nat} {E : Env9} (hN : N ≤ 3072) (hE : PE N E) : CaseOK (runM 200) N E 20 := case_C0 (h := 110) (w := 269) hN hE rfl (calB9_of (cc_56 200 (by decide)) lk_110 ⟨a0, trivial⟩) (calB9_of (cc_158 200 (by decide)) lk_269 ⟨a452, trivial⟩)
theorem lk_111 : lcB ct_57 0 false false = true := by decide +kernel
theorem lk_270 : lcB ct_159 0 false false = true := by decide +kernel
theorem cs_21 {N : Nat} {E : Env9} (hN : N ≤ 3072) (hE : PE N E) : CaseOK (runM 200) N E 21 := case_C0 (h := 111) (w := 270) hN hE rfl (calB9_of (cc_57 200 (by decide)) lk_111 ⟨a0, trivial⟩) (calB9_of (cc_159 200 (by decide)) lk_270 ⟨a452, trivial⟩)
theorem lk_350 : lcB cl_350 0 false false = true := by decide +kernel
theorem lk_271 : lcB ct_160 0 false false = true := by decide +kernel
theorem cs_22 {N : Nat} {E : Env9} (hN : N ≤ 3072) (hE : PE N E) : CaseOK (runM 200) N E 22 := case_B1 (h := 350) (w := 271) (bud := 7) hN hE rfl (by decide) (fun x hx => calB9_of (kl_350 200 (by decide)) lk_350 ⟨a0, aFull x hx, a465, trivial⟩) (fun x hx => calB9_of (cc_160 200 (by decide)) lk_271 ⟨a452, aFull x hx, trivial⟩)
theorem lk_351 : lcB cl_351 0 false false = true := by decide +kernel
theorem lk_272 : lcB ct_161 0 false false = true := by decide +kernel
theorem cs_23 {N : Nat} {E : Env9} (hN : N ≤ 3072) (hE : PE N E) : CaseOK (runM 200) N E 23 := case_B1 (h := 351) (w := 272) (bud := 7) hN hE rfl (by decide) (fun x hx => calB9_of (kl_351 200 (by decide)) lk_351 ⟨a0, aFull x hx, a465, trivial⟩) (fun x hx => calB9_of (cc_161 200 (by decide)) lk_272 ⟨a452, aFull x hx, trivial⟩)
theorem lk_352 : lcB cl_352 0 false false = true := by decide +kernel
theorem lk_273 : lcB ct_162 0 false false = true := by decide +kernel
theorem cs_24 {N : Nat} {E : Env9} (hN : N ≤ 3072) (hE : PE N E) : CaseOK (runM 200) N E 24 := case_B1 (h := 352) (w := 273) (bud := 7) hN hE rfl (by decide) (fun x hx => calB9_of (kl_352 200 (by decide)) lk_352 ⟨a0, aFull x hx, a465, trivial⟩) (fun x hx => calB9_of (cc_162 200 (by decide)) lk_273 ⟨a452, aFull x hx, trivial⟩)
theorem lk_353 : lcB cl_353 0 false false = true := by decide +kernel
theorem lk_274 : lcB ct_163 0 false false = true := by decide +kernel
theorem cs_25 {N : Nat} {E : Env9} (hN : N ≤ 3072) (hE : PE N E) : CaseOK (runM 200) N E 25 := case_B1 (h := 353) (w := 274) (bud := 7) hN hE rfl (by decide) (fun x hx => calB9_of (kl_353 200 (by decide)) lk_353 ⟨a0, aFull x hx, a465, trivial⟩) (fun x hx => calB9_of (cc_163 200 (by decide)) lk_274 ⟨a452, aFull x hx, trivial⟩)
theorem lk_354 : lcB cl_354 0 false false = true := by decide +kernel
theorem lk_275 : lcB ct_164 0 false false = true := by decide +kernel
theorem cs_26 {N : Nat} {E : Env9} (hN : N ≤ 3072) (hE : PE N E) : CaseOK (runM 200) N E 26 := case_B1 (h := 354) (w := 275) (bud := 7) hN hE rfl (by decide) (fun x hx => calB9_of (kl_354 200 (by decide)) lk_354 ⟨a0, aFull x hx, a465, trivial⟩) (fun x hx => calB9_of (cc_164 200 (by decide)) lk_275 ⟨a452, aFull x hx, trivial⟩)
theorem lk_355 : lcB cl_355 0 false false = true := by decide +kernel
theorem lk_276 : lcB ct_165 0 false false = true := by decide +kernel
theorem cs_27 {N : Nat} {E : Env9} (hN : N ≤ 3072) (hE : PE N E) : CaseOK (runM 200) N E 27 := case_B1 (h := 355) (w := 276) (bud := 7) hN hE rfl (by decide) (fun x hx => calB9_of (kl_355 200 (by decide)) lk_355 ⟨a0, aFull x hx, a465, trivial⟩) (fun x hx => calB9_of (cc_165 200 (by decide)) lk_276 ⟨a452, aFull x hx, trivial⟩)
theorem lk_356 : lcB cl_356 0 false false = true := by decide +kernel
theorem lk_277 : lcB ct_166 0 false false = true := by decide +kernel
theorem cs_28 {N : Nat} {E : Env9} (hN : N ≤ 3072) (hE : PE N E) : CaseOK (runM 200) N E 28 := case_B1 (h := 356) (w := 277) (bud := 7) hN hE rfl (by decide) (fun x hx => calB9_of (kl_356 200 (by decide)) lk_356 ⟨a0, aFull x hx, a465, trivial⟩) (fun x hx => calB9_of (cc_166 200 (by decide)) lk_277 ⟨a452, aFull x hx, trivial⟩)
theorem lk_357 : lcB cl_357 0 false false = true := by decide +kernel
theorem lk_278 : lcB ct_167 0 false false = true := by decide +kernel
theorem cs_29 {N : Nat} {E : Env9} (hN : N ≤ 3072) (hE : PE N E) : CaseOK (runM 200) N E 29 := case_B1 (h := 357) (w := 278) (bud := 7) hN hE rfl (by decide) (fun x hx => calB9_of (kl_357 200 (by decide)) lk_357 ⟨a0, aFull x hx, a465, trivial⟩) (fun x hx => calB9_of (cc_167 200 (by decide)) lk_278 ⟨a452, aFull x hx, trivial⟩)
theorem lk_358 : lcB cl_358 0 false false = true := by decide +kernel
theorem lk_279 : lcB ct_168 0 false false = true := by decide +kernel
theorem cs_30 {N : Nat} {E : Env9} (hN : N ≤ 3072) (hE : PE N E) : CaseOK (runM 200) N E 30 := case_B1 (h := 358) (w := 279) (bud := 7) hN hE rfl (by decide) (fun x hx => calB9_of (kl_358 200 (by decide)) lk_358 ⟨a0, aFull x hx, a465, trivial⟩) (fun x hx => calB9_of (cc_168 200 (by decide)) lk_279 ⟨a452, aFull x hx, trivial⟩)
theorem lk_359 : lcB cl_359 0 false false = true := by decide +kernel
theorem lk_280 : lcB ct_169 0 false false = true := by decide +kernel
theorem cs_31 {N : Nat} {E : Env9} (hN : N ≤ 3072) (hE : PE N E) : CaseOK (runM 200) N E 31 := case_B1 (h := 359) (w := 280) (bud := 7) hN hE rfl (by decide) (fun x hx => calB9_of (kl_359 200 (by decide)) lk_359 ⟨a0, aFull x hx, a465, trivial⟩) (fun x hx => calB9_of (cc_169 200 (by decide)) lk_280 ⟨a452, aFull x hx, trivial⟩)
theorem lk_360 : lcB cl_360 0 false false = true := by decide +kernel
theorem lk_281 : lcB ct_170 0 false false = true := by decide +kernel
theorem cs_32 {N : Nat} {E : Env9} (hN : N ≤ 3072) (hE : PE N E) : CaseOK (runM 200) N E 32 := case_B1 (h := 360) (w := 281) (bud := 7) hN hE rfl (by decide) (fun x hx => calB9_of (kl_360 200 (by decide)) lk_360 ⟨a0, aFull x hx, a465, trivial⟩) (fun x hx => calB9_of (cc_170 200 (by decide)) lk_281 ⟨a452, aFull x hx, trivial⟩)
theorem lk_361 : lcB cl_361 0 false false = true := by decide +kernel
theorem lk_282 : lcB ct_171 0 false false = true := by decide +kernel
theorem cs_33 {N : Nat} {E : Env9} (hN : N ≤ 3072) (hE : PE N E) : CaseOK (runM 200) N E 33 := case_B1 (h := 361) (w := 282) (bud := 7) hN hE rfl (by decide) (fun x hx => calB9_of (kl_361 200 (by decide)) lk_361 ⟨a0, aFull x hx, a465, trivial⟩) (fun x hx => calB9_of (cc_171 200 (by decide)) lk_282 ⟨a452, aFull x hx, trivial⟩)
theorem lk_362 : lcB cl_362 0 false false = true := by decide +kernel
theorem lk_283 : lcB ct_172 0 false false = true := by decide +kernel
theorem cs_34 {N : Nat} {E : Env9} (hN : N ≤ 3072) (hE : PE N E) : CaseOK (runM 200) N E 34 := case_B2 (h := 362) (w := 283) (bud := 7) hN hE rfl (by decide) (fun x x' hx hx' => calB9_of (kl_362 200 (by decide)) lk_362 ⟨a0, aFull x hx, aFull x' hx', a465, trivial⟩) (fun x x' hx hx' => calB9_of (cc_172 200 (by decide)) lk_283 ⟨a452, aFull x hx, aFull x' hx', trivial⟩)
theorem lk_363 : lcB cl_363 0 false false = true := by decide +kernel
theorem lk_284 : lcB ct_173 0 false false = true := by decide +kernel
theorem cs_35 {N : Nat} {E : Env9} (hN : N ≤ 3072) (hE : PE N E) : CaseOK (runM 200) N E 35 := case_B2 (h := 363) (w := 284) (bud := 14) hN hE rfl (by decide) (fun x x' hx hx' => calB9_of (kl_363 200 (by decide)) lk_363 ⟨a0, aFull x hx, aFull x' hx', a465, trivial⟩) (fun x x' hx hx' => calB9_of (cc_173 200 (by decide)) lk_284 ⟨a452, aFull x hx, aFull x' hx', trivial⟩)
theorem lk_364 : lcB cl_364 0 false false = true := by decide +kernel
theorem lk_285 : lcB ct_176 0 false false = true := by decide +kernel
theorem cs_36 {N : Nat} {E : Env9} (hN : N ≤ 3072) (hE : PE N E) : CaseOK (runM 200) N E 36 := case_B2 (h := 364) (w := 285) (bud := 14) hN hE rfl (by decide) (fun x x' hx hx' => calB9_of (kl_364 200 (by decide)) lk_364 ⟨a0, aFull x hx, aFull x' hx', a465, trivial⟩) (fun x x' hx hx' => calB9_of (cc_176 200 (by decide)) lk_285 ⟨a452, aFull x hx, aFull x' hx', trivial⟩)
theorem lk_365 : lcB cl_365 0 false false = true := by decide +kernel
theorem lk_286 : lcB ct_177 0 false false = true := by decide +kernel
theorem cs_37 {N : Nat} {E : Env9} (hN : N ≤ 3072) (hE : PE N E) : CaseOK (runM 200) N E 37 := case_B2 (h := 365) (w := 286) (bud := 14) hN hE rfl (by decide) (fun x x' hx hx' => calB9_of (kl_365 200 (by decide)) lk_365 ⟨a0, aFull x hx, aFull x' hx', a465, trivial⟩) (fun x x' hx hx' => calB9_of (cc_177 200 (by decide)) lk_286 ⟨a452, aFull x hx, aFull x' hx', trivial⟩)
theorem lk_366 : lcB cl_366 0 false false = true := by decide +kernel
theorem lk_288 : lcB ct_181 0 false false = true := by decide +kernel
theorem cs_38 {N : Nat} {E : Env9} (hN : N ≤ 3072) (hE : PE N E) : CaseOK (runM 200) N E 38 := case_B2 (h := 366) (w := 288) (bud := 7) hN hE rfl (by decide) (fun x x' hx hx' => calB9_of (kl_366 200 (by decide)) lk_366 ⟨a0, aFull x hx, aFull x' hx', a465, trivial⟩) (fun x x' hx hx' => calB9_of (cc_181 200 (by decide)) lk_288 ⟨a452, aFull x hx, aFull x' hx', trivial⟩)
theorem lk_367 : lcB cl_367 0 false false = true := by decide +kernel
theorem lk_290 : lcB ct_184 0 false false = true := by decide +kernel
theorem cs_39 {N : Nat} {E : Env9} (hN : N ≤ 3072) (hE : PE N E) : CaseOK (runM 200) N E 39 := case_B2 (h := 367) (w := 290) (bud := 7) hN hE rfl (by decide) (fun x x' hx hx' => calB9_of (kl_367 200 (by decide)) lk_367 ⟨a0, aFull x hx, aFull x' hx', a465, trivial⟩) (fun x x' hx hx' => calB9_of (cc_184 200 (by decide)) lk_290 ⟨a452, aFull x hx, aFull x' hx', trivial⟩)
theorem lk_130 : lcB ct_86 0 false false = true := by decide +kernel
theorem lk_294 : lcB ct_188 0 false false = true := by decide +kernel
theorem cs_40 {N : Nat} {E : Env9} (hN : N ≤ 3072) (hE : PE N E) : CaseOK (runM 200) N E 40 := case_C0 (h := 130) (w := 294) hN hE rfl (calB9_of (cc_86 200 (by decide)) lk_130 ⟨a0, trivial⟩) (calB9_of (cc_188 200 (by decide)) lk_294 ⟨a452, trivial⟩)
theorem lk_368 : lcB cl_368 0 false false = true := by decide +kernel
theorem lk_296 : lcB ct_192 0 false false = true := by decide +kernel
theorem cs_41 {N : Nat} {E : Env9} (hN : N ≤ 3072) (hE : PE N E) : CaseOK (runM 200) N E 41 := case_B1 (h := 368) (w := 296) (bud := 7) hN hE rfl (by decide) (fun x hx => calB9_of (kl_368 200 (by decide)) lk_368 ⟨a0, aFull x hx, a465, trivial⟩) (fun x hx => calB9_of (f_192 200 (by decide)) lk_296 ⟨a452, aFull x hx, trivial⟩)
theorem lk_369 : lcB cl_369 0 false false = true := by decide +kernel
theorem lk_298 : lcB ct_200 0 false false = true := by decide +kernel
theorem cs_42 {N : Nat} {E : Env9} (hN : N ≤ 3072) (hE : PE N E) : CaseOK (runM 200) N E 42 := case_B2 (h := 369) (w := 298) (bud := 14) hN hE rfl (by decide) (fun x x' hx hx' => calB9_of (kl_369 200 (by decide)) lk_369 ⟨a0, aFull x hx, aFull x' hx', a465, trivial⟩) (fun x x' hx hx' => calB9_of (f_200 200 (by decide)) lk_298 ⟨a452, aFull x hx, aFull x' hx', trivial⟩)
theorem lk_370 : lcB cl_370 0 false false = true := by decide +kernel
theorem lk_299 : lcB ct_201 0 false false = true := by decide +kernel
theorem cs_43 {N : Nat} {E : Env9} (hN : N ≤ 3072) (hE : PE N E) : CaseOK (runM 200) N E 43 := case_B2 (h := 370) (w := 299) (bud := 14) hN hE rfl (by decide) (fun x x' hx hx' => calB9_of (kl_370 200 (by decide)) lk_370 ⟨a0, aFull x hx, aFull x' hx', a465, trivial⟩) (fun x x' hx hx' => calB9_of (f_201 200 (by decide)) lk_299 ⟨a452, aFull x hx, aFull x' hx', trivial⟩)
theorem lk_371 : lcB cl_371 0 false false = true := by decide +kernel
theorem lk_300 : lcB ct_202 0 false false = true := by decide +kernel
theorem cs_44 {N : Nat} {E : Env9} (hN : N ≤ 3072) (hE : PE N E) : CaseOK (runM 200) N E 44 := case_B1 (h := 371) (w := 300) (bud := 7) hN hE rfl (by decide) (fun x hx => calB9_of (kl_371 200 (by decide)) lk_371 ⟨a0, aFull x hx, a465, trivial⟩) (fun x hx => calB9_of (f_202 200 (by decide)) lk_300 ⟨a452, aFull x hx, trivial⟩)
theorem lk_372 : lcB cl_372 0 false false = true := by decide +kernel
theorem lk_301 : lcB ct_203 0 false false = true := by decide +kernel
theorem cs_45 {N : Nat} {E : Env9} (hN : N ≤ 3072) (hE : PE N E) : CaseOK (runM 200) N E 45 := case_B2 (h := 372) (w := 301) (bud := 14) hN hE rfl (by decide) (fun x x' hx hx' => calB9_of (kl_372 200 (by decide)) lk_372 ⟨a0, aFull x hx, aFull x' hx', a465, trivial⟩) (fun x x' hx hx' => calB9_of (f_203 200 (by decide)) lk_301 ⟨a452, aFull x hx, aFull x' hx', trivial⟩)
theorem lk_373 : lcB cl_373 0 false false = true := by decide +kernel
theorem lk_302 : lcB ct_205 0 false false = true := by decide +kernel
theorem cs_46 {N : Nat} {E : Env9} (hN : N ≤ 3072) (hE : PE N E) : CaseOK (runM 200) N E 46 := case_B1 (h := 373) (w := 302) (bud := 7) hN hE rfl (by decide) (fun x hx => calB9_of (kl_373 200 (by decide)) lk_373 ⟨a0, aFull x hx, a465, trivial⟩) (fun x hx => calB9_of (cc_205 200 (by decide)) lk_302 ⟨a452, aFull x hx, trivial⟩)
theorem lk_137 : lcB ct_110 0 false false = true := by decide +kernel
theorem lk_303 : lcB ct_206 0 false false = true := by decide +kernel
theorem cs_47 {N : Nat} {E : Env9} (hN : N ≤ 3072) (hE : PE N E) : CaseOK (runM 200) N E 47 := case_C0 (h := 137) (w := 303) hN hE rfl (calB9_of (cc_110 200 (by decide)) lk_137 ⟨a0, trivial⟩) (calB9_of (cc_206 200 (by decide)) lk_303 ⟨a452, trivial⟩)
theorem lk_374 : lcB cl_374 0 false false = true := by decide +kernel
theorem lk_304 : lcB ct_207 0 false false = true := by decide +kernel
theorem cs_48 {N : Nat} {E : Env9} (hN : N ≤ 3072) (hE : PE N E) : CaseOK (runM 200) N E 48 := case_B2 (h := 374) (w := 304) (bud := 14) hN hE rfl (by decide) (fun x x' hx hx' => calB9_of (kl_374 200 (by decide)) lk_374 ⟨a0, aFull x hx, aFull x' hx', a465, trivial⟩) (fun x x' hx hx' => calB9_of (cc_207 200 (by decide)) lk_304 ⟨a452, aFull x hx, aFull x' hx', trivial⟩)
theorem lk_139 : lcB ct_112 0 false false = true := by decide +kernel
theorem lk_305 : lcB ct_208 0 false false = true := by decide +kernel
theorem cs_49 {N : Nat} {E : Env9} (hN : N ≤ 3072) (hE : PE N E) : CaseOK (runM 200) N E 49 := case_C0 (h := 139) (w := 305) hN hE rfl (calB9_of (cc_112 200 (by decide)) lk_139 ⟨a0, trivial⟩) (calB9_of (cc_208 200 (by decide)) lk_305 ⟨a452, trivial⟩)
theorem lk_140 : lcB ct_113 0 false false = true := by decide +kernel
theorem lk_306 : lcB ct_209 0 false false = true := by decide +kernel
theorem cs_50 {N : Nat} {E : Env9} (hN : N ≤ 3072) (hE : PE N E) : CaseOK (runM 200) N E 50 := case_C0 (h := 140) (w := 306) hN hE rfl (calB9_of (cc_113 200 (by decide)) lk_140 ⟨a0, trivial⟩) (calB9_of (cc_209 200 (by decide)) lk_306 ⟨a452, trivial⟩)
theorem lk_375 : lcB cl_375 0 false false = true := by decide +kernel
theorem lk_307 : lcB ct_210 0 false false = true := by decide +kernel
theorem cs_51 {N : Nat} {E : Env9} (hN : N ≤ 3072) (hE : PE N E) : CaseOK (runM 200) N E 51 := case_B1 (h := 375) (w := 307) (bud := 7) hN hE rfl (by decide) (fun x hx => calB9_of (kl_375 200 (by decide)) lk_375 ⟨a0, aFull x hx, a465, trivial⟩) (fun x hx => calB9_of (cc_210 200 (by decide)) lk_307 ⟨a452, aFull x hx, trivial⟩)
theorem lk_376 : lcB cl_376 0 false false = true := by decide +kernel
theorem lk_308 : lcB ct_211 0 false false = true := by decide +kernel
theorem cs_52 {N : Nat} {E : Env9} (hN : N ≤ 3072) (hE : PE N E) : CaseOK (runM 200) N E 52 := case_B1 (h := 376) (w := 308) (bud := 7) hN hE rfl (by decide) (fun x hx => calB9_of (kl_376 200 (by decide)) lk_376 ⟨a0, aFull x hx, a465, trivial⟩) (fun x hx => calB9_of (cc_211 200 (by decide)) lk_308 ⟨a452, aFull x hx, trivial⟩)
theorem lk_377 : lcB cl_377 0 false false = true := by decide +kernel
theorem lk_309 : lcB ct_212 0 false false = true := by decide +kernel
theorem cs_53 {N : Nat} {E : Env9} (hN : N ≤ 3072) (hE : PE N E) : CaseOK (runM 200) N E 53 := case_B1 (h := 377) (w := 309) (bud := 7) hN hE rfl (by decide) (fun x hx => calB9_of (kl_377 200 (by decide)) lk_377 ⟨a0, aFull x hx, a465, trivial⟩) (fun x hx => calB9_of (cc_212 200 (by decide)) lk_309 ⟨a452, aFull x hx, trivial⟩)
theorem lk_144 : lcB ct_119 0 false false = true := by decide +kernel
theorem lk_313 : lcB ct_215 0 false false = true := by decide +kernel
theorem cs_54 {N : Nat} {E : Env9} (hN : N ≤ 3072) (hE : PE N E) : CaseOK (runM 200) N E 54 := case_C0 (h := 144) (w := 313) hN hE rfl (calB9_of (cc_119 200 (by decide)) lk_144 ⟨a0, trivial⟩) (calB9_of (cc_215 200 (by decide)) lk_313 ⟨a452, trivial⟩)
theorem lk_145 : lcB ct_121 0 false false = true := by decide +kernel
theorem lk_314 : lcB ct_217 0 false false = true := by decide +kernel
theorem cs_55 {N : Nat} {E : Env9} (hN : N ≤ 3072) (hE : PE N E) : CaseOK (runM 200) N E 55 := case_C0 (h := 145) (w := 314) hN hE rfl (calB9_of (cc_121 200 (by decide)) lk_145 ⟨a0, trivial⟩) (calB9_of (cc_217 200 (by decide)) lk_314 ⟨a452, trivial⟩)
theorem lk_146 : lcB ct_123 0 false false = true := by decide +kernel
theorem lk_316 : lcB ct_219 0 false false = true := by decide +kernel
theorem cs_56 {N : Nat} {E : Env9} (hN : N ≤ 3072) (hE : PE N E) : CaseOK (runM 200) N E 56 := case_C0 (h := 146) (w := 316) hN hE rfl (calB9_of (cc_123 200 (by decide)) lk_146 ⟨a0, trivial⟩) (calB9_of (cc_219 200 (by decide)) lk_316 ⟨a452, trivial⟩)
theorem lk_147 : lcB ct_124 3 false false = true := by decide +kernel
theorem lk_317 : lcB ct_220 3 false false = true := by decide +kernel
theorem cs_57 {N : Nat} {E : Env9} (hN : N ≤ 3072) (hE : PE N E) : CaseOK (runM 200) N E 57 := case_D1 (h := 147) (w := 317) hN hE rfl (calB9_of (cc_124 200 (by decide)) lk_147 ⟨a0, trivial⟩) (calB9_of (cc_220 200 (by decide)) lk_317 ⟨a452, trivial⟩)
theorem lk_148 : lcB ct_125 10 false false = true := by decide +kernel
theorem lk_318 : lcB ct_221 10 false false = true := by decide +kernel
theorem cs_58 {N : Nat} {E : Env9} (hN : N ≤ 3072) (hE : PE N E) : CaseOK (runM 200) N E 58 := case_D2 (h := 148) (w := 318) hN hE rfl (calB9_of (cc_125 200 (by decide)) lk_148 ⟨a0, trivial⟩) (calB9_of (cc_221 200 (by decide)) lk_318 ⟨a452, trivial⟩)
theorem lk_378 : lcB cl_378 0 false false = true := by decide +kernel
theorem lk_321 : lcB ct_225 0 false false = true := by decide +kernel
theorem cs_59 {N : Nat} {E : Env9} (hN : N ≤ 3072) (hE : PE N E) : CaseOK (runM 200) N E 59 := case_B1 (h := 378) (w := 321) (bud := 7) hN hE rfl (by decide) (fun x hx => calB9_of (kl_378 200 (by decide)) lk_378 ⟨a0, aFull x hx, a465, trivial⟩) (fun x hx => calB9_of (f_225 200 (by decide)) lk_321 ⟨a452, aFull x hx, trivial⟩)
theorem lk_150 : lcB ct_128 0 false false = true := by decide +kernel
theorem lk_322 : lcB ct_226 0 false false = true := by decide +kernel
theorem cs_60 {N : Nat} {E : Env9} (hN : N ≤ 3072) (hE : PE N E) : CaseOK (runM 200) N E 60 := case_C0 (h := 150) (w := 322) hN hE rfl (calB9_of (cc_128 200 (by decide)) lk_150 ⟨a0, trivial⟩) (calB9_of (f_226 200 (by decide)) lk_322 ⟨a452, trivial⟩)
theorem lk_379 : lcB cl_379 0 false false = true := by decide +kernel
theorem lk_323 : lcB ct_227 0 false false = true := by decide +kernel
theorem cs_61 {N : Nat} {E : Env9} (hN : N ≤ 3072) (hE : PE N E) : CaseOK (runM 200) N E 61 := case_B2 (h := 379) (w := 323) (bud := 21) hN hE rfl (by decide) (fun x x' hx hx' => calB9_of (kl_379 200 (by decide)) lk_379 ⟨a0, aFull x hx, aFull x' hx', a465, trivial⟩) (fun x x' hx hx' => calB9_of (f_227 200 (by decide)) lk_323 ⟨a452, aFull x hx, aFull x' hx', trivial⟩)
theorem lk_380 : lcB cl_380 0 false false = true := by decide +kernel
theorem lk_324 : lcB ct_229 0 false false = true := by decide +kernel
theorem cs_62 {N : Nat} {E : Env9} (hN : N ≤ 3072) (hE : PE N E) : CaseOK (runM 200) N E 62 := case_B1 (h := 380) (w := 324) (bud := 14) hN hE rfl (by decide) (fun x hx => calB9_of (kl_380 200 (by decide)) lk_380 ⟨a0, aFull x hx, a465, trivial⟩) (fun x hx => calB9_of (f_229 200 (by decide)) lk_324 ⟨a452, aFull x hx, trivial⟩)
theorem lk_381 : lcB cl_381 0 false false = true := by decide +kernel
theorem lk_325 : lcB ct_230 0 false false = true := by decide +kernel
theorem cs_63 {N : Nat} {E : Env9} (hN : N ≤ 3072) (hE : PE N E) : CaseOK (runM 200) N E 63 := case_B2 (h := 381) (w := 325) (bud := 14) hN hE rfl (by decide) (fun x x' hx hx' => calB9_of (kl_381 200 (by decide)) lk_381 ⟨a0, aFull x hx, aFull x' hx', a465, trivial⟩) (fun x x' hx hx' => calB9_of (f_230 200 (by decide)) lk_325 ⟨a452, aFull x hx, aFull x' hx', trivial⟩)
theorem lk_382 : lcB cl_382 0 false false = true := by decide +kernel
theorem lk_326 : lcB ct_231 0 false false = true := by decide +kernel
theorem cs_64 {N : Nat} {E : Env9} (hN : N ≤ 3072) (hE : PE N E) : CaseOK (runM 200) N E 64 := case_B2 (h := 382) (w := 326) (bud := 14) hN hE rfl (by decide) (fun x x' hx hx' => calB9_of (kl_382 200 (by decide)) lk_382 ⟨a0, aFull x hx, aFull x' hx', a465, trivial⟩) (fun x x' hx hx' => calB9_of (f_231 200 (by decide)) lk_326 ⟨a452, aFull x hx, aFull x' hx', trivial⟩)
theorem lk_383 : lcB cl_383 0 false false = true := by decide +kernel
theorem lk_327 : lcB ct_232 0 false false = true := by decide +kernel
theorem cs_65 {N : Nat} {E : Env9} (hN : N ≤ 3072) (hE : PE N E) : CaseOK (runM 200) N E 65 := case_B1 (h := 383) (w := 327) (bud := 14) hN hE rfl (by decide) (fun x hx => calB9_of (kl_383 200 (by decide)) lk_383 ⟨a0, aFull x hx, a465, trivial⟩) (fun x hx => calB9_of (f_232 200 (by decide)) lk_327 ⟨a452, aFull x hx, trivial⟩)
theorem lk_384 : lcB cl_384 0 false false = true := by decide +kernel
theorem lk_328 : lcB ctUndo 0 false false = true := by decide +kernel
theorem cs_66 {N : Nat} {E : Env9} (hN : N ≤ 3072) (hE : PE N E) : CaseOK (runM 200) N E 66 := case_B0 (h := 384) (w := 328) (bud := 7) hN hE rfl (by decide) (calB9_of (kl_384 200 (by decide)) lk_384 ⟨a0, a465, trivial⟩) (calB9_of (undo_ok 200 (by decide)) lk_328 ⟨a452, trivial⟩)
theorem lk_157 : lcB ct_136 0 false false = true := by decide +kernel
theorem lk_329 : lcB ctSave 0 false false = true := by decide +kernel
theorem cs_67 {N : Nat} {E : Env9} (hN : N ≤ 3072) (hE : PE N E) : CaseOK (runM 200) N E 67 := case_C0 (h := 157) (w := 329) hN hE rfl (calB9_of (cc_136 200 (by decide)) lk_157 ⟨a0, trivial⟩) (calB9_of (save_ok 200 (by decide)) lk_329 ⟨a452, trivial⟩)
theorem lk_385 : lcB cl_385 0 false false = true := by decide +kernel
theorem lk_330 : lcB ctRest 0 false false = true := by decide +kernel
theorem cs_68 {N : Nat} {E : Env9} (hN : N ≤ 3072) (hE : PE N E) : CaseOK (runM 200) N E 68 := case_B0 (h := 385) (w := 330) (bud := 7) hN hE rfl (by decide) (calB9_of (kl_385 200 (by decide)) lk_385 ⟨a0, a465, trivial⟩) (calB9_of (rest_ok 200 (by decide)) lk_330 ⟨a452, trivial⟩)
theorem lk_159 : lcB ct_140 0 false false = true := by decide +kernel
theorem lk_333 : lcB ctFm 0 false false = true := by decide +kernel
theorem cs_69 {N : Nat} {E : Env9} (hN : N ≤ 3072) (hE : PE N E) : CaseOK (runM 200) N E 69 := case_C0 (h := 159) (w := 333) hN hE rfl (calB9_of (cc_140 200 (by decide)) lk_159 ⟨a0, trivial⟩) (calB9_of (form_ok 200 (by decide)) lk_333 ⟨a452, trivial⟩)
theorem lk_160 : lcB ct_141 0 false false = true := by decide +kernel
theorem lk_334 : lcB ct_233 0 false false = true := by decide +kernel
theorem cs_70 {N : Nat} {E : Env9} (hN : N ≤ 3072) (hE : PE N E) : CaseOK (runM 200) N E 70 := case_C1 (h := 160) (w := 334) hN hE rfl (fun x hx => calB9_of (cc_141 200 (by decide)) lk_160 ⟨a0, aFull x hx, trivial⟩) (fun x hx => calB9_of (cc_233 200 (by decide)) lk_334 ⟨a452, aFull x hx, trivial⟩)
