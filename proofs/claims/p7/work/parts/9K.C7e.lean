section
/-! by hand: texts, for what the parser needs -/
set_option maxRecDepth 100000 in
theorem sl_20 (k : Nat) (Ev : Env9) (M : Mem) : runM (k + 5) 338 Ev 466 [vW 20] M = some [((0, 0), Ev, vI 4, [], [], M, 466, 0)] := rfl
theorem hh_277 {Ev : Env9} : CK Ev 5 (338, ct_277) := ctr_len (w := 20) (n := 4) (by decide) sl_20
set_option maxRecDepth 100000 in
theorem sc_20_0 (k : Nat) (Ev : Env9) (M : Mem) : runM (k + 5) 339 Ev 466 [vW 20, vI 0] M = some [((0, 0), Ev, vI 112, [], [], M, 466, 0)] := rfl
theorem hh_278 {Ev : Env9} : CK Ev 5 (339, ct_278) := ctr_chr (w := 20) (lo := 0) (hi := 0) (mn := 112) (mx := 112) (by decide) (by decide) (fun i h1 h2 => match i, h1, h2 with | 0, _, _ => ⟨112, by decide, by decide, sc_20_0⟩ | n + 1, _, h2 => absurd h2 (by omega))
set_option maxRecDepth 100000 in
theorem sc_20_1 (k : Nat) (Ev : Env9) (M : Mem) : runM (k + 5) 339 Ev 466 [vW 20, vI 1] M = some [((0, 0), Ev, vI 97, [], [], M, 466, 0)] := rfl
set_option maxRecDepth 100000 in
theorem sc_20_2 (k : Nat) (Ev : Env9) (M : Mem) : runM (k + 5) 339 Ev 466 [vW 20, vI 2] M = some [((0, 0), Ev, vI 115, [], [], M, 466, 0)] := rfl
set_option maxRecDepth 100000 in
theorem sc_20_3 (k : Nat) (Ev : Env9) (M : Mem) : runM (k + 5) 339 Ev 466 [vW 20, vI 3] M = some [((0, 0), Ev, vI 115, [], [], M, 466, 0)] := rfl
theorem hh_279 {Ev : Env9} : CK Ev 5 (339, ct_279) := ctr_chr (w := 20) (lo := 0) (hi := 3) (mn := 97) (mx := 115) (by decide) (by decide) (fun i h1 h2 => match i, h1, h2 with | 0, _, _ => ⟨112, by decide, by decide, sc_20_0⟩ | 1, _, _ => ⟨97, by decide, by decide, sc_20_1⟩ | 2, _, _ => ⟨115, by decide, by decide, sc_20_2⟩ | 3, _, _ => ⟨115, by decide, by decide, sc_20_3⟩ | n + 4, _, h2 => absurd h2 (by omega))
set_option maxRecDepth 100000 in
theorem sl_22 (k : Nat) (Ev : Env9) (M : Mem) : runM (k + 5) 338 Ev 466 [vW 22] M = some [((0, 0), Ev, vI 4, [], [], M, 466, 0)] := rfl
theorem hh_281 {Ev : Env9} : CK Ev 5 (338, ct_281) := ctr_len (w := 22) (n := 4) (by decide) sl_22
set_option maxRecDepth 100000 in
theorem sc_22_0 (k : Nat) (Ev : Env9) (M : Mem) : runM (k + 5) 339 Ev 466 [vW 22, vI 0] M = some [((0, 0), Ev, vI 116, [], [], M, 466, 0)] := rfl
theorem hh_282 {Ev : Env9} : CK Ev 5 (339, ct_282) := ctr_chr (w := 22) (lo := 0) (hi := 0) (mn := 116) (mx := 116) (by decide) (by decide) (fun i h1 h2 => match i, h1, h2 with | 0, _, _ => ⟨116, by decide, by decide, sc_22_0⟩ | n + 1, _, h2 => absurd h2 (by omega))
set_option maxRecDepth 100000 in
theorem sc_22_1 (k : Nat) (Ev : Env9) (M : Mem) : runM (k + 5) 339 Ev 466 [vW 22, vI 1] M = some [((0, 0), Ev, vI 101, [], [], M, 466, 0)] := rfl
set_option maxRecDepth 100000 in
theorem sc_22_2 (k : Nat) (Ev : Env9) (M : Mem) : runM (k + 5) 339 Ev 466 [vW 22, vI 2] M = some [((0, 0), Ev, vI 115, [], [], M, 466, 0)] := rfl
set_option maxRecDepth 100000 in
theorem sc_22_3 (k : Nat) (Ev : Env9) (M : Mem) : runM (k + 5) 339 Ev 466 [vW 22, vI 3] M = some [((0, 0), Ev, vI 116, [], [], M, 466, 0)] := rfl
theorem hh_283 {Ev : Env9} : CK Ev 5 (339, ct_283) := ctr_chr (w := 22) (lo := 0) (hi := 3) (mn := 101) (mx := 116) (by decide) (by decide) (fun i h1 h2 => match i, h1, h2 with | 0, _, _ => ⟨116, by decide, by decide, sc_22_0⟩ | 1, _, _ => ⟨101, by decide, by decide, sc_22_1⟩ | 2, _, _ => ⟨115, by decide, by decide, sc_22_2⟩ | 3, _, _ => ⟨116, by decide, by decide, sc_22_3⟩ | n + 4, _, h2 => absurd h2 (by omega))
set_option maxRecDepth 100000 in
theorem sl_23 (k : Nat) (Ev : Env9) (M : Mem) : runM (k + 5) 338 Ev 466 [vW 23] M = some [((0, 0), Ev, vI 7, [], [], M, 466, 0)] := rfl
theorem hh_285 {Ev : Env9} : CK Ev 5 (338, ct_285) := ctr_len (w := 23) (n := 7) (by decide) sl_23
set_option maxRecDepth 100000 in
theorem sc_23_0 (k : Nat) (Ev : Env9) (M : Mem) : runM (k + 5) 339 Ev 466 [vW 23, vI 0] M = some [((0, 0), Ev, vI 100, [], [], M, 466, 0)] := rfl
theorem hh_286 {Ev : Env9} : CK Ev 5 (339, ct_286) := ctr_chr (w := 23) (lo := 0) (hi := 0) (mn := 100) (mx := 100) (by decide) (by decide) (fun i h1 h2 => match i, h1, h2 with | 0, _, _ => ⟨100, by decide, by decide, sc_23_0⟩ | n + 1, _, h2 => absurd h2 (by omega))
set_option maxRecDepth 100000 in
theorem sc_23_1 (k : Nat) (Ev : Env9) (M : Mem) : runM (k + 5) 339 Ev 466 [vW 23, vI 1] M = some [((0, 0), Ev, vI 105, [], [], M, 466, 0)] := rfl
set_option maxRecDepth 100000 in
theorem sc_23_2 (k : Nat) (Ev : Env9) (M : Mem) : runM (k + 5) 339 Ev 466 [vW 23, vI 2] M = some [((0, 0), Ev, vI 115, [], [], M, 466, 0)] := rfl
set_option maxRecDepth 100000 in
theorem sc_23_3 (k : Nat) (Ev : Env9) (M : Mem) : runM (k + 5) 339 Ev 466 [vW 23, vI 3] M = some [((0, 0), Ev, vI 109, [], [], M, 466, 0)] := rfl
set_option maxRecDepth 100000 in
theorem sc_23_4 (k : Nat) (Ev : Env9) (M : Mem) : runM (k + 5) 339 Ev 466 [vW 23, vI 4] M = some [((0, 0), Ev, vI 105, [], [], M, 466, 0)] := rfl
set_option maxRecDepth 100000 in
theorem sc_23_5 (k : Nat) (Ev : Env9) (M : Mem) : runM (k + 5) 339 Ev 466 [vW 23, vI 5] M = some [((0, 0), Ev, vI 115, [], [], M, 466, 0)] := rfl
set_option maxRecDepth 100000 in
theorem sc_23_6 (k : Nat) (Ev : Env9) (M : Mem) : runM (k + 5) 339 Ev 466 [vW 23, vI 6] M = some [((0, 0), Ev, vI 115, [], [], M, 466, 0)] := rfl
theorem hh_287 {Ev : Env9} : CK Ev 5 (339, ct_287) := ctr_chr (w := 23) (lo := 0) (hi := 6) (mn := 100) (mx := 115) (by decide) (by decide) (fun i h1 h2 => match i, h1, h2 with | 0, _, _ => ⟨100, by decide, by decide, sc_23_0⟩ | 1, _, _ => ⟨105, by decide, by decide, sc_23_1⟩ | 2, _, _ => ⟨115, by decide, by decide, sc_23_2⟩ | 3, _, _ => ⟨109, by decide, by decide, sc_23_3⟩ | 4, _, _ => ⟨105, by decide, by decide, sc_23_4⟩ | 5, _, _ => ⟨115, by decide, by decide, sc_23_5⟩ | 6, _, _ => ⟨115, by decide, by decide, sc_23_6⟩ | n + 7, _, h2 => absurd h2 (by omega))
set_option maxRecDepth 100000 in
theorem sl_24 (k : Nat) (Ev : Env9) (M : Mem) : runM (k + 5) 338 Ev 466 [vW 24] M = some [((0, 0), Ev, vI 4, [], [], M, 466, 0)] := rfl
theorem hh_289 {Ev : Env9} : CK Ev 5 (338, ct_289) := ctr_len (w := 24) (n := 4) (by decide) sl_24
set_option maxRecDepth 100000 in
theorem sc_24_0 (k : Nat) (Ev : Env9) (M : Mem) : runM (k + 5) 339 Ev 466 [vW 24, vI 0] M = some [((0, 0), Ev, vI 119, [], [], M, 466, 0)] := rfl
theorem hh_290 {Ev : Env9} : CK Ev 5 (339, ct_290) := ctr_chr (w := 24) (lo := 0) (hi := 0) (mn := 119) (mx := 119) (by decide) (by decide) (fun i h1 h2 => match i, h1, h2 with | 0, _, _ => ⟨119, by decide, by decide, sc_24_0⟩ | n + 1, _, h2 => absurd h2 (by omega))
set_option maxRecDepth 100000 in
theorem sc_24_1 (k : Nat) (Ev : Env9) (M : Mem) : runM (k + 5) 339 Ev 466 [vW 24, vI 1] M = some [((0, 0), Ev, vI 97, [], [], M, 466, 0)] := rfl
set_option maxRecDepth 100000 in
theorem sc_24_2 (k : Nat) (Ev : Env9) (M : Mem) : runM (k + 5) 339 Ev 466 [vW 24, vI 2] M = some [((0, 0), Ev, vI 103, [], [], M, 466, 0)] := rfl
set_option maxRecDepth 100000 in
theorem sc_24_3 (k : Nat) (Ev : Env9) (M : Mem) : runM (k + 5) 339 Ev 466 [vW 24, vI 3] M = some [((0, 0), Ev, vI 101, [], [], M, 466, 0)] := rfl
theorem hh_291 {Ev : Env9} : CK Ev 5 (339, ct_291) := ctr_chr (w := 24) (lo := 0) (hi := 3) (mn := 97) (mx := 119) (by decide) (by decide) (fun i h1 h2 => match i, h1, h2 with | 0, _, _ => ⟨119, by decide, by decide, sc_24_0⟩ | 1, _, _ => ⟨97, by decide, by decide, sc_24_1⟩ | 2, _, _ => ⟨103, by decide, by decide, sc_24_2⟩ | 3, _, _ => ⟨101, by decide, by decide, sc_24_3⟩ | n + 4, _, h2 => absurd h2 (by omega))
set_option maxRecDepth 100000 in
theorem sl_25 (k : Nat) (Ev : Env9) (M : Mem) : runM (k + 5) 338 Ev 466 [vW 25] M = some [((0, 0), Ev, vI 4, [], [], M, 466, 0)] := rfl
theorem hh_293 {Ev : Env9} : CK Ev 5 (338, ct_293) := ctr_len (w := 25) (n := 4) (by decide) sl_25
set_option maxRecDepth 100000 in
theorem sc_25_0 (k : Nat) (Ev : Env9) (M : Mem) : runM (k + 5) 339 Ev 466 [vW 25, vI 0] M = some [((0, 0), Ev, vI 102, [], [], M, 466, 0)] := rfl
theorem hh_294 {Ev : Env9} : CK Ev 5 (339, ct_294) := ctr_chr (w := 25) (lo := 0) (hi := 0) (mn := 102) (mx := 102) (by decide) (by decide) (fun i h1 h2 => match i, h1, h2 with | 0, _, _ => ⟨102, by decide, by decide, sc_25_0⟩ | n + 1, _, h2 => absurd h2 (by omega))
set_option maxRecDepth 100000 in
theorem sc_25_1 (k : Nat) (Ev : Env9) (M : Mem) : runM (k + 5) 339 Ev 466 [vW 25, vI 1] M = some [((0, 0), Ev, vI 117, [], [], M, 466, 0)] := rfl
set_option maxRecDepth 100000 in
theorem sc_25_2 (k : Nat) (Ev : Env9) (M : Mem) : runM (k + 5) 339 Ev 466 [vW 25, vI 2] M = some [((0, 0), Ev, vI 110, [], [], M, 466, 0)] := rfl
set_option maxRecDepth 100000 in
theorem sc_25_3 (k : Nat) (Ev : Env9) (M : Mem) : runM (k + 5) 339 Ev 466 [vW 25, vI 3] M = some [((0, 0), Ev, vI 100, [], [], M, 466, 0)] := rfl
theorem hh_295 {Ev : Env9} : CK Ev 5 (339, ct_295) := ctr_chr (w := 25) (lo := 0) (hi := 3) (mn := 100) (mx := 117) (by decide) (by decide) (fun i h1 h2 => match i, h1, h2 with | 0, _, _ => ⟨102, by decide, by decide, sc_25_0⟩ | 1, _, _ => ⟨117, by decide, by decide, sc_25_1⟩ | 2, _, _ => ⟨110, by decide, by decide, sc_25_2⟩ | 3, _, _ => ⟨100, by decide, by decide, sc_25_3⟩ | n + 4, _, h2 => absurd h2 (by omega))
set_option maxRecDepth 100000 in
theorem sl_26 (k : Nat) (Ev : Env9) (M : Mem) : runM (k + 5) 338 Ev 466 [vW 26] M = some [((0, 0), Ev, vI 5, [], [], M, 466, 0)] := rfl
theorem hh_297 {Ev : Env9} : CK Ev 5 (338, ct_297) := ctr_len (w := 26) (n := 5) (by decide) sl_26
set_option maxRecDepth 100000 in
theorem sc_26_0 (k : Nat) (Ev : Env9) (M : Mem) : runM (k + 5) 339 Ev 466 [vW 26, vI 0] M = some [((0, 0), Ev, vI 116, [], [], M, 466, 0)] := rfl
theorem hh_298 {Ev : Env9} : CK Ev 5 (339, ct_298) := ctr_chr (w := 26) (lo := 0) (hi := 0) (mn := 116) (mx := 116) (by decide) (by decide) (fun i h1 h2 => match i, h1, h2 with | 0, _, _ => ⟨116, by decide, by decide, sc_26_0⟩ | n + 1, _, h2 => absurd h2 (by omega))
set_option maxRecDepth 100000 in
theorem sc_26_1 (k : Nat) (Ev : Env9) (M : Mem) : runM (k + 5) 339 Ev 466 [vW 26, vI 1] M = some [((0, 0), Ev, vI 114, [], [], M, 466, 0)] := rfl
set_option maxRecDepth 100000 in
theorem sc_26_2 (k : Nat) (Ev : Env9) (M : Mem) : runM (k + 5) 339 Ev 466 [vW 26, vI 2] M = some [((0, 0), Ev, vI 97, [], [], M, 466, 0)] := rfl
set_option maxRecDepth 100000 in
theorem sc_26_3 (k : Nat) (Ev : Env9) (M : Mem) : runM (k + 5) 339 Ev 466 [vW 26, vI 3] M = some [((0, 0), Ev, vI 105, [], [], M, 466, 0)] := rfl
set_option maxRecDepth 100000 in
theorem sc_26_4 (k : Nat) (Ev : Env9) (M : Mem) : runM (k + 5) 339 Ev 466 [vW 26, vI 4] M = some [((0, 0), Ev, vI 110, [], [], M, 466, 0)] := rfl
theorem hh_299 {Ev : Env9} : CK Ev 5 (339, ct_299) := ctr_chr (w := 26) (lo := 0) (hi := 4) (mn := 97) (mx := 116) (by decide) (by decide) (fun i h1 h2 => match i, h1, h2 with | 0, _, _ => ⟨116, by decide, by decide, sc_26_0⟩ | 1, _, _ => ⟨114, by decide, by decide, sc_26_1⟩ | 2, _, _ => ⟨97, by decide, by decide, sc_26_2⟩ | 3, _, _ => ⟨105, by decide, by decide, sc_26_3⟩ | 4, _, _ => ⟨110, by decide, by decide, sc_26_4⟩ | n + 5, _, h2 => absurd h2 (by omega))
end
section
/-! the parser: the contracts, one out of the others -/
theorem cc_234 {Ev : Env9} : CK Ev 18 (231, ct_234) := xctr_ok hu0 hang_0 hR9 hMT9 (b := 9) (ctL_ok (l := [(338, ct_3), (339, ct_4), (339, ct_5), (229, ct_156)]) (And.intro (CK_up hh_3 (by decide)) (And.intro (CK_up hh_4 (by decide)) (And.intro (CK_up hh_5 (by decide)) (And.intro (CK_up cc_156 (by decide)) trivial))))) (mo_X11_sees rfl _) hc_234
theorem cc_235 {Ev : Env9} : CK Ev 9 (235, ct_235) := xctr_ok hu0 hang_0 hR9 hMT9 (b := 0) (ctL_ok (l := []) trivial) (mo_X11_number rfl _) hc_235
theorem cc_236 {Ev : Env9} : CK Ev 18 (235, ct_236) := xctr_ok hu0 hang_0 hR9 hMT9 (b := 9) (ctL_ok (l := [(229, ct_156)]) (And.intro (CK_up cc_156 (by decide)) trivial)) (mo_X11_number rfl _) hc_236
theorem cc_237 {Ev : Env9} : CK Ev 18 (235, ct_237) := xctr_ok hu0 hang_0 hR9 hMT9 (b := 9) (ctL_ok (l := [(229, ct_156)]) (And.intro (CK_up cc_156 (by decide)) trivial)) (mo_X11_number rfl _) hc_237
theorem cc_238 {Ev : Env9} : CK Ev 18 (231, ct_238) := xctr_ok hu0 hang_0 hR9 hMT9 (b := 9) (ctL_ok (l := [(338, ct_11), (339, ct_12), (339, ct_13), (229, ct_156)]) (And.intro (CK_up hh_11 (by decide)) (And.intro (CK_up hh_12 (by decide)) (And.intro (CK_up hh_13 (by decide)) (And.intro (CK_up cc_156 (by decide)) trivial))))) (mo_X11_sees rfl _) hc_238
theorem cc_239 {Ev : Env9} : CK Ev 9 (235, ct_239) := xctr_ok hu0 hang_0 hR9 hMT9 (b := 0) (ctL_ok (l := []) trivial) (mo_X11_number rfl _) hc_239
theorem cc_240 {Ev : Env9} : CK Ev 18 (235, ct_240) := xctr_ok hu0 hang_0 hR9 hMT9 (b := 9) (ctL_ok (l := [(229, ct_156)]) (And.intro (CK_up cc_156 (by decide)) trivial)) (mo_X11_number rfl _) hc_240
theorem cc_241 {Ev : Env9} : CK Ev 18 (235, ct_241) := xctr_ok hu0 hang_0 hR9 hMT9 (b := 9) (ctL_ok (l := [(229, ct_156)]) (And.intro (CK_up cc_156 (by decide)) trivial)) (mo_X11_number rfl _) hc_241
theorem cc_242 {Ev : Env9} : CK Ev 9 (236, ct_242) := xctr_ok hu0 hang_0 hR9 hMT9 (b := 0) (ctL_ok (l := []) trivial) (mo_X11_isNumberNext rfl _) hc_242
theorem cc_243 {Ev : Env9} : CK Ev 18 (236, ct_243) := xctr_ok hu0 hang_0 hR9 hMT9 (b := 9) (ctL_ok (l := [(229, ct_156)]) (And.intro (CK_up cc_156 (by decide)) trivial)) (mo_X11_isNumberNext rfl _) hc_243
theorem cc_244 {Ev : Env9} : CK Ev 18 (236, ct_244) := xctr_ok hu0 hang_0 hR9 hMT9 (b := 9) (ctL_ok (l := [(229, ct_156)]) (And.intro (CK_up cc_156 (by decide)) trivial)) (mo_X11_isNumberNext rfl _) hc_244
theorem cc_245 {Ev : Env9} : CK Ev 9 (234, ct_245) := xctr_ok hu0 hang_0 hR9 hMT9 (b := 0) (ctL_ok (l := []) trivial) (mo_X11_semicolon rfl _) hc_245
theorem cc_246 {Ev : Env9} : CK Ev 18 (234, ct_246) := xctr_ok hu0 hang_0 hR9 hMT9 (b := 9) (ctL_ok (l := [(229, ct_156)]) (And.intro (CK_up cc_156 (by decide)) trivial)) (mo_X11_semicolon rfl _) hc_246
theorem cc_247 {Ev : Env9} : CK Ev 18 (234, ct_247) := xctr_ok hu0 hang_0 hR9 hMT9 (b := 9) (ctL_ok (l := [(229, ct_156)]) (And.intro (CK_up cc_156 (by decide)) trivial)) (mo_X11_semicolon rfl _) hc_247
theorem cc_249 {Ev : Env9} : CK Ev 9 (240, ct_249) := xctr_ok hu0 hang_0 hR9 hMT9 (b := 0) (ctL_ok (l := []) trivial) (mo_X11_thingHere rfl _) hc_249
theorem cc_250 {Ev : Env9} : CK Ev 9 (235, ct_250) := xctr_ok hu0 hang_0 hR9 hMT9 (b := 0) (ctL_ok (l := []) trivial) (mo_X11_number rfl _) hc_250
theorem cc_251 {Ev : Env9} : CK Ev 18 (235, ct_251) := xctr_ok hu0 hang_0 hR9 hMT9 (b := 9) (ctL_ok (l := [(229, ct_156)]) (And.intro (CK_up cc_156 (by decide)) trivial)) (mo_X11_number rfl _) hc_251
theorem cc_252 {Ev : Env9} : CK Ev 18 (235, ct_252) := xctr_ok hu0 hang_0 hR9 hMT9 (b := 9) (ctL_ok (l := [(229, ct_156)]) (And.intro (CK_up cc_156 (by decide)) trivial)) (mo_X11_number rfl _) hc_252
theorem cc_253 {Ev : Env9} : CK Ev 9 (235, ct_253) := xctr_ok hu0 hang_0 hR9 hMT9 (b := 0) (ctL_ok (l := []) trivial) (mo_X11_number rfl _) hc_253
theorem cc_254 {Ev : Env9} : CK Ev 18 (235, ct_254) := xctr_ok hu0 hang_0 hR9 hMT9 (b := 9) (ctL_ok (l := [(229, ct_156)]) (And.intro (CK_up cc_156 (by decide)) trivial)) (mo_X11_number rfl _) hc_254
theorem cc_255 {Ev : Env9} : CK Ev 18 (235, ct_255) := xctr_ok hu0 hang_0 hR9 hMT9 (b := 9) (ctL_ok (l := [(229, ct_156)]) (And.intro (CK_up cc_156 (by decide)) trivial)) (mo_X11_number rfl _) hc_255
theorem cc_256 {Ev : Env9} : CK Ev 27 (248, ct_256) := xctr_ok hu0 hang_0 hR9 hMT9 (b := 18) (ctL_ok (l := [(229, ct_156), (235, ct_239), (235, ct_240), (240, ct_249), (235, ct_250), (235, ct_251), (235, ct_253), (235, ct_254)]) (And.intro (CK_up cc_156 (by decide)) (And.intro (CK_up cc_239 (by decide)) (And.intro (CK_up cc_240 (by decide)) (And.intro (CK_up cc_249 (by decide)) (And.intro (CK_up cc_250 (by decide)) (And.intro (CK_up cc_251 (by decide)) (And.intro (CK_up cc_253 (by decide)) (And.intro (CK_up cc_254 (by decide)) trivial))))))))) (mo_X11_echoLine rfl _) hc_256
theorem cc_257 {Ev : Env9} : CK Ev 9 (240, ct_257) := xctr_ok hu0 hang_0 hR9 hMT9 (b := 0) (ctL_ok (l := []) trivial) (mo_X11_thingHere rfl _) hc_257
theorem cc_258 {Ev : Env9} : CK Ev 9 (235, ct_258) := xctr_ok hu0 hang_0 hR9 hMT9 (b := 0) (ctL_ok (l := []) trivial) (mo_X11_number rfl _) hc_258
theorem cc_259 {Ev : Env9} : CK Ev 18 (235, ct_259) := xctr_ok hu0 hang_0 hR9 hMT9 (b := 9) (ctL_ok (l := [(229, ct_156)]) (And.intro (CK_up cc_156 (by decide)) trivial)) (mo_X11_number rfl _) hc_259
theorem cc_260 {Ev : Env9} : CK Ev 18 (235, ct_260) := xctr_ok hu0 hang_0 hR9 hMT9 (b := 9) (ctL_ok (l := [(229, ct_156)]) (And.intro (CK_up cc_156 (by decide)) trivial)) (mo_X11_number rfl _) hc_260
theorem cc_261 {Ev : Env9} : CK Ev 9 (235, ct_261) := xctr_ok hu0 hang_0 hR9 hMT9 (b := 0) (ctL_ok (l := []) trivial) (mo_X11_number rfl _) hc_261
theorem cc_262 {Ev : Env9} : CK Ev 18 (235, ct_262) := xctr_ok hu0 hang_0 hR9 hMT9 (b := 9) (ctL_ok (l := [(229, ct_156)]) (And.intro (CK_up cc_156 (by decide)) trivial)) (mo_X11_number rfl _) hc_262
theorem cc_263 {Ev : Env9} : CK Ev 18 (235, ct_263) := xctr_ok hu0 hang_0 hR9 hMT9 (b := 9) (ctL_ok (l := [(229, ct_156)]) (And.intro (CK_up cc_156 (by decide)) trivial)) (mo_X11_number rfl _) hc_263
theorem cc_264 {Ev : Env9} : CK Ev 27 (249, ct_264) := xctr_ok hu0 hang_0 hR9 hMT9 (b := 18) (ctL_ok (l := [(229, ct_156), (235, ct_250), (235, ct_251), (235, ct_253), (235, ct_254), (240, ct_257), (235, ct_258), (235, ct_259), (235, ct_261), (235, ct_262)]) (And.intro (CK_up cc_156 (by decide)) (And.intro (CK_up cc_250 (by decide)) (And.intro (CK_up cc_251 (by decide)) (And.intro (CK_up cc_253 (by decide)) (And.intro (CK_up cc_254 (by decide)) (And.intro (CK_up cc_257 (by decide)) (And.intro (CK_up cc_258 (by decide)) (And.intro (CK_up cc_259 (by decide)) (And.intro (CK_up cc_261 (by decide)) (And.intro (CK_up cc_262 (by decide)) trivial))))))))))) (mo_X11_valleyLine rfl _) hc_264
theorem cc_265 {Ev : Env9} : CK Ev 9 (241, ct_265) := xctr_ok hu0 hang_0 hR9 hMT9 (b := 0) (ctL_ok (l := []) trivial) (mo_X11_mustBe rfl _) hc_265
theorem cc_266 {Ev : Env9} : CK Ev 18 (241, ct_266) := xctr_ok hu0 hang_0 hR9 hMT9 (b := 9) (ctL_ok (l := [(229, ct_156), (240, ct_257)]) (And.intro (CK_up cc_156 (by decide)) (And.intro (CK_up cc_257 (by decide)) trivial))) (mo_X11_mustBe rfl _) hc_266
theorem cc_267 {Ev : Env9} : CK Ev 18 (241, ct_267) := xctr_ok hu0 hang_0 hR9 hMT9 (b := 9) (ctL_ok (l := [(229, ct_156), (240, ct_257)]) (And.intro (CK_up cc_156 (by decide)) (And.intro (CK_up cc_257 (by decide)) trivial))) (mo_X11_mustBe rfl _) hc_267
theorem cc_268 {Ev : Env9} : CK Ev 9 (241, ct_268) := xctr_ok hu0 hang_0 hR9 hMT9 (b := 0) (ctL_ok (l := []) trivial) (mo_X11_mustBe rfl _) hc_268
theorem cc_269 {Ev : Env9} : CK Ev 18 (241, ct_269) := xctr_ok hu0 hang_0 hR9 hMT9 (b := 9) (ctL_ok (l := [(229, ct_156), (240, ct_249)]) (And.intro (CK_up cc_156 (by decide)) (And.intro (CK_up cc_249 (by decide)) trivial))) (mo_X11_mustBe rfl _) hc_269
theorem cc_270 {Ev : Env9} : CK Ev 18 (241, ct_270) := xctr_ok hu0 hang_0 hR9 hMT9 (b := 9) (ctL_ok (l := [(229, ct_156), (240, ct_249)]) (And.intro (CK_up cc_156 (by decide)) (And.intro (CK_up cc_249 (by decide)) trivial))) (mo_X11_mustBe rfl _) hc_270
theorem cc_271 {Ev : Env9} : CK Ev 27 (250, ct_271) := xctr_ok hu0 hang_0 hR9 hMT9 (b := 18) (ctL_ok (l := [(241, ct_266), (241, ct_268), (241, ct_269)]) (And.intro (CK_up cc_266 (by decide)) (And.intro (CK_up cc_268 (by decide)) (And.intro (CK_up cc_269 (by decide)) trivial)))) (mo_X11_testedLine rfl _) hc_271
theorem cc_272 {Ev : Env9} : CK Ev 18 (231, ct_272) := xctr_ok hu0 hang_0 hR9 hMT9 (b := 9) (ctL_ok (l := [(338, ct_17), (339, ct_18), (339, ct_19), (229, ct_156)]) (And.intro (CK_up hh_17 (by decide)) (And.intro (CK_up hh_18 (by decide)) (And.intro (CK_up hh_19 (by decide)) (And.intro (CK_up cc_156 (by decide)) trivial))))) (mo_X11_sees rfl _) hc_272
theorem cc_273 {Ev : Env9} : CK Ev 18 (231, ct_273) := xctr_ok hu0 hang_0 hR9 hMT9 (b := 9) (ctL_ok (l := [(338, ct_21), (339, ct_22), (339, ct_23), (229, ct_156)]) (And.intro (CK_up hh_21 (by decide)) (And.intro (CK_up hh_22 (by decide)) (And.intro (CK_up hh_23 (by decide)) (And.intro (CK_up cc_156 (by decide)) trivial))))) (mo_X11_sees rfl _) hc_273
theorem cc_274 {Ev : Env9} : CK Ev 18 (231, ct_274) := xctr_ok hu0 hang_0 hR9 hMT9 (b := 9) (ctL_ok (l := [(338, ct_25), (339, ct_26), (339, ct_27), (229, ct_156)]) (And.intro (CK_up hh_25 (by decide)) (And.intro (CK_up hh_26 (by decide)) (And.intro (CK_up hh_27 (by decide)) (And.intro (CK_up cc_156 (by decide)) trivial))))) (mo_X11_sees rfl _) hc_274
theorem cc_275 {Ev : Env9} : CK Ev 36 (251, ct_275) := xctr_ok hu0 hang_0 hR9 hMT9 (b := 27) (ctL_ok (l := [(229, ct_156), (234, ct_245), (234, ct_246), (248, ct_256), (249, ct_264), (250, ct_271), (231, ct_272), (231, ct_273), (231, ct_274)]) (And.intro (CK_up cc_156 (by decide)) (And.intro (CK_up cc_245 (by decide)) (And.intro (CK_up cc_246 (by decide)) (And.intro (CK_up cc_256 (by decide)) (And.intro (CK_up cc_264 (by decide)) (And.intro (CK_up cc_271 (by decide)) (And.intro (CK_up cc_272 (by decide)) (And.intro (CK_up cc_273 (by decide)) (And.intro (CK_up cc_274 (by decide)) trivial)))))))))) (mo_X11_statement rfl _) hc_275
theorem cc_276 {Ev : Env9} : CK Ev 36 (204, ct_276) := xctr_ok hu0 hang_0 hR9 hMT9 (b := 27) (ctL_ok (l := [(198, ct_182)]) (And.intro (CK_up cc_182 (by decide)) trivial)) (mo_X11_leastKept rfl _) hc_276
theorem cc_280 {Ev : Env9} : CK Ev 14 (49, ct_280) := xctr_ok hu0 hang_0 hR9 hMT9 (b := 5) (ctL_ok (l := [(338, ct_277), (339, ct_278), (339, ct_279)]) (And.intro (CK_up hh_277 (by decide)) (And.intro (CK_up hh_278 (by decide)) (And.intro (CK_up hh_279 (by decide)) trivial)))) (mo_X7_wordIs rfl _) hc_280
theorem cc_284 {Ev : Env9} : CK Ev 14 (49, ct_284) := xctr_ok hu0 hang_0 hR9 hMT9 (b := 5) (ctL_ok (l := [(338, ct_281), (339, ct_282), (339, ct_283)]) (And.intro (CK_up hh_281 (by decide)) (And.intro (CK_up hh_282 (by decide)) (And.intro (CK_up hh_283 (by decide)) trivial)))) (mo_X7_wordIs rfl _) hc_284
theorem cc_288 {Ev : Env9} : CK Ev 14 (49, ct_288) := xctr_ok hu0 hang_0 hR9 hMT9 (b := 5) (ctL_ok (l := [(338, ct_285), (339, ct_286), (339, ct_287)]) (And.intro (CK_up hh_285 (by decide)) (And.intro (CK_up hh_286 (by decide)) (And.intro (CK_up hh_287 (by decide)) trivial)))) (mo_X7_wordIs rfl _) hc_288
theorem cc_292 {Ev : Env9} : CK Ev 14 (49, ct_292) := xctr_ok hu0 hang_0 hR9 hMT9 (b := 5) (ctL_ok (l := [(338, ct_289), (339, ct_290), (339, ct_291)]) (And.intro (CK_up hh_289 (by decide)) (And.intro (CK_up hh_290 (by decide)) (And.intro (CK_up hh_291 (by decide)) trivial)))) (mo_X7_wordIs rfl _) hc_292
theorem cc_296 {Ev : Env9} : CK Ev 14 (49, ct_296) := xctr_ok hu0 hang_0 hR9 hMT9 (b := 5) (ctL_ok (l := [(338, ct_293), (339, ct_294), (339, ct_295)]) (And.intro (CK_up hh_293 (by decide)) (And.intro (CK_up hh_294 (by decide)) (And.intro (CK_up hh_295 (by decide)) trivial)))) (mo_X7_wordIs rfl _) hc_296
theorem cc_300 {Ev : Env9} : CK Ev 14 (49, ct_300) := xctr_ok hu0 hang_0 hR9 hMT9 (b := 5) (ctL_ok (l := [(338, ct_297), (339, ct_298), (339, ct_299)]) (And.intro (CK_up hh_297 (by decide)) (And.intro (CK_up hh_298 (by decide)) (And.intro (CK_up hh_299 (by decide)) trivial)))) (mo_X7_wordIs rfl _) hc_300
theorem cc_301 {Ev : Env9} : CK Ev 18 (55, ct_301) := xctr_ok hu0 hang_0 hR9 hMT9 (b := 9) (ctL_ok (l := [(48, ct_2)]) (And.intro (CK_up cc_2 (by decide)) trivial)) (mo_X7_takeNumber rfl _) hc_301
theorem cc_302 {Ev : Env9} : CK Ev 18 (55, ct_302) := xctr_ok hu0 hang_0 hR9 hMT9 (b := 9) (ctL_ok (l := [(48, ct_2)]) (And.intro (CK_up cc_2 (by decide)) trivial)) (mo_X7_takeNumber rfl _) hc_302
theorem cc_303 {Ev : Env9} : CK Ev 18 (231, ct_303) := xctr_ok hu0 hang_0 hR9 hMT9 (b := 9) (ctL_ok (l := [(229, ct_156), (338, ct_277), (339, ct_278), (339, ct_279)]) (And.intro (CK_up cc_156 (by decide)) (And.intro (CK_up hh_277 (by decide)) (And.intro (CK_up hh_278 (by decide)) (And.intro (CK_up hh_279 (by decide)) trivial))))) (mo_X11_sees rfl _) hc_303
theorem cc_304 {Ev : Env9} : CK Ev 18 (231, ct_304) := xctr_ok hu0 hang_0 hR9 hMT9 (b := 9) (ctL_ok (l := [(229, ct_156), (338, ct_281), (339, ct_282), (339, ct_283)]) (And.intro (CK_up cc_156 (by decide)) (And.intro (CK_up hh_281 (by decide)) (And.intro (CK_up hh_282 (by decide)) (And.intro (CK_up hh_283 (by decide)) trivial))))) (mo_X11_sees rfl _) hc_304
theorem cc_305 {Ev : Env9} : CK Ev 18 (231, ct_305) := xctr_ok hu0 hang_0 hR9 hMT9 (b := 9) (ctL_ok (l := [(229, ct_156), (338, ct_285), (339, ct_286), (339, ct_287)]) (And.intro (CK_up cc_156 (by decide)) (And.intro (CK_up hh_285 (by decide)) (And.intro (CK_up hh_286 (by decide)) (And.intro (CK_up hh_287 (by decide)) trivial))))) (mo_X11_sees rfl _) hc_305
theorem cc_306 {Ev : Env9} : CK Ev 18 (231, ct_306) := xctr_ok hu0 hang_0 hR9 hMT9 (b := 9) (ctL_ok (l := [(229, ct_156), (338, ct_289), (339, ct_290), (339, ct_291)]) (And.intro (CK_up cc_156 (by decide)) (And.intro (CK_up hh_289 (by decide)) (And.intro (CK_up hh_290 (by decide)) (And.intro (CK_up hh_291 (by decide)) trivial))))) (mo_X11_sees rfl _) hc_306
theorem cc_307 {Ev : Env9} : CK Ev 18 (231, ct_307) := xctr_ok hu0 hang_0 hR9 hMT9 (b := 9) (ctL_ok (l := [(229, ct_156), (338, ct_293), (339, ct_294), (339, ct_295)]) (And.intro (CK_up cc_156 (by decide)) (And.intro (CK_up hh_293 (by decide)) (And.intro (CK_up hh_294 (by decide)) (And.intro (CK_up hh_295 (by decide)) trivial))))) (mo_X11_sees rfl _) hc_307
theorem cc_308 {Ev : Env9} : CK Ev 18 (231, ct_308) := xctr_ok hu0 hang_0 hR9 hMT9 (b := 9) (ctL_ok (l := [(229, ct_156), (338, ct_297), (339, ct_298), (339, ct_299)]) (And.intro (CK_up cc_156 (by decide)) (And.intro (CK_up hh_297 (by decide)) (And.intro (CK_up hh_298 (by decide)) (And.intro (CK_up hh_299 (by decide)) trivial))))) (mo_X11_sees rfl _) hc_308
theorem cc_309 {Ev : Env9} : CK Ev 9 (235, ct_309) := xctr_ok hu0 hang_0 hR9 hMT9 (b := 0) (ctL_ok (l := []) trivial) (mo_X11_number rfl _) hc_309
theorem cc_310 {Ev : Env9} : CK Ev 18 (235, ct_310) := xctr_ok hu0 hang_0 hR9 hMT9 (b := 9) (ctL_ok (l := [(229, ct_156)]) (And.intro (CK_up cc_156 (by decide)) trivial)) (mo_X11_number rfl _) hc_310
theorem cc_311 {Ev : Env9} : CK Ev 18 (235, ct_311) := xctr_ok hu0 hang_0 hR9 hMT9 (b := 9) (ctL_ok (l := [(229, ct_156)]) (And.intro (CK_up cc_156 (by decide)) trivial)) (mo_X11_number rfl _) hc_311
theorem cc_312 {Ev : Env9} : CK Ev 9 (235, ct_312) := xctr_ok hu0 hang_0 hR9 hMT9 (b := 0) (ctL_ok (l := []) trivial) (mo_X11_number rfl _) hc_312
theorem cc_313 {Ev : Env9} : CK Ev 18 (235, ct_313) := xctr_ok hu0 hang_0 hR9 hMT9 (b := 9) (ctL_ok (l := [(229, ct_156)]) (And.intro (CK_up cc_156 (by decide)) trivial)) (mo_X11_number rfl _) hc_313
theorem cc_314 {Ev : Env9} : CK Ev 18 (235, ct_314) := xctr_ok hu0 hang_0 hR9 hMT9 (b := 9) (ctL_ok (l := [(229, ct_156)]) (And.intro (CK_up cc_156 (by decide)) trivial)) (mo_X11_number rfl _) hc_314
theorem tl_parse_ok {Ev : Env9} : ∀ y, ∀ ct ∈ ctL tl_parse y, ∀ k, 18 ≤ k → CtrOK kd0 sh0 rt0 bd0 Inv0 Ev (runM k) y ct := ctL_ok (l := tl_parse) (And.intro (CK_up cc_2 (by decide)) (And.intro (CK_up cc_6 (by decide)) (And.intro (CK_up cc_9 (by decide)) (And.intro (CK_up cc_31 (by decide)) (And.intro (CK_up cc_33 (by decide)) (And.intro (CK_up cc_39 (by decide)) (And.intro (CK_up cc_280 (by decide)) (And.intro (CK_up cc_284 (by decide)) (And.intro (CK_up cc_288 (by decide)) (And.intro (CK_up cc_292 (by decide)) (And.intro (CK_up cc_296 (by decide)) (And.intro (CK_up cc_300 (by decide)) (And.intro (CK_up cc_301 (by decide)) (And.intro (CK_up cc_302 (by decide)) trivial))))))))))))))
end
section
/-! the reference's parser: for whatever hangs on the same places -/
def CKI (Inv : Mem → Prop) (Ev : Env9) (b : Nat) (p : Nat × Ctr) : Prop := ∀ k, b ≤ k → CtrOK kd0 sh0 rt0 bd0 Inv Ev (runM k) p.1 p.2
theorem CKI_up {Inv : Mem → Prop} {Ev : Env9} {b c : Nat} {p : Nat × Ctr} (h : CKI Inv Ev b p) (hb : b ≤ c) : CKI Inv Ev c p := fun k hk => h k (Nat.le_trans hb hk)
theorem ctI_ok {Inv : Mem → Prop} {Ev : Env9} {b : Nat} : ∀ {l : List (Nat × Ctr)}, allC (CKI Inv Ev b) l → ∀ y, ∀ ct ∈ ctL l y, ∀ k, b ≤ k → CtrOK kd0 sh0 rt0 bd0 Inv Ev (runM k) y ct := by
  intro l
  induction l with
  | nil => intro _ y ct h; cases h
  | cons a l ih =>
    intro hl y ct hm
    obtain ⟨h1, h2⟩ := hl
    have hm : ct ∈ (Bool.rec (ctL l y) (a.2 :: ctL l y) (Nat.beq a.1 y) : List Ctr) := hm
    cases hb : Nat.beq a.1 y with
    | false => rw [hb] at hm; exact ih h2 y ct hm
    | true =>
      rw [hb] at hm
      rcases List.mem_cons.mp hm with e | e
      · subst e
        intro k hk
        have := h1 k hk
        rwa [Nat.eq_of_beq_eq_true hb] at this
      · exact ih h2 y ct e
theorem cg_156 {Ev : Env9} {Inv : Mem → Prop} (hI : Hang kd0 PR0 Inv) : CKI Inv Ev 9 (229, ct_156) := xctr_ok hu0 hI hR9 hMT9 (b := 0) (ctI_ok (l := []) trivial) (mo_X11_next rfl _) hc_156
theorem hg_3 {Ev : Env9} {Inv : Mem → Prop} (_ : Hang kd0 PR0 Inv) : CKI Inv Ev 5 (338, ct_3) := ctr_len (w := 21) (n := 4) (by decide) sl_21
theorem hg_4 {Ev : Env9} {Inv : Mem → Prop} (_ : Hang kd0 PR0 Inv) : CKI Inv Ev 5 (339, ct_4) := ctr_chr (w := 21) (lo := 0) (hi := 0) (mn := 102) (mx := 102) (by decide) (by decide) (fun i h1 h2 => match i, h1, h2 with | 0, _, _ => ⟨102, by decide, by decide, sc_21_0⟩ | n + 1, _, h2 => absurd h2 (by omega))
theorem hg_5 {Ev : Env9} {Inv : Mem → Prop} (_ : Hang kd0 PR0 Inv) : CKI Inv Ev 5 (339, ct_5) := ctr_chr (w := 21) (lo := 0) (hi := 3) (mn := 97) (mx := 114) (by decide) (by decide) (fun i h1 h2 => match i, h1, h2 with | 0, _, _ => ⟨102, by decide, by decide, sc_21_0⟩ | 1, _, _ => ⟨97, by decide, by decide, sc_21_1⟩ | 2, _, _ => ⟨105, by decide, by decide, sc_21_2⟩ | 3, _, _ => ⟨114, by decide, by decide, sc_21_3⟩ | n + 4, _, h2 => absurd h2 (by omega))
theorem cg_234 {Ev : Env9} {Inv : Mem → Prop} (hI : Hang kd0 PR0 Inv) : CKI Inv Ev 18 (231, ct_234) := xctr_ok hu0 hI hR9 hMT9 (b := 9) (ctI_ok (l := [(338, ct_3), (339, ct_4), (339, ct_5), (229, ct_156)]) (And.intro (CKI_up (hg_3 hI) (by decide)) (And.intro (CKI_up (hg_4 hI) (by decide)) (And.intro (CKI_up (hg_5 hI) (by decide)) (And.intro (CKI_up (cg_156 hI) (by decide)) trivial))))) (mo_X11_sees rfl _) hc_234
theorem cg_245 {Ev : Env9} {Inv : Mem → Prop} (hI : Hang kd0 PR0 Inv) : CKI Inv Ev 9 (234, ct_245) := xctr_ok hu0 hI hR9 hMT9 (b := 0) (ctI_ok (l := []) trivial) (mo_X11_semicolon rfl _) hc_245
theorem cg_246 {Ev : Env9} {Inv : Mem → Prop} (hI : Hang kd0 PR0 Inv) : CKI Inv Ev 18 (234, ct_246) := xctr_ok hu0 hI hR9 hMT9 (b := 9) (ctI_ok (l := [(229, ct_156)]) (And.intro (CKI_up (cg_156 hI) (by decide)) trivial)) (mo_X11_semicolon rfl _) hc_246
theorem cg_253 {Ev : Env9} {Inv : Mem → Prop} (hI : Hang kd0 PR0 Inv) : CKI Inv Ev 9 (235, ct_253) := xctr_ok hu0 hI hR9 hMT9 (b := 0) (ctI_ok (l := []) trivial) (mo_X11_number rfl _) hc_253
theorem cg_254 {Ev : Env9} {Inv : Mem → Prop} (hI : Hang kd0 PR0 Inv) : CKI Inv Ev 18 (235, ct_254) := xctr_ok hu0 hI hR9 hMT9 (b := 9) (ctI_ok (l := [(229, ct_156)]) (And.intro (CKI_up (cg_156 hI) (by decide)) trivial)) (mo_X11_number rfl _) hc_254
theorem cg_257 {Ev : Env9} {Inv : Mem → Prop} (hI : Hang kd0 PR0 Inv) : CKI Inv Ev 9 (240, ct_257) := xctr_ok hu0 hI hR9 hMT9 (b := 0) (ctI_ok (l := []) trivial) (mo_X11_thingHere rfl _) hc_257
theorem cg_266 {Ev : Env9} {Inv : Mem → Prop} (hI : Hang kd0 PR0 Inv) : CKI Inv Ev 18 (241, ct_266) := xctr_ok hu0 hI hR9 hMT9 (b := 9) (ctI_ok (l := [(229, ct_156), (240, ct_257)]) (And.intro (CKI_up (cg_156 hI) (by decide)) (And.intro (CKI_up (cg_257 hI) (by decide)) trivial))) (mo_X11_mustBe rfl _) hc_266
theorem cg_268 {Ev : Env9} {Inv : Mem → Prop} (hI : Hang kd0 PR0 Inv) : CKI Inv Ev 9 (241, ct_268) := xctr_ok hu0 hI hR9 hMT9 (b := 0) (ctI_ok (l := []) trivial) (mo_X11_mustBe rfl _) hc_268
theorem cg_249 {Ev : Env9} {Inv : Mem → Prop} (hI : Hang kd0 PR0 Inv) : CKI Inv Ev 9 (240, ct_249) := xctr_ok hu0 hI hR9 hMT9 (b := 0) (ctI_ok (l := []) trivial) (mo_X11_thingHere rfl _) hc_249
theorem cg_269 {Ev : Env9} {Inv : Mem → Prop} (hI : Hang kd0 PR0 Inv) : CKI Inv Ev 18 (241, ct_269) := xctr_ok hu0 hI hR9 hMT9 (b := 9) (ctI_ok (l := [(229, ct_156), (240, ct_249)]) (And.intro (CKI_up (cg_156 hI) (by decide)) (And.intro (CKI_up (cg_249 hI) (by decide)) trivial))) (mo_X11_mustBe rfl _) hc_269
theorem hg_277 {Ev : Env9} {Inv : Mem → Prop} (_ : Hang kd0 PR0 Inv) : CKI Inv Ev 5 (338, ct_277) := ctr_len (w := 20) (n := 4) (by decide) sl_20
theorem hg_278 {Ev : Env9} {Inv : Mem → Prop} (_ : Hang kd0 PR0 Inv) : CKI Inv Ev 5 (339, ct_278) := ctr_chr (w := 20) (lo := 0) (hi := 0) (mn := 112) (mx := 112) (by decide) (by decide) (fun i h1 h2 => match i, h1, h2 with | 0, _, _ => ⟨112, by decide, by decide, sc_20_0⟩ | n + 1, _, h2 => absurd h2 (by omega))
theorem hg_279 {Ev : Env9} {Inv : Mem → Prop} (_ : Hang kd0 PR0 Inv) : CKI Inv Ev 5 (339, ct_279) := ctr_chr (w := 20) (lo := 0) (hi := 3) (mn := 97) (mx := 115) (by decide) (by decide) (fun i h1 h2 => match i, h1, h2 with | 0, _, _ => ⟨112, by decide, by decide, sc_20_0⟩ | 1, _, _ => ⟨97, by decide, by decide, sc_20_1⟩ | 2, _, _ => ⟨115, by decide, by decide, sc_20_2⟩ | 3, _, _ => ⟨115, by decide, by decide, sc_20_3⟩ | n + 4, _, h2 => absurd h2 (by omega))
theorem cg_303 {Ev : Env9} {Inv : Mem → Prop} (hI : Hang kd0 PR0 Inv) : CKI Inv Ev 18 (231, ct_303) := xctr_ok hu0 hI hR9 hMT9 (b := 9) (ctI_ok (l := [(229, ct_156), (338, ct_277), (339, ct_278), (339, ct_279)]) (And.intro (CKI_up (cg_156 hI) (by decide)) (And.intro (CKI_up (hg_277 hI) (by decide)) (And.intro (CKI_up (hg_278 hI) (by decide)) (And.intro (CKI_up (hg_279 hI) (by decide)) trivial))))) (mo_X11_sees rfl _) hc_303
theorem hg_281 {Ev : Env9} {Inv : Mem → Prop} (_ : Hang kd0 PR0 Inv) : CKI Inv Ev 5 (338, ct_281) := ctr_len (w := 22) (n := 4) (by decide) sl_22
theorem hg_282 {Ev : Env9} {Inv : Mem → Prop} (_ : Hang kd0 PR0 Inv) : CKI Inv Ev 5 (339, ct_282) := ctr_chr (w := 22) (lo := 0) (hi := 0) (mn := 116) (mx := 116) (by decide) (by decide) (fun i h1 h2 => match i, h1, h2 with | 0, _, _ => ⟨116, by decide, by decide, sc_22_0⟩ | n + 1, _, h2 => absurd h2 (by omega))
theorem hg_283 {Ev : Env9} {Inv : Mem → Prop} (_ : Hang kd0 PR0 Inv) : CKI Inv Ev 5 (339, ct_283) := ctr_chr (w := 22) (lo := 0) (hi := 3) (mn := 101) (mx := 116) (by decide) (by decide) (fun i h1 h2 => match i, h1, h2 with | 0, _, _ => ⟨116, by decide, by decide, sc_22_0⟩ | 1, _, _ => ⟨101, by decide, by decide, sc_22_1⟩ | 2, _, _ => ⟨115, by decide, by decide, sc_22_2⟩ | 3, _, _ => ⟨116, by decide, by decide, sc_22_3⟩ | n + 4, _, h2 => absurd h2 (by omega))
theorem cg_304 {Ev : Env9} {Inv : Mem → Prop} (hI : Hang kd0 PR0 Inv) : CKI Inv Ev 18 (231, ct_304) := xctr_ok hu0 hI hR9 hMT9 (b := 9) (ctI_ok (l := [(229, ct_156), (338, ct_281), (339, ct_282), (339, ct_283)]) (And.intro (CKI_up (cg_156 hI) (by decide)) (And.intro (CKI_up (hg_281 hI) (by decide)) (And.intro (CKI_up (hg_282 hI) (by decide)) (And.intro (CKI_up (hg_283 hI) (by decide)) trivial))))) (mo_X11_sees rfl _) hc_304
theorem hg_285 {Ev : Env9} {Inv : Mem → Prop} (_ : Hang kd0 PR0 Inv) : CKI Inv Ev 5 (338, ct_285) := ctr_len (w := 23) (n := 7) (by decide) sl_23
theorem hg_286 {Ev : Env9} {Inv : Mem → Prop} (_ : Hang kd0 PR0 Inv) : CKI Inv Ev 5 (339, ct_286) := ctr_chr (w := 23) (lo := 0) (hi := 0) (mn := 100) (mx := 100) (by decide) (by decide) (fun i h1 h2 => match i, h1, h2 with | 0, _, _ => ⟨100, by decide, by decide, sc_23_0⟩ | n + 1, _, h2 => absurd h2 (by omega))
theorem hg_287 {Ev : Env9} {Inv : Mem → Prop} (_ : Hang kd0 PR0 Inv) : CKI Inv Ev 5 (339, ct_287) := ctr_chr (w := 23) (lo := 0) (hi := 6) (mn := 100) (mx := 115) (by decide) (by decide) (fun i h1 h2 => match i, h1, h2 with | 0, _, _ => ⟨100, by decide, by decide, sc_23_0⟩ | 1, _, _ => ⟨105, by decide, by decide, sc_23_1⟩ | 2, _, _ => ⟨115, by decide, by decide, sc_23_2⟩ | 3, _, _ => ⟨109, by decide, by decide, sc_23_3⟩ | 4, _, _ => ⟨105, by decide, by decide, sc_23_4⟩ | 5, _, _ => ⟨115, by decide, by decide, sc_23_5⟩ | 6, _, _ => ⟨115, by decide, by decide, sc_23_6⟩ | n + 7, _, h2 => absurd h2 (by omega))
theorem cg_305 {Ev : Env9} {Inv : Mem → Prop} (hI : Hang kd0 PR0 Inv) : CKI Inv Ev 18 (231, ct_305) := xctr_ok hu0 hI hR9 hMT9 (b := 9) (ctI_ok (l := [(229, ct_156), (338, ct_285), (339, ct_286), (339, ct_287)]) (And.intro (CKI_up (cg_156 hI) (by decide)) (And.intro (CKI_up (hg_285 hI) (by decide)) (And.intro (CKI_up (hg_286 hI) (by decide)) (And.intro (CKI_up (hg_287 hI) (by decide)) trivial))))) (mo_X11_sees rfl _) hc_305
theorem hg_289 {Ev : Env9} {Inv : Mem → Prop} (_ : Hang kd0 PR0 Inv) : CKI Inv Ev 5 (338, ct_289) := ctr_len (w := 24) (n := 4) (by decide) sl_24
theorem hg_290 {Ev : Env9} {Inv : Mem → Prop} (_ : Hang kd0 PR0 Inv) : CKI Inv Ev 5 (339, ct_290) := ctr_chr (w := 24) (lo := 0) (hi := 0) (mn := 119) (mx := 119) (by decide) (by decide) (fun i h1 h2 => match i, h1, h2 with | 0, _, _ => ⟨119, by decide, by decide, sc_24_0⟩ | n + 1, _, h2 => absurd h2 (by omega))
theorem hg_291 {Ev : Env9} {Inv : Mem → Prop} (_ : Hang kd0 PR0 Inv) : CKI Inv Ev 5 (339, ct_291) := ctr_chr (w := 24) (lo := 0) (hi := 3) (mn := 97) (mx := 119) (by decide) (by decide) (fun i h1 h2 => match i, h1, h2 with | 0, _, _ => ⟨119, by decide, by decide, sc_24_0⟩ | 1, _, _ => ⟨97, by decide, by decide, sc_24_1⟩ | 2, _, _ => ⟨103, by decide, by decide, sc_24_2⟩ | 3, _, _ => ⟨101, by decide, by decide, sc_24_3⟩ | n + 4, _, h2 => absurd h2 (by omega))
theorem cg_306 {Ev : Env9} {Inv : Mem → Prop} (hI : Hang kd0 PR0 Inv) : CKI Inv Ev 18 (231, ct_306) := xctr_ok hu0 hI hR9 hMT9 (b := 9) (ctI_ok (l := [(229, ct_156), (338, ct_289), (339, ct_290), (339, ct_291)]) (And.intro (CKI_up (cg_156 hI) (by decide)) (And.intro (CKI_up (hg_289 hI) (by decide)) (And.intro (CKI_up (hg_290 hI) (by decide)) (And.intro (CKI_up (hg_291 hI) (by decide)) trivial))))) (mo_X11_sees rfl _) hc_306
theorem hg_293 {Ev : Env9} {Inv : Mem → Prop} (_ : Hang kd0 PR0 Inv) : CKI Inv Ev 5 (338, ct_293) := ctr_len (w := 25) (n := 4) (by decide) sl_25
theorem hg_294 {Ev : Env9} {Inv : Mem → Prop} (_ : Hang kd0 PR0 Inv) : CKI Inv Ev 5 (339, ct_294) := ctr_chr (w := 25) (lo := 0) (hi := 0) (mn := 102) (mx := 102) (by decide) (by decide) (fun i h1 h2 => match i, h1, h2 with | 0, _, _ => ⟨102, by decide, by decide, sc_25_0⟩ | n + 1, _, h2 => absurd h2 (by omega))
theorem hg_295 {Ev : Env9} {Inv : Mem → Prop} (_ : Hang kd0 PR0 Inv) : CKI Inv Ev 5 (339, ct_295) := ctr_chr (w := 25) (lo := 0) (hi := 3) (mn := 100) (mx := 117) (by decide) (by decide) (fun i h1 h2 => match i, h1, h2 with | 0, _, _ => ⟨102, by decide, by decide, sc_25_0⟩ | 1, _, _ => ⟨117, by decide, by decide, sc_25_1⟩ | 2, _, _ => ⟨110, by decide, by decide, sc_25_2⟩ | 3, _, _ => ⟨100, by decide, by decide, sc_25_3⟩ | n + 4, _, h2 => absurd h2 (by omega))
theorem cg_307 {Ev : Env9} {Inv : Mem → Prop} (hI : Hang kd0 PR0 Inv) : CKI Inv Ev 18 (231, ct_307) := xctr_ok hu0 hI hR9 hMT9 (b := 9) (ctI_ok (l := [(229, ct_156), (338, ct_293), (339, ct_294), (339, ct_295)]) (And.intro (CKI_up (cg_156 hI) (by decide)) (And.intro (CKI_up (hg_293 hI) (by decide)) (And.intro (CKI_up (hg_294 hI) (by decide)) (And.intro (CKI_up (hg_295 hI) (by decide)) trivial))))) (mo_X11_sees rfl _) hc_307
theorem hg_297 {Ev : Env9} {Inv : Mem → Prop} (_ : Hang kd0 PR0 Inv) : CKI Inv Ev 5 (338, ct_297) := ctr_len (w := 26) (n := 5) (by decide) sl_26
theorem hg_298 {Ev : Env9} {Inv : Mem → Prop} (_ : Hang kd0 PR0 Inv) : CKI Inv Ev 5 (339, ct_298) := ctr_chr (w := 26) (lo := 0) (hi := 0) (mn := 116) (mx := 116) (by decide) (by decide) (fun i h1 h2 => match i, h1, h2 with | 0, _, _ => ⟨116, by decide, by decide, sc_26_0⟩ | n + 1, _, h2 => absurd h2 (by omega))
theorem hg_299 {Ev : Env9} {Inv : Mem → Prop} (_ : Hang kd0 PR0 Inv) : CKI Inv Ev 5 (339, ct_299) := ctr_chr (w := 26) (lo := 0) (hi := 4) (mn := 97) (mx := 116) (by decide) (by decide) (fun i h1 h2 => match i, h1, h2 with | 0, _, _ => ⟨116, by decide, by decide, sc_26_0⟩ | 1, _, _ => ⟨114, by decide, by decide, sc_26_1⟩ | 2, _, _ => ⟨97, by decide, by decide, sc_26_2⟩ | 3, _, _ => ⟨105, by decide, by decide, sc_26_3⟩ | 4, _, _ => ⟨110, by decide, by decide, sc_26_4⟩ | n + 5, _, h2 => absurd h2 (by omega))
theorem cg_308 {Ev : Env9} {Inv : Mem → Prop} (hI : Hang kd0 PR0 Inv) : CKI Inv Ev 18 (231, ct_308) := xctr_ok hu0 hI hR9 hMT9 (b := 9) (ctI_ok (l := [(229, ct_156), (338, ct_297), (339, ct_298), (339, ct_299)]) (And.intro (CKI_up (cg_156 hI) (by decide)) (And.intro (CKI_up (hg_297 hI) (by decide)) (And.intro (CKI_up (hg_298 hI) (by decide)) (And.intro (CKI_up (hg_299 hI) (by decide)) trivial))))) (mo_X11_sees rfl _) hc_308
theorem cg_309 {Ev : Env9} {Inv : Mem → Prop} (hI : Hang kd0 PR0 Inv) : CKI Inv Ev 9 (235, ct_309) := xctr_ok hu0 hI hR9 hMT9 (b := 0) (ctI_ok (l := []) trivial) (mo_X11_number rfl _) hc_309
theorem cg_310 {Ev : Env9} {Inv : Mem → Prop} (hI : Hang kd0 PR0 Inv) : CKI Inv Ev 18 (235, ct_310) := xctr_ok hu0 hI hR9 hMT9 (b := 9) (ctI_ok (l := [(229, ct_156)]) (And.intro (CKI_up (cg_156 hI) (by decide)) trivial)) (mo_X11_number rfl _) hc_310
theorem cg_313 {Ev : Env9} {Inv : Mem → Prop} (hI : Hang kd0 PR0 Inv) : CKI Inv Ev 18 (235, ct_313) := xctr_ok hu0 hI hR9 hMT9 (b := 9) (ctI_ok (l := [(229, ct_156)]) (And.intro (CKI_up (cg_156 hI) (by decide)) trivial)) (mo_X11_number rfl _) hc_313
theorem hg_11 {Ev : Env9} {Inv : Mem → Prop} (_ : Hang kd0 PR0 Inv) : CKI Inv Ev 5 (338, ct_11) := ctr_len (w := 27) (n := 3) (by decide) sl_27
theorem hg_12 {Ev : Env9} {Inv : Mem → Prop} (_ : Hang kd0 PR0 Inv) : CKI Inv Ev 5 (339, ct_12) := ctr_chr (w := 27) (lo := 0) (hi := 0) (mn := 102) (mx := 102) (by decide) (by decide) (fun i h1 h2 => match i, h1, h2 with | 0, _, _ => ⟨102, by decide, by decide, sc_27_0⟩ | n + 1, _, h2 => absurd h2 (by omega))
theorem hg_13 {Ev : Env9} {Inv : Mem → Prop} (_ : Hang kd0 PR0 Inv) : CKI Inv Ev 5 (339, ct_13) := ctr_chr (w := 27) (lo := 0) (hi := 2) (mn := 102) (mx := 111) (by decide) (by decide) (fun i h1 h2 => match i, h1, h2 with | 0, _, _ => ⟨102, by decide, by decide, sc_27_0⟩ | 1, _, _ => ⟨111, by decide, by decide, sc_27_1⟩ | 2, _, _ => ⟨103, by decide, by decide, sc_27_2⟩ | n + 3, _, h2 => absurd h2 (by omega))
theorem cg_238 {Ev : Env9} {Inv : Mem → Prop} (hI : Hang kd0 PR0 Inv) : CKI Inv Ev 18 (231, ct_238) := xctr_ok hu0 hI hR9 hMT9 (b := 9) (ctI_ok (l := [(338, ct_11), (339, ct_12), (339, ct_13), (229, ct_156)]) (And.intro (CKI_up (hg_11 hI) (by decide)) (And.intro (CKI_up (hg_12 hI) (by decide)) (And.intro (CKI_up (hg_13 hI) (by decide)) (And.intro (CKI_up (cg_156 hI) (by decide)) trivial))))) (mo_X11_sees rfl _) hc_238
theorem cg_239 {Ev : Env9} {Inv : Mem → Prop} (hI : Hang kd0 PR0 Inv) : CKI Inv Ev 9 (235, ct_239) := xctr_ok hu0 hI hR9 hMT9 (b := 0) (ctI_ok (l := []) trivial) (mo_X11_number rfl _) hc_239
theorem cg_240 {Ev : Env9} {Inv : Mem → Prop} (hI : Hang kd0 PR0 Inv) : CKI Inv Ev 18 (235, ct_240) := xctr_ok hu0 hI hR9 hMT9 (b := 9) (ctI_ok (l := [(229, ct_156)]) (And.intro (CKI_up (cg_156 hI) (by decide)) trivial)) (mo_X11_number rfl _) hc_240
theorem cg_243 {Ev : Env9} {Inv : Mem → Prop} (hI : Hang kd0 PR0 Inv) : CKI Inv Ev 18 (236, ct_243) := xctr_ok hu0 hI hR9 hMT9 (b := 9) (ctI_ok (l := [(229, ct_156)]) (And.intro (CKI_up (cg_156 hI) (by decide)) trivial)) (mo_X11_isNumberNext rfl _) hc_243
theorem tl_reads_ok {Ev : Env9} {Inv : Mem → Prop} (hI : Hang kd0 PR0 Inv) : ∀ y, ∀ ct ∈ ctL tl_reads y, ∀ k, 18 ≤ k → CtrOK kd0 sh0 rt0 bd0 Inv Ev (runM k) y ct := ctI_ok (l := tl_reads) (And.intro (CKI_up (cg_156 hI) (by decide)) (And.intro (CKI_up (cg_234 hI) (by decide)) (And.intro (CKI_up (cg_245 hI) (by decide)) (And.intro (CKI_up (cg_246 hI) (by decide)) (And.intro (CKI_up (cg_253 hI) (by decide)) (And.intro (CKI_up (cg_254 hI) (by decide)) (And.intro (CKI_up (cg_266 hI) (by decide)) (And.intro (CKI_up (cg_268 hI) (by decide)) (And.intro (CKI_up (cg_269 hI) (by decide)) (And.intro (CKI_up (cg_303 hI) (by decide)) (And.intro (CKI_up (cg_304 hI) (by decide)) (And.intro (CKI_up (cg_305 hI) (by decide)) (And.intro (CKI_up (cg_306 hI) (by decide)) (And.intro (CKI_up (cg_307 hI) (by decide)) (And.intro (CKI_up (cg_308 hI) (by decide)) (And.intro (CKI_up (cg_309 hI) (by decide)) (And.intro (CKI_up (cg_310 hI) (by decide)) (And.intro (CKI_up (cg_313 hI) (by decide)) trivial))))))))))))))))))
end
