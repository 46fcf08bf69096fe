/-! by hand: texts, for what the parser needs -/
set_option maxRecDepth 100000 in
theorem sl_20 (k : Nat) (Ev : Env9) (M : Mem) : runM (k + 5) 338 Ev 466 [vW 20] M = some [((0, 0), Ev, vI 4, [], [], M, 466, 0)] := rfl
theorem hh_277 {Ev : Env9} : CK Ev 5 (338, ct_277) := ctr_len (w := 20) (n := 4) (by decide) sl_20
set_option maxRecDepth 100000 in
theorem sc_20_0 (k : Nat) (Ev : Env9) (M : Mem) : runM (k + 5) 339 Ev 466 [vW 20, vI 0] M = some [((0, 0), Ev, vI 112, [], [], M, 466, 0)] := rfl
theorem hh_278 {Ev : Env9} : CK Ev 5 (339, ct_278) := ctr_chr (w := 20) (lo := 0) (hi := 0) (mn := 112) (mx := 112) (by decide) (by decide) (fun i h1 h2 => match i, h1, h2 with | 0, _, _ => ⟨112, by decide, by decide, sc_20_0⟩ | n + 1, _, h2 => absurd h2 (by omega))
set_option maxRecDepth 100000 in
theorem sc_20_1 (k : Nat) (Ev : Env9) (M : Mem) : runM (k + 5) 339 Ev 466 [vW 20, vI 1] M = some [((0, 0), Ev, vI 97, [], [], M, 466, 0)] := rfl
set_option maxRecDepth 100000 in
theorem sc_20_2 (k : Nat) (Ev : Env9) (M : Mem) : runM (k + 5) 339 Ev 466 [vW 20, vI 2] M = some [((0, 0), Ev, vI 115, [], [], M, 466, 0)] := rfl
set_option maxRecDepth 100000 in
theorem sc_20_3 (k : Nat) (Ev : Env9) (M : Mem) : runM (k + 5) 339 Ev 466 [vW 20, vI 3] M = some [((0, 0), Ev, vI 115, [], [], M, 466, 0)] := rfl
theorem hh_279 {Ev : Env9} : CK Ev 5 (339, ct_279) := ctr_chr (w := 20) (lo := 0) (hi := 3) (mn := 97) (mx := 115) (by decide) (by decide) (fun i h1 h2 => match i, h1, h2 with | 0, _, _ => ⟨112, by decide, by decide, sc_20_0⟩ | 1, _, _ => ⟨97, by decide, by decide, sc_20_1⟩ | 2, _, _ => ⟨115, by decide, by decide, sc_20_2⟩ | 3, _, _ => ⟨115, by decide, by decide, sc_20_3⟩ | n + 4, _, h2 => absurd h2 (by omega))
set_option maxRecDepth 100000 in
theorem sl_22 (k : Nat) (Ev : Env9) (M : Mem) : runM (k + 5) 338 Ev 466 [vW 22] M = some [((0, 0), Ev, vI 4, [], [], M, 466, 0)] := rfl
theorem hh_281 {Ev : Env9} : CK Ev 5 (338, ct_281) := ctr_len (w := 22) (n := 4) (by decide) sl_22
set_option maxRecDepth 100000 in
theorem sc_22_0 (k : Nat) (Ev : Env9) (M : Mem) : runM (k + 5) 339 Ev 466 [vW 22, vI 0] M = some [((0, 0), Ev, vI 116, [], [], M, 466, 0)] := rfl
theorem hh_282 {Ev : Env9} : CK Ev 5 (339, ct_282) := ctr_chr (w := 22) (lo := 0) (hi := 0) (mn := 116) (mx := 116) (by decide) (by decide) (fun i h1 h2 => match i, h1, h2 with | 0, _, _ => ⟨116, by decide, by decide, sc_22_0⟩ | n + 1, _, h2 => absurd h2 (by omega))
set_option maxRecDepth 100000 in
theorem sc_22_1 (k : Nat) (Ev : Env9) (M : Mem) : runM (k + 5) 339 Ev 466 [vW 22, vI 1] M = some [((0, 0), Ev, vI 101, [], [], M, 466, 0)] := rfl
set_option maxRecDepth 100000 in
theorem sc_22_2 (k : Nat) (Ev : Env9) (M : Mem) : runM (k + 5) 339 Ev 466 [vW 22, vI 2] M = some [((0, 0), Ev, vI 115, [], [], M, 466, 0)] := rfl
set_option maxRecDepth 100000 in
theorem sc_22_3 (k : Nat) (Ev : Env9) (M : Mem) : runM (k + 5) 339 Ev 466 [vW 22, vI 3] M = some [((0, 0), Ev, vI 116, [], [], M, 466, 0)] := rfl
theorem hh_283 {Ev : Env9} : CK Ev 5 (339, ct_283) := ctr_chr (w := 22) (lo := 0) (hi := 3) (mn := 101) (mx := 116) (by decide) (by decide) (fun i h1 h2 => match i, h1, h2 with | 0, _, _ => ⟨116, by decide, by decide, sc_22_0⟩ | 1, _, _ => ⟨101, by decide, by decide, sc_22_1⟩ | 2, _, _ => ⟨115, by decide, by decide, sc_22_2⟩ | 3, _, _ => ⟨116, by decide, by decide, sc_22_3⟩ | n + 4, _, h2 => absurd h2 (by omega))
set_option maxRecDepth 100000 in
theorem sl_23 (k : Nat) (Ev : Env9) (M : Mem) : runM (k + 5) 338 Ev 466 [vW 23] M = some [((0, 0), Ev, vI 7, [], [], M, 466, 0)] := rfl
theorem hh_285 {Ev : Env9} : CK Ev 5 (338, ct_285) := ctr_len (w := 23) (n := 7) (by decide) sl_23
set_option maxRecDepth 100000 in
theorem sc_23_0 (k : Nat) (Ev : Env9) (M : Mem) : runM (k + 5) 339 Ev 466 [vW 23, vI 0] M = some [((0, 0), Ev, vI 100, [], [], M, 466, 0)] := rfl
theorem hh_286 {Ev : Env9} : CK Ev 5 (339, ct_286) := ctr_chr (w := 23) (lo := 0) (hi := 0) (mn := 100) (mx := 100) (by decide) (by decide) (fun i h1 h2 => match i, h1, h2 with | 0, _, _ => ⟨100, by decide, by decide, sc_23_0⟩ | n + 1, _, h2 => absurd h2 (by omega))
set_option maxRecDepth 100000 in
theorem sc_23_1 (k : Nat) (Ev : Env9) (M : Mem) : runM (k + 5) 339 Ev 466 [vW 23, vI 1] M = some [((0, 0), Ev, vI 105, [], [], M, 466, 0)] := rfl
set_option maxRecDepth 100000 in
theorem sc_23_2 (k : Nat) (Ev : Env9) (M : Mem) : runM (k + 5) 339 Ev 466 [vW 23, vI 2] M = some [((0, 0), Ev, vI 115, [], [], M, 466, 0)] := rfl
set_option maxRecDepth 100000 in
theorem sc_23_3 (k : Nat) (Ev : Env9) (M : Mem) : runM (k + 5) 339 Ev 466 [vW 23, vI 3] M = some [((0, 0), Ev, vI 109, [], [], M, 466, 0)] := rfl
set_option maxRecDepth 100000 in
theorem sc_23_4 (k : Nat) (Ev : Env9) (M : Mem) : runM (k + 5) 339 Ev 466 [vW 23, vI 4] M = some [((0, 0), Ev, vI 105, [], [], M, 466, 0)] := rfl
set_option maxRecDepth 100000 in
theorem sc_23_5 (k : Nat) (Ev : Env9) (M : Mem) : runM (k + 5) 339 Ev 466 [vW 23, vI 5] M = some [((0, 0), Ev, vI 115, [], [], M, 466, 0)] := rfl
set_option maxRecDepth 100000 in
theorem sc_23_6 (k : Nat) (Ev : Env9) (M : Mem) : runM (k + 5) 339 Ev 466 [vW 23, vI 6] M = some [((0, 0), Ev, vI 115, [], [], M, 466, 0)] := rfl
theorem hh_287 {Ev : Env9} : CK Ev 5 (339, ct_287) := ctr_chr (w := 23) (lo := 0) (hi := 6) (mn := 100) (mx := 115) (by decide) (by decide) (fun i h1 h2 => match i, h1, h2 with | 0, _, _ => ⟨100, by decide, by decide, sc_23_0⟩ | 1, _, _ => ⟨105, by decide, by decide, sc_23_1⟩ | 2, _, _ => ⟨115, by decide, by decide, sc_23_2⟩ | 3, _, _ => ⟨109, by decide, by decide, sc_23_3⟩ | 4, _, _ => ⟨105, by decide, by decide, sc_23_4⟩ | 5, _, _ => ⟨115, by decide, by decide, sc_23_5⟩ | 6, _, _ => ⟨115, by decide, by decide, sc_23_6⟩ | n + 7, _, h2 => absurd h2 (by omega))
set_option maxRecDepth 100000 in
theorem sl_24 (k : Nat) (Ev : Env9) (M : Mem) : runM (k + 5) 338 Ev 466 [vW 24] M = some [((0, 0), Ev, vI 4, [], [], M, 466, 0)] := rfl
theorem hh_289 {Ev : Env9} : CK Ev 5 (338, ct_289) := ctr_len (w := 24) (n := 4) (by decide) sl_24
set_option maxRecDepth 100000 in
theorem sc_24_0 (k : Nat) (Ev : Env9) (M : Mem) : runM (k + 5) 339 Ev 466 [vW 24, vI 0] M = some [((0, 0), Ev, vI 119, [], [], M, 466, 0)] := rfl
theorem hh_290 {Ev : Env9} : CK Ev 5 (339, ct_290) := ctr_chr (w := 24) (lo := 0) (hi := 0) (mn := 119) (mx := 119) (by decide) (by decide) (fun i h1 h2 => match i, h1, h2 with | 0, _, _ => ⟨119, by decide, by decide, sc_24_0⟩ | n + 1, _, h2 => absurd h2 (by omega))
set_option maxRecDepth 100000 in
theorem sc_24_1 (k : Nat) (Ev : Env9) (M : Mem) : runM (k + 5) 339 Ev 466 [vW 24, vI 1] M = some [((0, 0), Ev, vI 97, [], [], M, 466, 0)] := rfl
set_option maxRecDepth 100000 in
theorem sc_24_2 (k : Nat) (Ev : Env9) (M : Mem) : runM (k + 5) 339 Ev 466 [vW 24, vI 2] M = some [((0, 0), Ev, vI 103, [], [], M, 466, 0)] := rfl
set_option maxRecDepth 100000 in
theorem sc_24_3 (k : Nat) (Ev : Env9) (M : Mem) : runM (k + 5) 339 Ev 466 [vW 24, vI 3] M = some [((0, 0), Ev, vI 101, [], [], M, 466, 0)] := rfl
theorem hh_291 {Ev : Env9} : CK Ev 5 (339, ct_291) := ctr_chr (w := 24) (lo := 0) (hi := 3) (mn := 97) (mx := 119) (by decide) (by decide) (fun i h1 h2 => match i, h1, h2 with | 0, _, _ => ⟨119, by decide, by decide, sc_24_0⟩ | 1, _, _ => ⟨97, by decide, by decide, sc_24_1⟩ | 2, _, _ => ⟨103, by decide, by decide, sc_24_2⟩ | 3, _, _ => ⟨101, by decide, by decide, sc_24_3⟩ | n + 4, _, h2 => absurd h2 (by omega))
set_option maxRecDepth 100000 in
theorem sl_25 (k : Nat) (Ev : Env9) (M : Mem) : runM (k + 5) 338 Ev 466 [vW 25] M = some [((0, 0), Ev, vI 4, [], [], M, 466, 0)] := rfl
theorem hh_293 {Ev : Env9} : CK Ev 5 (338, ct_293) := ctr_len (w := 25) (n := 4) (by decide) sl_25
set_option maxRecDepth 100000 in
theorem sc_25_0 (k : Nat) (Ev : Env9) (M : Mem) : runM (k + 5) 339 Ev 466 [vW 25, vI 0] M = some [((0, 0), Ev, vI 102, [], [], M, 466, 0)] := rfl
theorem hh_294 {Ev : Env9} : CK Ev 5 (339, ct_294) := ctr_chr (w := 25) (lo := 0) (hi := 0) (mn := 102) (mx := 102) (by decide) (by decide) (fun i h1 h2 => match i, h1, h2 with | 0, _, _ => ⟨102, by decide, by decide, sc_25_0⟩ | n + 1, _, h2 => absurd h2 (by omega))
set_option maxRecDepth 100000 in
theorem sc_25_1 (k : Nat) (Ev : Env9) (M : Mem) : runM (k + 5) 339 Ev 466 [vW 25, vI 1] M = some [((0, 0), Ev, vI 117, [], [], M, 466, 0)] := rfl
set_option maxRecDepth 100000 in
theorem sc_25_2 (k : Nat) (Ev : Env9) (M : Mem) : runM (k + 5) 339 Ev 466 [vW 25, vI 2] M = some [((0, 0), Ev, vI 110, [], [], M, 466, 0)] := rfl
set_option maxRecDepth 100000 in
theorem sc_25_3 (k : Nat) (Ev : Env9) (M : Mem) : runM (k + 5) 339 Ev 466 [vW 25, vI 3] M = some [((0, 0), Ev, vI 100, [], [], M, 466, 0)] := rfl
theorem hh_295 {Ev : Env9} : CK Ev 5 (339, ct_295) := ctr_chr (w := 25) (lo := 0) (hi := 3) (mn := 100) (mx := 117) (by decide) (by decide) (fun i h1 h2 => match i, h1, h2 with | 0, _, _ => ⟨102, by decide, by decide, sc_25_0⟩ | 1, _, _ => ⟨117, by decide, by decide, sc_25_1⟩ | 2, _, _ => ⟨110, by decide, by decide, sc_25_2⟩ | 3, _, _ => ⟨100, by decide, by decide, sc_25_3⟩ | n + 4, _, h2 => absurd h2 (by omega))
set_option maxRecDepth 100000 in
theorem sl_26 (k : Nat) (Ev : Env9) (M : Mem) : runM (k + 5) 338 Ev 466 [vW 26] M = some [((0, 0), Ev, vI 5, [], [], M, 466, 0)] := rfl
theorem hh_297 {Ev : Env9} : CK Ev 5 (338, ct_297) := ctr_len (w := 26) (n := 5) (by decide) sl_26
set_option maxRecDepth 100000 in
theorem sc_26_0 (k : Nat) (Ev : Env9) (M : Mem) : runM (k + 5) 339 Ev 466 [vW 26, vI 0] M = some [((0, 0), Ev, vI 116, [], [], M, 466, 0)] := rfl
theorem hh_298 {Ev : Env9} : CK Ev 5 (339, ct_298) := ctr_chr (w := 26) (lo := 0) (hi := 0) (mn := 116) (mx := 116) (by decide) (by decide) (fun i h1 h2 => match i, h1, h2 with | 0, _, _ => ⟨116, by decide, by decide, sc_26_0⟩ | n + 1, _, h2 => absurd h2 (by omega))
set_option maxRecDepth 100000 in
theorem sc_26_1 (k : Nat) (Ev : Env9) (M : Mem) : runM (k + 5) 339 Ev 466 [vW 26, vI 1] M = some [((0, 0), Ev, vI 114, [], [], M, 466, 0)] := rfl
set_option maxRecDepth 100000 in
theorem sc_26_2 (k : Nat) (Ev : Env9) (M : Mem) : runM (k + 5) 339 Ev 466 [vW 26, vI 2] M = some [((0, 0), Ev, vI 97, [], [], M, 466, 0)] := rfl
set_option maxRecDepth 100000 in
theorem sc_26_3 (k : Nat) (Ev : Env9) (M : Mem) : runM (k + 5) 339 Ev 466 [vW 26, vI 3] M = some [((0, 0), Ev, vI 105, [], [], M, 466, 0)] := rfl
set_option maxRecDepth 100000 in
theorem sc_26_4 (k : Nat) (Ev : Env9) (M : Mem) : runM (k + 5) 339 Ev 466 [vW 26, vI 4] M = some [((0, 0), Ev, vI 110, [], [], M, 466, 0)] := rfl
theorem hh_299 {Ev : Env9} : CK Ev 5 (339, ct_299) := ctr_chr (w := 26) (lo := 0) (hi := 4) (mn := 97) (mx := 116) (by decide) (by decide) (fun i h1 h2 => match i, h1, h2 with | 0, _, _ => ⟨116, by decide, by decide, sc_26_0⟩ | 1, _, _ => ⟨114, by decide, by decide, sc_26_1⟩ | 2, _, _ => ⟨97, by decide, by decide, sc_26_2⟩ | 3, _, _ => ⟨105, by decide, by decide, sc_26_3⟩ | 4, _, _ => ⟨110, by decide, by decide, sc_26_4⟩ | n + 5, _, h2 => absurd h2 (by omega))
