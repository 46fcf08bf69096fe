/-! the texts, read by the machine -/
set_option maxRecDepth 100000 in
theorem tsl_21 (k : Nat) (Ev : Env9) (M : Mem) : runM (k + 5) 338 Ev 466 [vW 21] M = some [((0, 0), Ev, vI 4, [], [], M, 466, 0)] := rfl
set_option maxRecDepth 100000 in
theorem tsc_21_0 (k : Nat) (Ev : Env9) (M : Mem) : runM (k + 5) 339 Ev 466 [vW 21, vI 0] M = some [((0, 0), Ev, vI 102, [], [], M, 466, 0)] := rfl
set_option maxRecDepth 100000 in
theorem tsc_21_1 (k : Nat) (Ev : Env9) (M : Mem) : runM (k + 5) 339 Ev 466 [vW 21, vI 1] M = some [((0, 0), Ev, vI 97, [], [], M, 466, 0)] := rfl
set_option maxRecDepth 100000 in
theorem tsc_21_2 (k : Nat) (Ev : Env9) (M : Mem) : runM (k + 5) 339 Ev 466 [vW 21, vI 2] M = some [((0, 0), Ev, vI 105, [], [], M, 466, 0)] := rfl
set_option maxRecDepth 100000 in
theorem tsc_21_3 (k : Nat) (Ev : Env9) (M : Mem) : runM (k + 5) 339 Ev 466 [vW 21, vI 3] M = some [((0, 0), Ev, vI 114, [], [], M, 466, 0)] := rfl
set_option maxRecDepth 100000 in
theorem tsl_27 (k : Nat) (Ev : Env9) (M : Mem) : runM (k + 5) 338 Ev 466 [vW 27] M = some [((0, 0), Ev, vI 3, [], [], M, 466, 0)] := rfl
set_option maxRecDepth 100000 in
theorem tsc_27_0 (k : Nat) (Ev : Env9) (M : Mem) : runM (k + 5) 339 Ev 466 [vW 27, vI 0] M = some [((0, 0), Ev, vI 102, [], [], M, 466, 0)] := rfl
set_option maxRecDepth 100000 in
theorem tsc_27_1 (k : Nat) (Ev : Env9) (M : Mem) : runM (k + 5) 339 Ev 466 [vW 27, vI 1] M = some [((0, 0), Ev, vI 111, [], [], M, 466, 0)] := rfl
set_option maxRecDepth 100000 in
theorem tsc_27_2 (k : Nat) (Ev : Env9) (M : Mem) : runM (k + 5) 339 Ev 466 [vW 27, vI 2] M = some [((0, 0), Ev, vI 103, [], [], M, 466, 0)] := rfl
set_option maxRecDepth 100000 in
theorem tsl_28 (k : Nat) (Ev : Env9) (M : Mem) : runM (k + 5) 338 Ev 466 [vW 28] M = some [((0, 0), Ev, vI 4, [], [], M, 466, 0)] := rfl
set_option maxRecDepth 100000 in
theorem tsc_28_0 (k : Nat) (Ev : Env9) (M : Mem) : runM (k + 5) 339 Ev 466 [vW 28, vI 0] M = some [((0, 0), Ev, vI 101, [], [], M, 466, 0)] := rfl
set_option maxRecDepth 100000 in
theorem tsc_28_1 (k : Nat) (Ev : Env9) (M : Mem) : runM (k + 5) 339 Ev 466 [vW 28, vI 1] M = some [((0, 0), Ev, vI 99, [], [], M, 466, 0)] := rfl
set_option maxRecDepth 100000 in
theorem tsc_28_2 (k : Nat) (Ev : Env9) (M : Mem) : runM (k + 5) 339 Ev 466 [vW 28, vI 2] M = some [((0, 0), Ev, vI 104, [], [], M, 466, 0)] := rfl
set_option maxRecDepth 100000 in
theorem tsc_28_3 (k : Nat) (Ev : Env9) (M : Mem) : runM (k + 5) 339 Ev 466 [vW 28, vI 3] M = some [((0, 0), Ev, vI 111, [], [], M, 466, 0)] := rfl
set_option maxRecDepth 100000 in
theorem tsl_29 (k : Nat) (Ev : Env9) (M : Mem) : runM (k + 5) 338 Ev 466 [vW 29] M = some [((0, 0), Ev, vI 6, [], [], M, 466, 0)] := rfl
set_option maxRecDepth 100000 in
theorem tsc_29_0 (k : Nat) (Ev : Env9) (M : Mem) : runM (k + 5) 339 Ev 466 [vW 29, vI 0] M = some [((0, 0), Ev, vI 118, [], [], M, 466, 0)] := rfl
set_option maxRecDepth 100000 in
theorem tsc_29_1 (k : Nat) (Ev : Env9) (M : Mem) : runM (k + 5) 339 Ev 466 [vW 29, vI 1] M = some [((0, 0), Ev, vI 97, [], [], M, 466, 0)] := rfl
set_option maxRecDepth 100000 in
theorem tsc_29_2 (k : Nat) (Ev : Env9) (M : Mem) : runM (k + 5) 339 Ev 466 [vW 29, vI 2] M = some [((0, 0), Ev, vI 108, [], [], M, 466, 0)] := rfl
set_option maxRecDepth 100000 in
theorem tsc_29_3 (k : Nat) (Ev : Env9) (M : Mem) : runM (k + 5) 339 Ev 466 [vW 29, vI 3] M = some [((0, 0), Ev, vI 108, [], [], M, 466, 0)] := rfl
set_option maxRecDepth 100000 in
theorem tsc_29_4 (k : Nat) (Ev : Env9) (M : Mem) : runM (k + 5) 339 Ev 466 [vW 29, vI 4] M = some [((0, 0), Ev, vI 101, [], [], M, 466, 0)] := rfl
set_option maxRecDepth 100000 in
theorem tsc_29_5 (k : Nat) (Ev : Env9) (M : Mem) : runM (k + 5) 339 Ev 466 [vW 29, vI 5] M = some [((0, 0), Ev, vI 121, [], [], M, 466, 0)] := rfl
set_option maxRecDepth 100000 in
theorem tsl_30 (k : Nat) (Ev : Env9) (M : Mem) : runM (k + 5) 338 Ev 466 [vW 30] M = some [((0, 0), Ev, vI 6, [], [], M, 466, 0)] := rfl
set_option maxRecDepth 100000 in
theorem tsc_30_0 (k : Nat) (Ev : Env9) (M : Mem) : runM (k + 5) 339 Ev 466 [vW 30, vI 0] M = some [((0, 0), Ev, vI 116, [], [], M, 466, 0)] := rfl
set_option maxRecDepth 100000 in
theorem tsc_30_1 (k : Nat) (Ev : Env9) (M : Mem) : runM (k + 5) 339 Ev 466 [vW 30, vI 1] M = some [((0, 0), Ev, vI 101, [], [], M, 466, 0)] := rfl
set_option maxRecDepth 100000 in
theorem tsc_30_2 (k : Nat) (Ev : Env9) (M : Mem) : runM (k + 5) 339 Ev 466 [vW 30, vI 2] M = some [((0, 0), Ev, vI 115, [], [], M, 466, 0)] := rfl
set_option maxRecDepth 100000 in
theorem tsc_30_3 (k : Nat) (Ev : Env9) (M : Mem) : runM (k + 5) 339 Ev 466 [vW 30, vI 3] M = some [((0, 0), Ev, vI 116, [], [], M, 466, 0)] := rfl
set_option maxRecDepth 100000 in
theorem tsc_30_4 (k : Nat) (Ev : Env9) (M : Mem) : runM (k + 5) 339 Ev 466 [vW 30, vI 4] M = some [((0, 0), Ev, vI 101, [], [], M, 466, 0)] := rfl
set_option maxRecDepth 100000 in
theorem tsc_30_5 (k : Nat) (Ev : Env9) (M : Mem) : runM (k + 5) 339 Ev 466 [vW 30, vI 5] M = some [((0, 0), Ev, vI 100, [], [], M, 466, 0)] := rfl
set_option maxRecDepth 100000 in
theorem tsl_20 (k : Nat) (Ev : Env9) (M : Mem) : runM (k + 5) 338 Ev 466 [vW 20] M = some [((0, 0), Ev, vI 4, [], [], M, 466, 0)] := rfl
set_option maxRecDepth 100000 in
theorem tsc_20_0 (k : Nat) (Ev : Env9) (M : Mem) : runM (k + 5) 339 Ev 466 [vW 20, vI 0] M = some [((0, 0), Ev, vI 112, [], [], M, 466, 0)] := rfl
set_option maxRecDepth 100000 in
theorem tsc_20_1 (k : Nat) (Ev : Env9) (M : Mem) : runM (k + 5) 339 Ev 466 [vW 20, vI 1] M = some [((0, 0), Ev, vI 97, [], [], M, 466, 0)] := rfl
set_option maxRecDepth 100000 in
theorem tsc_20_2 (k : Nat) (Ev : Env9) (M : Mem) : runM (k + 5) 339 Ev 466 [vW 20, vI 2] M = some [((0, 0), Ev, vI 115, [], [], M, 466, 0)] := rfl
set_option maxRecDepth 100000 in
theorem tsc_20_3 (k : Nat) (Ev : Env9) (M : Mem) : runM (k + 5) 339 Ev 466 [vW 20, vI 3] M = some [((0, 0), Ev, vI 115, [], [], M, 466, 0)] := rfl
set_option maxRecDepth 100000 in
theorem tsl_22 (k : Nat) (Ev : Env9) (M : Mem) : runM (k + 5) 338 Ev 466 [vW 22] M = some [((0, 0), Ev, vI 4, [], [], M, 466, 0)] := rfl
set_option maxRecDepth 100000 in
theorem tsc_22_0 (k : Nat) (Ev : Env9) (M : Mem) : runM (k + 5) 339 Ev 466 [vW 22, vI 0] M = some [((0, 0), Ev, vI 116, [], [], M, 466, 0)] := rfl
set_option maxRecDepth 100000 in
theorem tsc_22_1 (k : Nat) (Ev : Env9) (M : Mem) : runM (k + 5) 339 Ev 466 [vW 22, vI 1] M = some [((0, 0), Ev, vI 101, [], [], M, 466, 0)] := rfl
set_option maxRecDepth 100000 in
theorem tsc_22_2 (k : Nat) (Ev : Env9) (M : Mem) : runM (k + 5) 339 Ev 466 [vW 22, vI 2] M = some [((0, 0), Ev, vI 115, [], [], M, 466, 0)] := rfl
set_option maxRecDepth 100000 in
theorem tsc_22_3 (k : Nat) (Ev : Env9) (M : Mem) : runM (k + 5) 339 Ev 466 [vW 22, vI 3] M = some [((0, 0), Ev, vI 116, [], [], M, 466, 0)] := rfl
set_option maxRecDepth 100000 in
theorem tsl_23 (k : Nat) (Ev : Env9) (M : Mem) : runM (k + 5) 338 Ev 466 [vW 23] M = some [((0, 0), Ev, vI 7, [], [], M, 466, 0)] := rfl
set_option maxRecDepth 100000 in
theorem tsc_23_0 (k : Nat) (Ev : Env9) (M : Mem) : runM (k + 5) 339 Ev 466 [vW 23, vI 0] M = some [((0, 0), Ev, vI 100, [], [], M, 466, 0)] := rfl
set_option maxRecDepth 100000 in
theorem tsc_23_1 (k : Nat) (Ev : Env9) (M : Mem) : runM (k + 5) 339 Ev 466 [vW 23, vI 1] M = some [((0, 0), Ev, vI 105, [], [], M, 466, 0)] := rfl
set_option maxRecDepth 100000 in
theorem tsc_23_2 (k : Nat) (Ev : Env9) (M : Mem) : runM (k + 5) 339 Ev 466 [vW 23, vI 2] M = some [((0, 0), Ev, vI 115, [], [], M, 466, 0)] := rfl
set_option maxRecDepth 100000 in
theorem tsc_23_3 (k : Nat) (Ev : Env9) (M : Mem) : runM (k + 5) 339 Ev 466 [vW 23, vI 3] M = some [((0, 0), Ev, vI 109, [], [], M, 466, 0)] := rfl
set_option maxRecDepth 100000 in
theorem tsc_23_4 (k : Nat) (Ev : Env9) (M : Mem) : runM (k + 5) 339 Ev 466 [vW 23, vI 4] M = some [((0, 0), Ev, vI 105, [], [], M, 466, 0)] := rfl
set_option maxRecDepth 100000 in
theorem tsc_23_5 (k : Nat) (Ev : Env9) (M : Mem) : runM (k + 5) 339 Ev 466 [vW 23, vI 5] M = some [((0, 0), Ev, vI 115, [], [], M, 466, 0)] := rfl
set_option maxRecDepth 100000 in
theorem tsc_23_6 (k : Nat) (Ev : Env9) (M : Mem) : runM (k + 5) 339 Ev 466 [vW 23, vI 6] M = some [((0, 0), Ev, vI 115, [], [], M, 466, 0)] := rfl
set_option maxRecDepth 100000 in
theorem tsl_24 (k : Nat) (Ev : Env9) (M : Mem) : runM (k + 5) 338 Ev 466 [vW 24] M = some [((0, 0), Ev, vI 4, [], [], M, 466, 0)] := rfl
set_option maxRecDepth 100000 in
theorem tsc_24_0 (k : Nat) (Ev : Env9) (M : Mem) : runM (k + 5) 339 Ev 466 [vW 24, vI 0] M = some [((0, 0), Ev, vI 119, [], [], M, 466, 0)] := rfl
set_option maxRecDepth 100000 in
theorem tsc_24_1 (k : Nat) (Ev : Env9) (M : Mem) : runM (k + 5) 339 Ev 466 [vW 24, vI 1] M = some [((0, 0), Ev, vI 97, [], [], M, 466, 0)] := rfl
set_option maxRecDepth 100000 in
theorem tsc_24_2 (k : Nat) (Ev : Env9) (M : Mem) : runM (k + 5) 339 Ev 466 [vW 24, vI 2] M = some [((0, 0), Ev, vI 103, [], [], M, 466, 0)] := rfl
set_option maxRecDepth 100000 in
theorem tsc_24_3 (k : Nat) (Ev : Env9) (M : Mem) : runM (k + 5) 339 Ev 466 [vW 24, vI 3] M = some [((0, 0), Ev, vI 101, [], [], M, 466, 0)] := rfl
set_option maxRecDepth 100000 in
theorem tsl_25 (k : Nat) (Ev : Env9) (M : Mem) : runM (k + 5) 338 Ev 466 [vW 25] M = some [((0, 0), Ev, vI 4, [], [], M, 466, 0)] := rfl
set_option maxRecDepth 100000 in
theorem tsc_25_0 (k : Nat) (Ev : Env9) (M : Mem) : runM (k + 5) 339 Ev 466 [vW 25, vI 0] M = some [((0, 0), Ev, vI 102, [], [], M, 466, 0)] := rfl
set_option maxRecDepth 100000 in
theorem tsc_25_1 (k : Nat) (Ev : Env9) (M : Mem) : runM (k + 5) 339 Ev 466 [vW 25, vI 1] M = some [((0, 0), Ev, vI 117, [], [], M, 466, 0)] := rfl
set_option maxRecDepth 100000 in
theorem tsc_25_2 (k : Nat) (Ev : Env9) (M : Mem) : runM (k + 5) 339 Ev 466 [vW 25, vI 2] M = some [((0, 0), Ev, vI 110, [], [], M, 466, 0)] := rfl
set_option maxRecDepth 100000 in
theorem tsc_25_3 (k : Nat) (Ev : Env9) (M : Mem) : runM (k + 5) 339 Ev 466 [vW 25, vI 3] M = some [((0, 0), Ev, vI 100, [], [], M, 466, 0)] := rfl
set_option maxRecDepth 100000 in
theorem tsl_26 (k : Nat) (Ev : Env9) (M : Mem) : runM (k + 5) 338 Ev 466 [vW 26] M = some [((0, 0), Ev, vI 5, [], [], M, 466, 0)] := rfl
set_option maxRecDepth 100000 in
theorem tsc_26_0 (k : Nat) (Ev : Env9) (M : Mem) : runM (k + 5) 339 Ev 466 [vW 26, vI 0] M = some [((0, 0), Ev, vI 116, [], [], M, 466, 0)] := rfl
set_option maxRecDepth 100000 in
theorem tsc_26_1 (k : Nat) (Ev : Env9) (M : Mem) : runM (k + 5) 339 Ev 466 [vW 26, vI 1] M = some [((0, 0), Ev, vI 114, [], [], M, 466, 0)] := rfl
set_option maxRecDepth 100000 in
theorem tsc_26_2 (k : Nat) (Ev : Env9) (M : Mem) : runM (k + 5) 339 Ev 466 [vW 26, vI 2] M = some [((0, 0), Ev, vI 97, [], [], M, 466, 0)] := rfl
set_option maxRecDepth 100000 in
theorem tsc_26_3 (k : Nat) (Ev : Env9) (M : Mem) : runM (k + 5) 339 Ev 466 [vW 26, vI 3] M = some [((0, 0), Ev, vI 105, [], [], M, 466, 0)] := rfl
set_option maxRecDepth 100000 in
theorem tsc_26_4 (k : Nat) (Ev : Env9) (M : Mem) : runM (k + 5) 339 Ev 466 [vW 26, vI 4] M = some [((0, 0), Ev, vI 110, [], [], M, 466, 0)] := rfl
