/-! contracts by hand: texts, floorMod, copies -/
def CK (Ev : Env9) (b : Nat) (p : Nat × Ctr) : Prop := ∀ k, b ≤ k → CtrOK kd0 sh0 rt0 bd0 Inv0 Ev (runM k) p.1 p.2
theorem CK_up {Ev : Env9} {b c : Nat} {p : Nat × Ctr} (h : CK Ev b p) (hb : b ≤ c) : CK Ev c p := fun k hk => h k (Nat.le_trans hb hk)
theorem mdCp_ok : MDOK bo9 178 mdCp := mo_X11_copies rfl _
theorem ku_453 : allN 466 (fun j => Bool.rec true (Nat.beq j 453) (Nat.beq (kd0 j) (kd0 453))) = true := by decide +kernel
theorem ku_454 : allN 466 (fun j => Bool.rec true (Nat.beq j 454) (Nat.beq (kd0 j) (kd0 454))) = true := by decide +kernel
theorem ku_455 : allN 466 (fun j => Bool.rec true (Nat.beq j 455) (Nat.beq (kd0 j) (kd0 455))) = true := by decide +kernel
theorem ku_456 : allN 466 (fun j => Bool.rec true (Nat.beq j 456) (Nat.beq (kd0 j) (kd0 456))) = true := by decide +kernel
theorem ku_457 : allN 466 (fun j => Bool.rec true (Nat.beq j 457) (Nat.beq (kd0 j) (kd0 457))) = true := by decide +kernel
theorem ku_of {b : Nat} (h : allN 466 (fun j => Bool.rec true (Nat.beq j b) (Nat.beq (kd0 j) (kd0 b))) = true) : ∀ j, j < 466 → kd0 j = kd0 b → j = b := by
  intro j hj e
  have h1 := allN_ok h j hj
  have h2 : (Bool.rec true (Nat.beq j b) (Nat.beq (kd0 j) (kd0 b)) : Bool) = true := h1
  rw [e, Nat.beq_refl] at h2
  exact Nat.eq_of_beq_eq_true h2
set_option maxRecDepth 100000 in
theorem sl_21 (k : Nat) (Ev : Env9) (M : Mem) : runM (k + 5) 338 Ev 466 [vW 21] M = some [((0, 0), Ev, vI 4, [], [], M, 466, 0)] := rfl
theorem hh_3 {Ev : Env9} : CK Ev 5 (338, ct_3) := ctr_len (w := 21) (n := 4) (by decide) sl_21
set_option maxRecDepth 100000 in
theorem sc_21_0 (k : Nat) (Ev : Env9) (M : Mem) : runM (k + 5) 339 Ev 466 [vW 21, vI 0] M = some [((0, 0), Ev, vI 102, [], [], M, 466, 0)] := rfl
theorem hh_4 {Ev : Env9} : CK Ev 5 (339, ct_4) := ctr_chr (w := 21) (lo := 0) (hi := 0) (mn := 102) (mx := 102) (by decide) (by decide) (fun i h1 h2 => match i, h1, h2 with | 0, _, _ => ⟨102, by decide, by decide, sc_21_0⟩ | n + 1, _, h2 => absurd h2 (by omega))
set_option maxRecDepth 100000 in
theorem sc_21_1 (k : Nat) (Ev : Env9) (M : Mem) : runM (k + 5) 339 Ev 466 [vW 21, vI 1] M = some [((0, 0), Ev, vI 97, [], [], M, 466, 0)] := rfl
set_option maxRecDepth 100000 in
theorem sc_21_2 (k : Nat) (Ev : Env9) (M : Mem) : runM (k + 5) 339 Ev 466 [vW 21, vI 2] M = some [((0, 0), Ev, vI 105, [], [], M, 466, 0)] := rfl
set_option maxRecDepth 100000 in
theorem sc_21_3 (k : Nat) (Ev : Env9) (M : Mem) : runM (k + 5) 339 Ev 466 [vW 21, vI 3] M = some [((0, 0), Ev, vI 114, [], [], M, 466, 0)] := rfl
theorem hh_5 {Ev : Env9} : CK Ev 5 (339, ct_5) := ctr_chr (w := 21) (lo := 0) (hi := 3) (mn := 97) (mx := 114) (by decide) (by decide) (fun i h1 h2 => match i, h1, h2 with | 0, _, _ => ⟨102, by decide, by decide, sc_21_0⟩ | 1, _, _ => ⟨97, by decide, by decide, sc_21_1⟩ | 2, _, _ => ⟨105, by decide, by decide, sc_21_2⟩ | 3, _, _ => ⟨114, by decide, by decide, sc_21_3⟩ | n + 4, _, h2 => absurd h2 (by omega))
set_option maxRecDepth 100000 in
theorem sl_27 (k : Nat) (Ev : Env9) (M : Mem) : runM (k + 5) 338 Ev 466 [vW 27] M = some [((0, 0), Ev, vI 3, [], [], M, 466, 0)] := rfl
theorem hh_11 {Ev : Env9} : CK Ev 5 (338, ct_11) := ctr_len (w := 27) (n := 3) (by decide) sl_27
set_option maxRecDepth 100000 in
theorem sc_27_0 (k : Nat) (Ev : Env9) (M : Mem) : runM (k + 5) 339 Ev 466 [vW 27, vI 0] M = some [((0, 0), Ev, vI 102, [], [], M, 466, 0)] := rfl
theorem hh_12 {Ev : Env9} : CK Ev 5 (339, ct_12) := ctr_chr (w := 27) (lo := 0) (hi := 0) (mn := 102) (mx := 102) (by decide) (by decide) (fun i h1 h2 => match i, h1, h2 with | 0, _, _ => ⟨102, by decide, by decide, sc_27_0⟩ | n + 1, _, h2 => absurd h2 (by omega))
set_option maxRecDepth 100000 in
theorem sc_27_1 (k : Nat) (Ev : Env9) (M : Mem) : runM (k + 5) 339 Ev 466 [vW 27, vI 1] M = some [((0, 0), Ev, vI 111, [], [], M, 466, 0)] := rfl
set_option maxRecDepth 100000 in
theorem sc_27_2 (k : Nat) (Ev : Env9) (M : Mem) : runM (k + 5) 339 Ev 466 [vW 27, vI 2] M = some [((0, 0), Ev, vI 103, [], [], M, 466, 0)] := rfl
theorem hh_13 {Ev : Env9} : CK Ev 5 (339, ct_13) := ctr_chr (w := 27) (lo := 0) (hi := 2) (mn := 102) (mx := 111) (by decide) (by decide) (fun i h1 h2 => match i, h1, h2 with | 0, _, _ => ⟨102, by decide, by decide, sc_27_0⟩ | 1, _, _ => ⟨111, by decide, by decide, sc_27_1⟩ | 2, _, _ => ⟨103, by decide, by decide, sc_27_2⟩ | n + 3, _, h2 => absurd h2 (by omega))
set_option maxRecDepth 100000 in
theorem sl_28 (k : Nat) (Ev : Env9) (M : Mem) : runM (k + 5) 338 Ev 466 [vW 28] M = some [((0, 0), Ev, vI 4, [], [], M, 466, 0)] := rfl
theorem hh_17 {Ev : Env9} : CK Ev 5 (338, ct_17) := ctr_len (w := 28) (n := 4) (by decide) sl_28
set_option maxRecDepth 100000 in
theorem sc_28_0 (k : Nat) (Ev : Env9) (M : Mem) : runM (k + 5) 339 Ev 466 [vW 28, vI 0] M = some [((0, 0), Ev, vI 101, [], [], M, 466, 0)] := rfl
theorem hh_18 {Ev : Env9} : CK Ev 5 (339, ct_18) := ctr_chr (w := 28) (lo := 0) (hi := 0) (mn := 101) (mx := 101) (by decide) (by decide) (fun i h1 h2 => match i, h1, h2 with | 0, _, _ => ⟨101, by decide, by decide, sc_28_0⟩ | n + 1, _, h2 => absurd h2 (by omega))
set_option maxRecDepth 100000 in
theorem sc_28_1 (k : Nat) (Ev : Env9) (M : Mem) : runM (k + 5) 339 Ev 466 [vW 28, vI 1] M = some [((0, 0), Ev, vI 99, [], [], M, 466, 0)] := rfl
set_option maxRecDepth 100000 in
theorem sc_28_2 (k : Nat) (Ev : Env9) (M : Mem) : runM (k + 5) 339 Ev 466 [vW 28, vI 2] M = some [((0, 0), Ev, vI 104, [], [], M, 466, 0)] := rfl
set_option maxRecDepth 100000 in
theorem sc_28_3 (k : Nat) (Ev : Env9) (M : Mem) : runM (k + 5) 339 Ev 466 [vW 28, vI 3] M = some [((0, 0), Ev, vI 111, [], [], M, 466, 0)] := rfl
theorem hh_19 {Ev : Env9} : CK Ev 5 (339, ct_19) := ctr_chr (w := 28) (lo := 0) (hi := 3) (mn := 99) (mx := 111) (by decide) (by decide) (fun i h1 h2 => match i, h1, h2 with | 0, _, _ => ⟨101, by decide, by decide, sc_28_0⟩ | 1, _, _ => ⟨99, by decide, by decide, sc_28_1⟩ | 2, _, _ => ⟨104, by decide, by decide, sc_28_2⟩ | 3, _, _ => ⟨111, by decide, by decide, sc_28_3⟩ | n + 4, _, h2 => absurd h2 (by omega))
set_option maxRecDepth 100000 in
theorem sl_29 (k : Nat) (Ev : Env9) (M : Mem) : runM (k + 5) 338 Ev 466 [vW 29] M = some [((0, 0), Ev, vI 6, [], [], M, 466, 0)] := rfl
theorem hh_21 {Ev : Env9} : CK Ev 5 (338, ct_21) := ctr_len (w := 29) (n := 6) (by decide) sl_29
set_option maxRecDepth 100000 in
theorem sc_29_0 (k : Nat) (Ev : Env9) (M : Mem) : runM (k + 5) 339 Ev 466 [vW 29, vI 0] M = some [((0, 0), Ev, vI 118, [], [], M, 466, 0)] := rfl
theorem hh_22 {Ev : Env9} : CK Ev 5 (339, ct_22) := ctr_chr (w := 29) (lo := 0) (hi := 0) (mn := 118) (mx := 118) (by decide) (by decide) (fun i h1 h2 => match i, h1, h2 with | 0, _, _ => ⟨118, by decide, by decide, sc_29_0⟩ | n + 1, _, h2 => absurd h2 (by omega))
set_option maxRecDepth 100000 in
theorem sc_29_1 (k : Nat) (Ev : Env9) (M : Mem) : runM (k + 5) 339 Ev 466 [vW 29, vI 1] M = some [((0, 0), Ev, vI 97, [], [], M, 466, 0)] := rfl
set_option maxRecDepth 100000 in
theorem sc_29_2 (k : Nat) (Ev : Env9) (M : Mem) : runM (k + 5) 339 Ev 466 [vW 29, vI 2] M = some [((0, 0), Ev, vI 108, [], [], M, 466, 0)] := rfl
set_option maxRecDepth 100000 in
theorem sc_29_3 (k : Nat) (Ev : Env9) (M : Mem) : runM (k + 5) 339 Ev 466 [vW 29, vI 3] M = some [((0, 0), Ev, vI 108, [], [], M, 466, 0)] := rfl
set_option maxRecDepth 100000 in
theorem sc_29_4 (k : Nat) (Ev : Env9) (M : Mem) : runM (k + 5) 339 Ev 466 [vW 29, vI 4] M = some [((0, 0), Ev, vI 101, [], [], M, 466, 0)] := rfl
set_option maxRecDepth 100000 in
theorem sc_29_5 (k : Nat) (Ev : Env9) (M : Mem) : runM (k + 5) 339 Ev 466 [vW 29, vI 5] M = some [((0, 0), Ev, vI 121, [], [], M, 466, 0)] := rfl
theorem hh_23 {Ev : Env9} : CK Ev 5 (339, ct_23) := ctr_chr (w := 29) (lo := 0) (hi := 5) (mn := 97) (mx := 121) (by decide) (by decide) (fun i h1 h2 => match i, h1, h2 with | 0, _, _ => ⟨118, by decide, by decide, sc_29_0⟩ | 1, _, _ => ⟨97, by decide, by decide, sc_29_1⟩ | 2, _, _ => ⟨108, by decide, by decide, sc_29_2⟩ | 3, _, _ => ⟨108, by decide, by decide, sc_29_3⟩ | 4, _, _ => ⟨101, by decide, by decide, sc_29_4⟩ | 5, _, _ => ⟨121, by decide, by decide, sc_29_5⟩ | n + 6, _, h2 => absurd h2 (by omega))
set_option maxRecDepth 100000 in
theorem sl_30 (k : Nat) (Ev : Env9) (M : Mem) : runM (k + 5) 338 Ev 466 [vW 30] M = some [((0, 0), Ev, vI 6, [], [], M, 466, 0)] := rfl
theorem hh_25 {Ev : Env9} : CK Ev 5 (338, ct_25) := ctr_len (w := 30) (n := 6) (by decide) sl_30
set_option maxRecDepth 100000 in
theorem sc_30_0 (k : Nat) (Ev : Env9) (M : Mem) : runM (k + 5) 339 Ev 466 [vW 30, vI 0] M = some [((0, 0), Ev, vI 116, [], [], M, 466, 0)] := rfl
theorem hh_26 {Ev : Env9} : CK Ev 5 (339, ct_26) := ctr_chr (w := 30) (lo := 0) (hi := 0) (mn := 116) (mx := 116) (by decide) (by decide) (fun i h1 h2 => match i, h1, h2 with | 0, _, _ => ⟨116, by decide, by decide, sc_30_0⟩ | n + 1, _, h2 => absurd h2 (by omega))
set_option maxRecDepth 100000 in
theorem sc_30_1 (k : Nat) (Ev : Env9) (M : Mem) : runM (k + 5) 339 Ev 466 [vW 30, vI 1] M = some [((0, 0), Ev, vI 101, [], [], M, 466, 0)] := rfl
set_option maxRecDepth 100000 in
theorem sc_30_2 (k : Nat) (Ev : Env9) (M : Mem) : runM (k + 5) 339 Ev 466 [vW 30, vI 2] M = some [((0, 0), Ev, vI 115, [], [], M, 466, 0)] := rfl
set_option maxRecDepth 100000 in
theorem sc_30_3 (k : Nat) (Ev : Env9) (M : Mem) : runM (k + 5) 339 Ev 466 [vW 30, vI 3] M = some [((0, 0), Ev, vI 116, [], [], M, 466, 0)] := rfl
set_option maxRecDepth 100000 in
theorem sc_30_4 (k : Nat) (Ev : Env9) (M : Mem) : runM (k + 5) 339 Ev 466 [vW 30, vI 4] M = some [((0, 0), Ev, vI 101, [], [], M, 466, 0)] := rfl
set_option maxRecDepth 100000 in
theorem sc_30_5 (k : Nat) (Ev : Env9) (M : Mem) : runM (k + 5) 339 Ev 466 [vW 30, vI 5] M = some [((0, 0), Ev, vI 100, [], [], M, 466, 0)] := rfl
theorem hh_27 {Ev : Env9} : CK Ev 5 (339, ct_27) := ctr_chr (w := 30) (lo := 0) (hi := 5) (mn := 100) (mx := 116) (by decide) (by decide) (fun i h1 h2 => match i, h1, h2 with | 0, _, _ => ⟨116, by decide, by decide, sc_30_0⟩ | 1, _, _ => ⟨101, by decide, by decide, sc_30_1⟩ | 2, _, _ => ⟨115, by decide, by decide, sc_30_2⟩ | 3, _, _ => ⟨116, by decide, by decide, sc_30_3⟩ | 4, _, _ => ⟨101, by decide, by decide, sc_30_4⟩ | 5, _, _ => ⟨100, by decide, by decide, sc_30_5⟩ | n + 6, _, h2 => absurd h2 (by omega))
theorem hh_54 {Ev : Env9} : CK Ev 1 (335, ct_54) := ctr_fm
theorem cpk_453_0_456_0 : cpChk 453 0 456 0 := ⟨627, 627, by decide +kernel, by decide +kernel, by decide, by decide, by decide +kernel⟩
theorem hw_189 : allN 627 (fun i => inW [(34, 0, 399), (34, 400, 626)] (kd0 456) ((0 + i : Nat) : Int)) = true := by decide +kernel
theorem hh_189 {Ev : Env9} : CK Ev 1 (178, ct_189) := cp_ctr (a := 453) (a0 := 0) (b := 456) (b0 := 0) hR9 mdCp_ok (by decide) (by decide) (ku_of ku_456) (by decide) cpk_453_0_456_0 (fun i hi => allN_ok hw_189 i hi) (fun M M' _ hI h => Inv0_cp (by decide) (by decide) h (by decide) (by decide) (by decide) hI) [(3, 1, 30), (4, 1, 12), (0, 1, 12), (1, 1, 8)] (by decide)
theorem cpk_456_0_453_0 : cpChk 456 0 453 0 := ⟨627, 627, by decide +kernel, by decide +kernel, by decide, by decide, by decide +kernel⟩
theorem hw_191 : allN 627 (fun i => inW [(31, 0, 399), (31, 400, 626)] (kd0 453) ((0 + i : Nat) : Int)) = true := by decide +kernel
theorem hh_191 {Ev : Env9} : CK Ev 1 (178, ct_191) := cp_ctr (a := 456) (a0 := 0) (b := 453) (b0 := 0) hR9 mdCp_ok (by decide) (by decide) (ku_of ku_453) (by decide) cpk_456_0_453_0 (fun i hi => allN_ok hw_191 i hi) (fun M M' _ hI h => Inv0_cp (by decide) (by decide) h (by decide) (by decide) (by decide) hI) [(3, 1, 30), (4, 1, 12), (0, 1, 12), (1, 1, 8)] (by decide)
theorem cpk_453_0_455_0 : cpChk 453 0 455 0 := ⟨627, 627, by decide +kernel, by decide +kernel, by decide, by decide, by decide +kernel⟩
theorem hw_222 : allN 627 (fun i => inW [(33, 0, 399), (33, 400, 626)] (kd0 455) ((0 + i : Nat) : Int)) = true := by decide +kernel
theorem hh_222 {Ev : Env9} : CK Ev 1 (178, ct_222) := cp_ctr (a := 453) (a0 := 0) (b := 455) (b0 := 0) hR9 mdCp_ok (by decide) (by decide) (ku_of ku_455) (by decide) cpk_453_0_455_0 (fun i hi => allN_ok hw_222 i hi) (fun M M' _ hI h => Inv0_cp (by decide) (by decide) h (by decide) (by decide) (by decide) hI) [(3, 1, 30), (4, 1, 12), (0, 1, 12), (1, 1, 8)] (by decide)
