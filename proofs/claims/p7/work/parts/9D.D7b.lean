section
/-! floorMod -/
section FM9
variable {call : Call} {f x y t : Nat} {Ev : Env9} {M : Mem}
theorem fm_3 : runF call 3 ct_J9_floorMod_7cf53 (f + 1) 3 Ev 466 0 [vI x, vI y, vI t] [] M = some [((0, 0), Ev, vI t, [], [], M, 466, 0)] := rfl
theorem fm_2 : runF call 3 ct_J9_floorMod_7cf53 (f + 1) 2 Ev 466 0 [vI x, vI y, vI t] [] M = some [((0, 0), Ev, vI ((t + y) % 4294967296), [], [], M, 466, 0)] := by
  have e : runF call 3 ct_J9_floorMod_7cf53 (f + 1) 2 Ev 466 0 [vI x, vI y, vI t] [] M = fN ((t + y) % 4294967296) fun r => some [((0, 0), Ev, vI r, [], [], M, 466, 0)] := rfl
  rw [e, fN_eq]
theorem fm_1 : runF call 3 ct_J9_floorMod_7cf53 (f + 1) 1 Ev 466 0 [vI x, vI y, vI t] [] M = c3 (bi t) (bi 0) (runF call 3 ct_J9_floorMod_7cf53 f 2 Ev 466 0 [vI x, vI y, vI t] [] M) (runF call 3 ct_J9_floorMod_7cf53 f 3 Ev 466 0 [vI x, vI y, vI t] [] M) (runF call 3 ct_J9_floorMod_7cf53 f 2 Ev 466 0 [vI x, vI y, vI t] [] M) := by
  rw [rF9 f (show tget 3 ct_J9_floorMod_7cf53 1 = ([op_ld isI 2], tm_if 2 3 2) from rfl), rBc, rBn, ldn, show nth [vI x, vI y, vI t] 2 = vI t from rfl, isIv, gdt, ifn]
theorem fm_0 (h : 1 ≤ y % 4294967296) : runF call 3 ct_J9_floorMod_7cf53 (f + 1) 0 Ev 466 0 [vI x, vI y, vW 3] [] M = c3 (bi (g_ixor x y)) (bi 0) (runF call 3 ct_J9_floorMod_7cf53 f 1 Ev 466 0 [vI x, vI y, vI (toN (nI x - nI x / nI y * nI y))] [] M) (runF call 3 ct_J9_floorMod_7cf53 f 3 Ev 466 0 [vI x, vI y, vI (toN (nI x - nI x / nI y * nI y))] [] M) (runF call 3 ct_J9_floorMod_7cf53 f 3 Ev 466 0 [vI x, vI y, vI (toN (nI x - nI x / nI y * nI y))] [] M) := by
  rw [rF9 f (show tget 3 ct_J9_floorMod_7cf53 0 = ([op_ld isI 0, op_ld isI 1, op_irem, op_st isI 2, op_ld isI 0, op_ld isI 1, op_bin g_ixor], tm_if 1 3 3) from rfl), rBc, rBc, rBc, rBc, rBc, rBc, rBc, rBn, ldn, show nth [vI x, vI y, vW 3] 0 = vI x from rfl, isIv, gdt, ldn, show nth [vI x, vI y, vW 3] 1 = vI y from rfl, isIv, gdt, op_irem_n h, stn, isIv, gdt, show lk2 [vI x, vI y, vW 3] 2 = true from rfl, gdt]
  generalize toN (nI x - nI x / nI y * nI y) = t
  rw [show nst [vI x, vI y, vW 3] 2 (vI t) = [vI x, vI y, vI t] from rfl, ldn, show nth [vI x, vI y, vI t] 0 = vI x from rfl, isIv, gdt, ldn, show nth [vI x, vI y, vI t] 1 = vI y from rfl, isIv, gdt, binn, ifn]
theorem fm_run (k x y : Nat) (Ev : Env9) (M : Mem) (h : 1 ≤ y % 4294967296) : runM (k + 1) 335 Ev 466 [vI x, vI y] M = c3 (bi (g_ixor x y)) (bi 0) (c3 (bi (toN (nI x - nI x / nI y * nI y))) (bi 0) (some [((0, 0), Ev, vI ((toN (nI x - nI x / nI y * nI y) + y) % 4294967296), [], [], M, 466, 0)]) (some [((0, 0), Ev, vI (toN (nI x - nI x / nI y * nI y)), [], [], M, 466, 0)]) (some [((0, 0), Ev, vI ((toN (nI x - nI x / nI y * nI y) + y) % 4294967296), [], [], M, 466, 0)])) (some [((0, 0), Ev, vI (toN (nI x - nI x / nI y * nI y)), [], [], M, 466, 0)]) (some [((0, 0), Ev, vI (toN (nI x - nI x / nI y * nI y)), [], [], M, 466, 0)]) := by
  obtain ⟨f, hf⟩ : ∃ f, fuel9 = f + 1 + 1 + 1 := by
    have h9 : 3 ≤ fuel9 := Nat.le_of_ble_eq_true (by decide +kernel)
    generalize fuel9 = z at h9
    exact ⟨z - 3, by omega⟩
  have e : bo_J9_floorMod_7cf53 (runM k) Ev 466 [vI x, vI y] M = gd (Nat.ble 2 3) (runF (runM k) 3 ct_J9_floorMod_7cf53 fuel9 0 Ev 466 0 [vI x, vI y, vW 3] [] M) := by
    unfold bo_J9_floorMod_7cf53
    rw [show (flatL [vI x, vI y]).length = 2 from rfl, show iniL 3 [vI x, vI y] = [vI x, vI y, vW 3] from rfl]
  rw [hR9, b9_335, e, show Nat.ble 2 3 = true from rfl, gdt, hf, fm_0 h, fm_1, fm_2, fm_3, fm_3]
end FM9
end
section
/-! floorMod: its contract -/
theorem fm_sum {t y : Nat} (h1 : -12 < sg t) (h2 : sg t < 0) (h3 : 1 ≤ sg y) (h4 : sg y ≤ 12) : sg ((t + y) % 4294967296) = sg t + sg y := by
  rw [sg_add]
  generalize sg t = a at h1 h2
  generalize sg y = b at h3 h4
  exact w32_id (by omega) (by omega)
theorem fm_pos {a b : Int} (h1 : 1 ≤ b) (h2 : ¬ a < 0) : 0 ≤ a.tmod b ∧ a.tmod b < b := by
  have h3 := Int.tmod_nonneg b (show 0 ≤ a by omega)
  have h4 := Int.tmod_lt_of_pos a (show 0 < b by omega)
  exact ⟨h3, h4⟩
theorem fm_neg {a b : Int} (h1 : 1 ≤ b) (h2 : a < 0) : a.tmod b ≤ 0 ∧ -b < a.tmod b := by
  obtain ⟨h3, h4⟩ := fm_pos (a := -a) h1 (by omega)
  rw [Int.neg_tmod] at h3 h4
  exact ⟨by omega, by omega⟩
theorem c3_lt {x : Nat} {a b c : OR} (h : sg x < 0) : c3 (bi x) (bi 0) a b c = a := by
  rw [c3_eq, if_pos (bi_lt_iff.mpr (by rw [sgZ0]; exact h))]
theorem c3_z {x : Nat} {a b c : OR} (h : sg x = 0) : c3 (bi x) (bi 0) a b c = b := by
  rw [c3_eq, if_neg (fun q => by have := bi_lt_iff.mp q; rw [sgZ0, h] at this; exact absurd this (by decide)), if_pos (bi_eq_iff.mpr (by rw [sgZ0]; exact h))]
theorem c3_ge {x : Nat} {a b : OR} (h : ¬ sg x < 0) : c3 (bi x) (bi 0) a b b = b := by
  rw [c3_eq, if_neg (fun q => h (by have := bi_lt_iff.mp q; rw [sgZ0] at this; exact this))]
  split <;> rfl
theorem fm_val (k x y : Nat) (Ev : Env9) (M : Mem) (hy : 1 ≤ y % 4294967296) (h1 : 1 ≤ sg y) (h2 : sg y ≤ 12) : ∃ t, t < 4294967296 ∧ 0 ≤ sg t ∧ sg t ≤ 11 ∧ runM (k + 1) 335 Ev 466 [vI x, vI y] M = some [((0, 0), Ev, vI t, [], [], M, 466, 0)] := by
  have ht := sg_rem x y
  have hlt := toN_lt (nI x - nI x / nI y * nI y)
  have hxn := xor_neg x y
  have hr := fm_run k x y Ev M hy
  revert ht hlt hxn hr
  generalize toN (nI x - nI x / nI y * nI y) = t
  generalize g_ixor x y = u
  intro ht hlt hxn hr
  have hy0 : decide (sg y < 0) = false := decide_eq_false (fun q => absurd (Int.lt_of_lt_of_le q (Int.le_trans (by decide) h1)) (Int.lt_irrefl _))
  by_cases hx : sg x < 0
  · have hu : sg u < 0 := hxn.mpr (by rw [decide_eq_true hx, hy0]; rfl)
    obtain ⟨b2, b3⟩ := fm_neg h1 hx
    rw [← ht] at b2 b3
    rw [c3_lt hu] at hr
    by_cases q1 : sg t = 0
    · rw [c3_z q1] at hr
      exact ⟨t, hlt, by rw [q1]; decide, by rw [q1]; decide, hr⟩
    · have q2 : sg t < 0 := by
        generalize sg t = a at b2 q1
        omega
      rw [c3_lt q2] at hr
      have hs := fm_sum (t := t) (y := y) (by generalize sg t = a at b3; generalize sg y = b at b3 h2; omega) q2 h1 h2
      refine ⟨_, Nat.mod_lt _ (by decide), ?_, ?_, hr⟩
      · rw [hs]; generalize sg t = a at b3; generalize sg y = b at b3; omega
      · rw [hs]; generalize sg t = a at q2; generalize sg y = b at h2; omega
  · have hu : ¬ sg u < 0 := fun q => by
      have := hxn.mp q
      rw [decide_eq_false hx, hy0] at this
      cases this
    obtain ⟨b2, b3⟩ := fm_pos h1 hx
    rw [← ht] at b2 b3
    rw [c3_ge hu] at hr
    exact ⟨t, hlt, b2, by generalize sg t = a at b3; generalize sg y = b at b3 h2; omega, hr⟩
theorem ctr_fm {Ev : Env9} {Inv : Mem → Prop} : ∀ k, 1 ≤ k → CtrOK kd0 sh0 rt0 bd0 Inv Ev (runM k) 335 ([(0, (-2147483648), 2147483647), (0, 1, 12)], [], [], [], [((0, 0), (0, 0, 11), [], [])]) := by
  intro k hk vs M h1 _ _ hT hI
  obtain ⟨k', rfl⟩ : ∃ k', k = k' + 1 := ⟨k - 1, by omega⟩
  cases vs with
  | nil => exact h1.elim
  | cons v vs =>
    cases vs with
    | nil => exact h1.2.elim
    | cons u vs =>
      cases vs with
      | cons _ _ => exact h1.2.2.elim
      | nil =>
        obtain ⟨x, e1, x1, x2, x3⟩ := h1.1
        subst e1
        obtain ⟨y, e2, y1, y2, y3⟩ := h1.2.1
        subst e2
        have y2 : (1 : Int) ≤ sg y := y2
        have y3 : sg y ≤ 12 := y3
        have hy : y ≤ 2147483647 := by unfold sg bi at y2 y3; omega
        have hyy := sg_eq hy
        obtain ⟨t, t1, t2, t3, t4⟩ := fm_val k' x y Ev M (by omega) y2 y3
        exact ⟨_, t4, rfl, rfl, hT, hI, fun _ _ _ _ => rfl, _, List.mem_singleton.mpr rfl, rfl, fun _ => ⟨t, rfl, t1, t2, t3⟩, (fun q hq => by cases hq), (fun q hq => by cases hq)⟩
end
section
/-! contracts by hand: texts, floorMod, copies -/
def CK (Ev : Env9) (b : Nat) (p : Nat × Ctr) : Prop := ∀ k, b ≤ k → CtrOK kd0 sh0 rt0 bd0 Inv0 Ev (runM k) p.1 p.2
theorem CK_up {Ev : Env9} {b c : Nat} {p : Nat × Ctr} (h : CK Ev b p) (hb : b ≤ c) : CK Ev c p := fun k hk => h k (Nat.le_trans hb hk)
theorem mdCp_ok : MDOK bo9 178 mdCp := mo_X11_copies rfl _
theorem ku_453 : allN 466 (fun j => Bool.rec true (Nat.beq j 453) (Nat.beq (kd0 j) (kd0 453))) = true := by decide +kernel
theorem ku_454 : allN 466 (fun j => Bool.rec true (Nat.beq j 454) (Nat.beq (kd0 j) (kd0 454))) = true := by decide +kernel
theorem ku_455 : allN 466 (fun j => Bool.rec true (Nat.beq j 455) (Nat.beq (kd0 j) (kd0 455))) = true := by decide +kernel
theorem ku_456 : allN 466 (fun j => Bool.rec true (Nat.beq j 456) (Nat.beq (kd0 j) (kd0 456))) = true := by decide +kernel
theorem ku_457 : allN 466 (fun j => Bool.rec true (Nat.beq j 457) (Nat.beq (kd0 j) (kd0 457))) = true := by decide +kernel
theorem ku_of {b : Nat} (h : allN 466 (fun j => Bool.rec true (Nat.beq j b) (Nat.beq (kd0 j) (kd0 b))) = true) : ∀ j, j < 466 → kd0 j = kd0 b → j = b := by
  intro j hj e
  have h1 := allN_ok h j hj
  have h2 : (Bool.rec true (Nat.beq j b) (Nat.beq (kd0 j) (kd0 b)) : Bool) = true := h1
  rw [e, Nat.beq_refl] at h2
  exact Nat.eq_of_beq_eq_true h2
set_option maxRecDepth 100000 in
theorem sl_21 (k : Nat) (Ev : Env9) (M : Mem) : runM (k + 5) 338 Ev 466 [vW 21] M = some [((0, 0), Ev, vI 4, [], [], M, 466, 0)] := rfl
theorem hh_3 {Ev : Env9} : CK Ev 5 (338, ct_3) := ctr_len (w := 21) (n := 4) (by decide) sl_21
set_option maxRecDepth 100000 in
theorem sc_21_0 (k : Nat) (Ev : Env9) (M : Mem) : runM (k + 5) 339 Ev 466 [vW 21, vI 0] M = some [((0, 0), Ev, vI 102, [], [], M, 466, 0)] := rfl
theorem hh_4 {Ev : Env9} : CK Ev 5 (339, ct_4) := ctr_chr (w := 21) (lo := 0) (hi := 0) (mn := 102) (mx := 102) (by decide) (by decide) (fun i h1 h2 => match i, h1, h2 with | 0, _, _ => ⟨102, by decide, by decide, sc_21_0⟩ | n + 1, _, h2 => absurd h2 (by omega))
set_option maxRecDepth 100000 in
theorem sc_21_1 (k : Nat) (Ev : Env9) (M : Mem) : runM (k + 5) 339 Ev 466 [vW 21, vI 1] M = some [((0, 0), Ev, vI 97, [], [], M, 466, 0)] := rfl
set_option maxRecDepth 100000 in
theorem sc_21_2 (k : Nat) (Ev : Env9) (M : Mem) : runM (k + 5) 339 Ev 466 [vW 21, vI 2] M = some [((0, 0), Ev, vI 105, [], [], M, 466, 0)] := rfl
set_option maxRecDepth 100000 in
theorem sc_21_3 (k : Nat) (Ev : Env9) (M : Mem) : runM (k + 5) 339 Ev 466 [vW 21, vI 3] M = some [((0, 0), Ev, vI 114, [], [], M, 466, 0)] := rfl
theorem hh_5 {Ev : Env9} : CK Ev 5 (339, ct_5) := ctr_chr (w := 21) (lo := 0) (hi := 3) (mn := 97) (mx := 114) (by decide) (by decide) (fun i h1 h2 => match i, h1, h2 with | 0, _, _ => ⟨102, by decide, by decide, sc_21_0⟩ | 1, _, _ => ⟨97, by decide, by decide, sc_21_1⟩ | 2, _, _ => ⟨105, by decide, by decide, sc_21_2⟩ | 3, _, _ => ⟨114, by decide, by decide, sc_21_3⟩ | n + 4, _, h2 => absurd h2 (by omega))
set_option maxRecDepth 100000 in
theorem sl_27 (k : Nat) (Ev : Env9) (M : Mem) : runM (k + 5) 338 Ev 466 [vW 27] M = some [((0, 0), Ev, vI 3, [], [], M, 466, 0)] := rfl
theorem hh_11 {Ev : Env9} : CK Ev 5 (338, ct_11) := ctr_len (w := 27) (n := 3) (by decide) sl_27
set_option maxRecDepth 100000 in
theorem sc_27_0 (k : Nat) (Ev : Env9) (M : Mem) : runM (k + 5) 339 Ev 466 [vW 27, vI 0] M = some [((0, 0), Ev, vI 102, [], [], M, 466, 0)] := rfl
theorem hh_12 {Ev : Env9} : CK Ev 5 (339, ct_12) := ctr_chr (w := 27) (lo := 0) (hi := 0) (mn := 102) (mx := 102) (by decide) (by decide) (fun i h1 h2 => match i, h1, h2 with | 0, _, _ => ⟨102, by decide, by decide, sc_27_0⟩ | n + 1, _, h2 => absurd h2 (by omega))
set_option maxRecDepth 100000 in
theorem sc_27_1 (k : Nat) (Ev : Env9) (M : Mem) : runM (k + 5) 339 Ev 466 [vW 27, vI 1] M = some [((0, 0), Ev, vI 111, [], [], M, 466, 0)] := rfl
set_option maxRecDepth 100000 in
theorem sc_27_2 (k : Nat) (Ev : Env9) (M : Mem) : runM (k + 5) 339 Ev 466 [vW 27, vI 2] M = some [((0, 0), Ev, vI 103, [], [], M, 466, 0)] := rfl
theorem hh_13 {Ev : Env9} : CK Ev 5 (339, ct_13) := ctr_chr (w := 27) (lo := 0) (hi := 2) (mn := 102) (mx := 111) (by decide) (by decide) (fun i h1 h2 => match i, h1, h2 with | 0, _, _ => ⟨102, by decide, by decide, sc_27_0⟩ | 1, _, _ => ⟨111, by decide, by decide, sc_27_1⟩ | 2, _, _ => ⟨103, by decide, by decide, sc_27_2⟩ | n + 3, _, h2 => absurd h2 (by omega))
set_option maxRecDepth 100000 in
theorem sl_28 (k : Nat) (Ev : Env9) (M : Mem) : runM (k + 5) 338 Ev 466 [vW 28] M = some [((0, 0), Ev, vI 4, [], [], M, 466, 0)] := rfl
theorem hh_17 {Ev : Env9} : CK Ev 5 (338, ct_17) := ctr_len (w := 28) (n := 4) (by decide) sl_28
set_option maxRecDepth 100000 in
theorem sc_28_0 (k : Nat) (Ev : Env9) (M : Mem) : runM (k + 5) 339 Ev 466 [vW 28, vI 0] M = some [((0, 0), Ev, vI 101, [], [], M, 466, 0)] := rfl
theorem hh_18 {Ev : Env9} : CK Ev 5 (339, ct_18) := ctr_chr (w := 28) (lo := 0) (hi := 0) (mn := 101) (mx := 101) (by decide) (by decide) (fun i h1 h2 => match i, h1, h2 with | 0, _, _ => ⟨101, by decide, by decide, sc_28_0⟩ | n + 1, _, h2 => absurd h2 (by omega))
set_option maxRecDepth 100000 in
theorem sc_28_1 (k : Nat) (Ev : Env9) (M : Mem) : runM (k + 5) 339 Ev 466 [vW 28, vI 1] M = some [((0, 0), Ev, vI 99, [], [], M, 466, 0)] := rfl
set_option maxRecDepth 100000 in
theorem sc_28_2 (k : Nat) (Ev : Env9) (M : Mem) : runM (k + 5) 339 Ev 466 [vW 28, vI 2] M = some [((0, 0), Ev, vI 104, [], [], M, 466, 0)] := rfl
set_option maxRecDepth 100000 in
theorem sc_28_3 (k : Nat) (Ev : Env9) (M : Mem) : runM (k + 5) 339 Ev 466 [vW 28, vI 3] M = some [((0, 0), Ev, vI 111, [], [], M, 466, 0)] := rfl
theorem hh_19 {Ev : Env9} : CK Ev 5 (339, ct_19) := ctr_chr (w := 28) (lo := 0) (hi := 3) (mn := 99) (mx := 111) (by decide) (by decide) (fun i h1 h2 => match i, h1, h2 with | 0, _, _ => ⟨101, by decide, by decide, sc_28_0⟩ | 1, _, _ => ⟨99, by decide, by decide, sc_28_1⟩ | 2, _, _ => ⟨104, by decide, by decide, sc_28_2⟩ | 3, _, _ => ⟨111, by decide, by decide, sc_28_3⟩ | n + 4, _, h2 => absurd h2 (by omega))
set_option maxRecDepth 100000 in
theorem sl_29 (k : Nat) (Ev : Env9) (M : Mem) : runM (k + 5) 338 Ev 466 [vW 29] M = some [((0, 0), Ev, vI 6, [], [], M, 466, 0)] := rfl
theorem hh_21 {Ev : Env9} : CK Ev 5 (338, ct_21) := ctr_len (w := 29) (n := 6) (by decide) sl_29
set_option maxRecDepth 100000 in
theorem sc_29_0 (k : Nat) (Ev : Env9) (M : Mem) : runM (k + 5) 339 Ev 466 [vW 29, vI 0] M = some [((0, 0), Ev, vI 118, [], [], M, 466, 0)] := rfl
theorem hh_22 {Ev : Env9} : CK Ev 5 (339, ct_22) := ctr_chr (w := 29) (lo := 0) (hi := 0) (mn := 118) (mx := 118) (by decide) (by decide) (fun i h1 h2 => match i, h1, h2 with | 0, _, _ => ⟨118, by decide, by decide, sc_29_0⟩ | n + 1, _, h2 => absurd h2 (by omega))
set_option maxRecDepth 100000 in
theorem sc_29_1 (k : Nat) (Ev : Env9) (M : Mem) : runM (k + 5) 339 Ev 466 [vW 29, vI 1] M = some [((0, 0), Ev, vI 97, [], [], M, 466, 0)] := rfl
set_option maxRecDepth 100000 in
theorem sc_29_2 (k : Nat) (Ev : Env9) (M : Mem) : runM (k + 5) 339 Ev 466 [vW 29, vI 2] M = some [((0, 0), Ev, vI 108, [], [], M, 466, 0)] := rfl
set_option maxRecDepth 100000 in
theorem sc_29_3 (k : Nat) (Ev : Env9) (M : Mem) : runM (k + 5) 339 Ev 466 [vW 29, vI 3] M = some [((0, 0), Ev, vI 108, [], [], M, 466, 0)] := rfl
set_option maxRecDepth 100000 in
theorem sc_29_4 (k : Nat) (Ev : Env9) (M : Mem) : runM (k + 5) 339 Ev 466 [vW 29, vI 4] M = some [((0, 0), Ev, vI 101, [], [], M, 466, 0)] := rfl
set_option maxRecDepth 100000 in
theorem sc_29_5 (k : Nat) (Ev : Env9) (M : Mem) : runM (k + 5) 339 Ev 466 [vW 29, vI 5] M = some [((0, 0), Ev, vI 121, [], [], M, 466, 0)] := rfl
theorem hh_23 {Ev : Env9} : CK Ev 5 (339, ct_23) := ctr_chr (w := 29) (lo := 0) (hi := 5) (mn := 97) (mx := 121) (by decide) (by decide) (fun i h1 h2 => match i, h1, h2 with | 0, _, _ => ⟨118, by decide, by decide, sc_29_0⟩ | 1, _, _ => ⟨97, by decide, by decide, sc_29_1⟩ | 2, _, _ => ⟨108, by decide, by decide, sc_29_2⟩ | 3, _, _ => ⟨108, by decide, by decide, sc_29_3⟩ | 4, _, _ => ⟨101, by decide, by decide, sc_29_4⟩ | 5, _, _ => ⟨121, by decide, by decide, sc_29_5⟩ | n + 6, _, h2 => absurd h2 (by omega))
set_option maxRecDepth 100000 in
theorem sl_30 (k : Nat) (Ev : Env9) (M : Mem) : runM (k + 5) 338 Ev 466 [vW 30] M = some [((0, 0), Ev, vI 6, [], [], M, 466, 0)] := rfl
theorem hh_25 {Ev : Env9} : CK Ev 5 (338, ct_25) := ctr_len (w := 30) (n := 6) (by decide) sl_30
set_option maxRecDepth 100000 in
theorem sc_30_0 (k : Nat) (Ev : Env9) (M : Mem) : runM (k + 5) 339 Ev 466 [vW 30, vI 0] M = some [((0, 0), Ev, vI 116, [], [], M, 466, 0)] := rfl
theorem hh_26 {Ev : Env9} : CK Ev 5 (339, ct_26) := ctr_chr (w := 30) (lo := 0) (hi := 0) (mn := 116) (mx := 116) (by decide) (by decide) (fun i h1 h2 => match i, h1, h2 with | 0, _, _ => ⟨116, by decide, by decide, sc_30_0⟩ | n + 1, _, h2 => absurd h2 (by omega))
set_option maxRecDepth 100000 in
theorem sc_30_1 (k : Nat) (Ev : Env9) (M : Mem) : runM (k + 5) 339 Ev 466 [vW 30, vI 1] M = some [((0, 0), Ev, vI 101, [], [], M, 466, 0)] := rfl
set_option maxRecDepth 100000 in
theorem sc_30_2 (k : Nat) (Ev : Env9) (M : Mem) : runM (k + 5) 339 Ev 466 [vW 30, vI 2] M = some [((0, 0), Ev, vI 115, [], [], M, 466, 0)] := rfl
set_option maxRecDepth 100000 in
theorem sc_30_3 (k : Nat) (Ev : Env9) (M : Mem) : runM (k + 5) 339 Ev 466 [vW 30, vI 3] M = some [((0, 0), Ev, vI 116, [], [], M, 466, 0)] := rfl
set_option maxRecDepth 100000 in
theorem sc_30_4 (k : Nat) (Ev : Env9) (M : Mem) : runM (k + 5) 339 Ev 466 [vW 30, vI 4] M = some [((0, 0), Ev, vI 101, [], [], M, 466, 0)] := rfl
set_option maxRecDepth 100000 in
theorem sc_30_5 (k : Nat) (Ev : Env9) (M : Mem) : runM (k + 5) 339 Ev 466 [vW 30, vI 5] M = some [((0, 0), Ev, vI 100, [], [], M, 466, 0)] := rfl
theorem hh_27 {Ev : Env9} : CK Ev 5 (339, ct_27) := ctr_chr (w := 30) (lo := 0) (hi := 5) (mn := 100) (mx := 116) (by decide) (by decide) (fun i h1 h2 => match i, h1, h2 with | 0, _, _ => ⟨116, by decide, by decide, sc_30_0⟩ | 1, _, _ => ⟨101, by decide, by decide, sc_30_1⟩ | 2, _, _ => ⟨115, by decide, by decide, sc_30_2⟩ | 3, _, _ => ⟨116, by decide, by decide, sc_30_3⟩ | 4, _, _ => ⟨101, by decide, by decide, sc_30_4⟩ | 5, _, _ => ⟨100, by decide, by decide, sc_30_5⟩ | n + 6, _, h2 => absurd h2 (by omega))
theorem hh_54 {Ev : Env9} : CK Ev 1 (335, ct_54) := ctr_fm
theorem cpk_453_0_456_0 : cpChk 453 0 456 0 := ⟨627, 627, by decide +kernel, by decide +kernel, by decide, by decide, by decide +kernel⟩
theorem hw_189 : allN 627 (fun i => inW [(34, 0, 399), (34, 400, 626)] (kd0 456) ((0 + i : Nat) : Int)) = true := by decide +kernel
theorem hh_189 {Ev : Env9} : CK Ev 1 (178, ct_189) := cp_ctr (a := 453) (a0 := 0) (b := 456) (b0 := 0) hR9 mdCp_ok (by decide) (by decide) (ku_of ku_456) (by decide) cpk_453_0_456_0 (fun i hi => allN_ok hw_189 i hi) (fun M M' _ hI h => Inv0_cp (by decide) (by decide) h (by decide) (by decide) (by decide) hI) [(3, 1, 30), (4, 1, 12), (0, 1, 12), (1, 1, 8)] (by decide)
theorem cpk_456_0_453_0 : cpChk 456 0 453 0 := ⟨627, 627, by decide +kernel, by decide +kernel, by decide, by decide, by decide +kernel⟩
theorem hw_191 : allN 627 (fun i => inW [(31, 0, 399), (31, 400, 626)] (kd0 453) ((0 + i : Nat) : Int)) = true := by decide +kernel
theorem hh_191 {Ev : Env9} : CK Ev 1 (178, ct_191) := cp_ctr (a := 456) (a0 := 0) (b := 453) (b0 := 0) hR9 mdCp_ok (by decide) (by decide) (ku_of ku_453) (by decide) cpk_456_0_453_0 (fun i hi => allN_ok hw_191 i hi) (fun M M' _ hI h => Inv0_cp (by decide) (by decide) h (by decide) (by decide) (by decide) hI) [(3, 1, 30), (4, 1, 12), (0, 1, 12), (1, 1, 8)] (by decide)
theorem cpk_453_0_455_0 : cpChk 453 0 455 0 := ⟨627, 627, by decide +kernel, by decide +kernel, by decide, by decide, by decide +kernel⟩
theorem hw_222 : allN 627 (fun i => inW [(33, 0, 399), (33, 400, 626)] (kd0 455) ((0 + i : Nat) : Int)) = true := by decide +kernel
theorem hh_222 {Ev : Env9} : CK Ev 1 (178, ct_222) := cp_ctr (a := 453) (a0 := 0) (b := 455) (b0 := 0) hR9 mdCp_ok (by decide) (by decide) (ku_of ku_455) (by decide) cpk_453_0_455_0 (fun i hi => allN_ok hw_222 i hi) (fun M M' _ hI h => Inv0_cp (by decide) (by decide) h (by decide) (by decide) (by decide) hI) [(3, 1, 30), (4, 1, 12), (0, 1, 12), (1, 1, 8)] (by decide)
end
