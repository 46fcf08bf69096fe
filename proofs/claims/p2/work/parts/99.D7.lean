/-! all methods stand in the machine's tree; texts; floorMod -/
noncomputable def bo9 : Bo9 := fun y => tget 9 boTr y
theorem hR9 : ∀ (k y : Nat) (E : Env9) (n : Nat) (as : List AV) (M : Mem), runM (k + 1) y E n as M = bo9 y (runM k) E n as M := fun _ _ _ _ _ _ => rfl
section TX9
variable {Ev : Env9} {Inv : Mem → Prop}
theorem ctr_len {w n : Nat} (hn : n ≤ 1000) (hrun : ∀ (k : Nat) (Ev : Env9) (M : Mem), runM (k + 5) 338 Ev 466 [vW w] M = some [((0, 0), Ev, vI n, [], [], M, 466, 0)]) : ∀ k, 5 ≤ k → CtrOK kd0 sh0 rt0 bd0 Inv Ev (runM k) 338 ([(4, (w : Int), 0)], [], [], [], [((0, 0), (0, (n : Int), (n : Int)), [], [])]) := by
  intro k hk vs M h1 _ _ hT hI
  obtain ⟨k', rfl⟩ : ∃ k', k = k' + 5 := ⟨k - 5, by omega⟩
  cases vs with
  | nil => exact h1.elim
  | cons v vs =>
    cases vs with
    | cons _ _ => exact h1.2.elim
    | nil =>
      have e : v = vW w := h1.1
      subst e
      refine ⟨_, hrun k' Ev M, rfl, rfl, hT, hI, fun _ _ _ _ => rfl, _, List.mem_singleton.mpr rfl, rfl, fun _ => ⟨n, rfl, by omega, ?_⟩, (fun q hq => by cases hq), (fun q hq => by cases hq)⟩
      rw [sg_eq (by omega)]
      exact ⟨Int.le_refl _, Int.le_refl _⟩
theorem ctr_chr {w lo hi mn mx : Nat} (hmx : mx ≤ 1000) (hhi : hi ≤ 1000) (hrun : ∀ i, lo ≤ i → i ≤ hi → ∃ c, mn ≤ c ∧ c ≤ mx ∧ ∀ (k : Nat) (Ev : Env9) (M : Mem), runM (k + 5) 339 Ev 466 [vW w, vI i] M = some [((0, 0), Ev, vI c, [], [], M, 466, 0)]) : ∀ k, 5 ≤ k → CtrOK kd0 sh0 rt0 bd0 Inv Ev (runM k) 339 ([(4, (w : Int), 0), (0, (lo : Int), (hi : Int))], [], [], [], [((0, 0), (0, (mn : Int), (mx : Int)), [], [])]) := by
  intro k hk vs M h1 _ _ hT hI
  obtain ⟨k', rfl⟩ : ∃ k', k = k' + 5 := ⟨k - 5, by omega⟩
  cases vs with
  | nil => exact h1.elim
  | cons v vs =>
    cases vs with
    | nil => exact h1.2.elim
    | cons u vs =>
      cases vs with
      | cons _ _ => exact h1.2.2.elim
      | nil =>
        have e : v = vW w := h1.1
        subst e
        obtain ⟨x, e2, x1, x2, x3⟩ := h1.2.1
        subst e2
        have x2 : (lo : Int) ≤ sg x := x2
        have x3 : sg x ≤ (hi : Int) := x3
        have hx : x ≤ 2147483647 := by unfold sg bi at x2 x3; omega
        rw [sg_eq hx] at x2 x3
        obtain ⟨c, c1, c2, c3⟩ := hrun x (by omega) (by omega)
        refine ⟨_, c3 k' Ev M, rfl, rfl, hT, hI, fun _ _ _ _ => rfl, _, List.mem_singleton.mpr rfl, rfl, fun _ => ⟨c, rfl, by omega, ?_⟩, (fun q hq => by cases hq), (fun q hq => by cases hq)⟩
        rw [sg_eq (by omega)]
        exact ⟨by show (mn : Int) ≤ (c : Int); omega, by show (c : Int) ≤ (mx : Int); omega⟩
end TX9
theorem i32_neg (a : Int32) : a.toInt < 0 ↔ a.toBitVec.msb = true := by
  rw [BitVec.msb_eq_toInt]
  exact ⟨fun h => decide_eq_true h, fun h => of_decide_eq_true h⟩
theorem i32_msb (a : Int32) : a.toBitVec.msb = decide (a.toInt < 0) := by
  cases hm : a.toBitVec.msb with
  | true => exact (decide_eq_true ((i32_neg a).mpr hm)).symm
  | false => exact (decide_eq_false (fun q => by rw [(i32_neg a).mp q] at hm; cases hm)).symm
theorem xor_neg (x y : Nat) : sg (g_ixor x y) < 0 ↔ (decide (sg x < 0) != decide (sg y < 0)) = true := by
  unfold g_ixor
  rw [sg_toN, i32_neg, Int32.toBitVec_xor, BitVec.msb_xor, i32_msb, i32_msb, sg_toInt, sg_toInt]
  exact Iff.rfl
set_option maxRecDepth 100000 in
theorem fm_run (k x y : Nat) (Ev : Env9) (M : Mem) : runM (k + 1) 335 Ev 466 [vI x, vI y] M = gd (Nat.ble 1 (y % 4294967296)) (fN (toN (nI x - nI x / nI y * nI y)) fun t => fN (g_ixor x y) fun u => c3 (bi u) (bi 0) (c3 (bi t) (bi 0) (fN ((t + y) % 4294967296) fun r => some [((0, 0), Ev, vI r, [], [], M, 466, 0)]) (some [((0, 0), Ev, vI t, [], [], M, 466, 0)]) (fN ((t + y) % 4294967296) fun r => some [((0, 0), Ev, vI r, [], [], M, 466, 0)])) (some [((0, 0), Ev, vI t, [], [], M, 466, 0)]) (some [((0, 0), Ev, vI t, [], [], M, 466, 0)])) := rfl
theorem ctr_fm {Ev : Env9} {Inv : Mem → Prop} : ∀ k, 1 ≤ k → CtrOK kd0 sh0 rt0 bd0 Inv Ev (runM k) 335 ([(0, (-2147483648), 2147483647), (0, 1, 12)], [], [], [], [((0, 0), (0, 0, 11), [], [])]) := by
  intro k hk vs M h1 _ _ hT hI
  obtain ⟨k', rfl⟩ : ∃ k', k = k' + 1 := ⟨k - 1, by omega⟩
  cases vs with
  | nil => exact h1.elim
  | cons v vs =>
    cases vs with
    | nil => exact h1.2.elim
    | cons u vs =>
      cases vs with
      | cons _ _ => exact h1.2.2.elim
      | nil =>
        obtain ⟨x, e1, x1, x2, x3⟩ := h1.1
        subst e1
        obtain ⟨y, e2, y1, y2, y3⟩ := h1.2.1
        subst e2
        have y2 : (1 : Int) ≤ sg y := y2
        have y3 : sg y ≤ 12 := y3
        have hy : y ≤ 2147483647 := by unfold sg bi at y2 y3; omega
        have hyy := sg_eq hy
        have fin : ∀ t, t < 4294967296 → 0 ≤ sg t → sg t ≤ 11 → OKo (some [((0, 0), Ev, vI t, [], [], M, 466, 0)]) (EnP kd0 sh0 rt0 bd0 Inv Ev ([(0, (-2147483648), 2147483647), (0, 1, 12)], [], [], [], [((0, 0), (0, 0, 11), [], [])]) M) := fun t t1 t2 t3 => ⟨_, rfl, rfl, rfl, hT, hI, fun _ _ _ _ => rfl, _, List.mem_singleton.mpr rfl, rfl, fun _ => ⟨t, rfl, t1, t2, t3⟩, (fun q hq => by cases hq), (fun q hq => by cases hq)⟩
        show OKo (runM (k' + 1) 335 Ev 466 [vI x, vI y] M) (EnP kd0 sh0 rt0 bd0 Inv Ev ([(0, (-2147483648), 2147483647), (0, 1, 12)], [], [], [], [((0, 0), (0, 0, 11), [], [])]) M)
        rw [fm_run, fN_eq, fN_eq, c3_eq, c3_eq, fN_eq, Nat.ble_eq_true_of_le (show 1 ≤ y % 4294967296 by omega)]
        have ht := sg_rem x y
        have hlt : toN (nI x - nI x / nI y * nI y) < 4294967296 := toN_lt _
        generalize toN (nI x - nI x / nI y * nI y) = t at ht hlt
        have hxn := xor_neg x y
        generalize g_ixor x y = u at hxn
        have b1 := Int.tmod_lt_of_pos (sg x) (show 0 < sg y by omega)
        have hsum : ∀ h9 : -12 < sg t ∧ sg t < 0, (t + y) % 4294967296 < 4294967296 ∧ sg ((t + y) % 4294967296) = sg t + sg y := by
          intro h9
          refine ⟨Nat.mod_lt _ (by omega), ?_⟩
          unfold sg bi at *
          omega
        rw [show gd true _ = _ from rfl]
        by_cases hx : sg x < 0
        · have b2 : sg t ≤ 0 := by rw [ht]; exact Int.tmod_nonpos _ (by omega)
          have b3 : - sg y < sg t := by rw [ht]; have := Int.lt_tmod_of_pos (sg x) (show 0 < sg y by omega); omega
          have hu : bi u < bi 0 := bi_lt_iff.mpr (by rw [sgZ0]; exact hxn.mpr (by rw [decide_eq_true hx, decide_eq_false (show ¬ sg y < 0 by omega)]; rfl))
          rw [if_pos hu]
          by_cases q1 : sg t = 0
          · rw [if_neg (fun q => by have := bi_lt_iff.mp q; rw [sgZ0] at this; omega), if_pos (bi_eq_iff.mpr (by rw [sgZ0]; exact q1))]
            exact fin t hlt (by omega) (by omega)
          · rw [if_pos (bi_lt_iff.mpr (by rw [sgZ0]; omega))]
            obtain ⟨s1, s2⟩ := hsum ⟨by omega, by omega⟩
            exact fin _ s1 (by omega) (by omega)
        · have b2 : 0 ≤ sg t := by rw [ht]; exact Int.tmod_nonneg _ (by omega)
          have hu : ¬ bi u < bi 0 := fun q => by
            have := bi_lt_iff.mp q
            rw [sgZ0] at this
            have := hxn.mp this
            rw [decide_eq_false hx, decide_eq_false (show ¬ sg y < 0 by omega)] at this
            cases this
          rw [if_neg hu]
          have e : ∀ a : OR, (if bi u = bi 0 then a else a) = a := fun a => by split <;> rfl
          rw [e]
          exact fin t hlt b2 (by omega)
