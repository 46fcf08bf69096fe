/-! floorMod -/
theorem gdt (x : OR) : gd true x = x := rfl
section FM9
variable {call : Call} {f x y t : Nat} {Ev : Env9} {M : Mem}
theorem fm_3 : runF call 3 ct_J9_floorMod_7cf53 (f + 1) 3 Ev 466 0 [vI x, vI y, vI t] [] M = some [((0, 0), Ev, vI t, [], [], M, 466, 0)] := rfl
theorem fm_2 : runF call 3 ct_J9_floorMod_7cf53 (f + 1) 2 Ev 466 0 [vI x, vI y, vI t] [] M = fN ((t + y) % 4294967296) fun r => some [((0, 0), Ev, vI r, [], [], M, 466, 0)] := rfl
theorem fm_1 : runF call 3 ct_J9_floorMod_7cf53 (f + 1) 1 Ev 466 0 [vI x, vI y, vI t] [] M = c3 (bi t) (bi 0) (runF call 3 ct_J9_floorMod_7cf53 f 2 Ev 466 0 [vI x, vI y, vI t] [] M) (runF call 3 ct_J9_floorMod_7cf53 f 3 Ev 466 0 [vI x, vI y, vI t] [] M) (runF call 3 ct_J9_floorMod_7cf53 f 2 Ev 466 0 [vI x, vI y, vI t] [] M) := rfl
theorem fm_0 : runF call 3 ct_J9_floorMod_7cf53 (f + 1) 0 Ev 466 0 [vI x, vI y, vW 3] [] M = gd (Nat.ble 1 (y % 4294967296)) (fN (toN (nI x - nI x / nI y * nI y)) fun t => fN (g_ixor x y) fun u => c3 (bi u) (bi 0) (runF call 3 ct_J9_floorMod_7cf53 f 1 Ev 466 0 [vI x, vI y, vI t] [] M) (runF call 3 ct_J9_floorMod_7cf53 f 3 Ev 466 0 [vI x, vI y, vI t] [] M) (runF call 3 ct_J9_floorMod_7cf53 f 3 Ev 466 0 [vI x, vI y, vI t] [] M)) := rfl
theorem fm_run (k x y : Nat) (Ev : Env9) (M : Mem) : runM (k + 1) 335 Ev 466 [vI x, vI y] M = gd (Nat.ble 1 (y % 4294967296)) (fN (toN (nI x - nI x / nI y * nI y)) fun t => fN (g_ixor x y) fun u => c3 (bi u) (bi 0) (c3 (bi t) (bi 0) (fN ((t + y) % 4294967296) fun r => some [((0, 0), Ev, vI r, [], [], M, 466, 0)]) (some [((0, 0), Ev, vI t, [], [], M, 466, 0)]) (fN ((t + y) % 4294967296) fun r => some [((0, 0), Ev, vI r, [], [], M, 466, 0)])) (some [((0, 0), Ev, vI t, [], [], M, 466, 0)]) (some [((0, 0), Ev, vI t, [], [], M, 466, 0)])) := by
  have e : bo_J9_floorMod_7cf53 (runM k) Ev 466 [vI x, vI y] M = gd (Nat.ble 2 3) (runF (runM k) 3 ct_J9_floorMod_7cf53 fuel9 0 Ev 466 0 [vI x, vI y, vW 3] [] M) := rfl
  rw [hR9, b9_335, e, show Nat.ble 2 3 = true from rfl, gdt, show fuel9 = 999999999996 + 1 + 1 + 1 + 1 from rfl, fm_0]
  simp only [fm_1, fm_2, fm_3]
end FM9
theorem ctr_fm {Ev : Env9} {Inv : Mem → Prop} : ∀ k, 1 ≤ k → CtrOK kd0 sh0 rt0 bd0 Inv Ev (runM k) 335 ([(0, (-2147483648), 2147483647), (0, 1, 12)], [], [], [], [((0, 0), (0, 0, 11), [], [])]) := by
  intro k hk vs M h1 _ _ hT hI
  obtain ⟨k', rfl⟩ : ∃ k', k = k' + 1 := ⟨k - 1, by omega⟩
  cases vs with
  | nil => exact h1.elim
  | cons v vs =>
    cases vs with
    | nil => exact h1.2.elim
    | cons u vs =>
      cases vs with
      | cons _ _ => exact h1.2.2.elim
      | nil =>
        obtain ⟨x, e1, x1, x2, x3⟩ := h1.1
        subst e1
        obtain ⟨y, e2, y1, y2, y3⟩ := h1.2.1
        subst e2
        have y2 : (1 : Int) ≤ sg y := y2
        have y3 : sg y ≤ 12 := y3
        have hy : y ≤ 2147483647 := by unfold sg bi at y2 y3; omega
        have hyy := sg_eq hy
        have fin : ∀ t, t < 4294967296 → 0 ≤ sg t → sg t ≤ 11 → OKo (some [((0, 0), Ev, vI t, [], [], M, 466, 0)]) (EnP kd0 sh0 rt0 bd0 Inv Ev ([(0, (-2147483648), 2147483647), (0, 1, 12)], [], [], [], [((0, 0), (0, 0, 11), [], [])]) M) := fun t t1 t2 t3 => ⟨_, rfl, rfl, rfl, hT, hI, fun _ _ _ _ => rfl, _, List.mem_singleton.mpr rfl, rfl, fun _ => ⟨t, rfl, t1, t2, t3⟩, (fun q hq => by cases hq), (fun q hq => by cases hq)⟩
        show OKo (runM (k' + 1) 335 Ev 466 [vI x, vI y] M) (EnP kd0 sh0 rt0 bd0 Inv Ev ([(0, (-2147483648), 2147483647), (0, 1, 12)], [], [], [], [((0, 0), (0, 0, 11), [], [])]) M)
        rw [fm_run, fN_eq, fN_eq, c3_eq, c3_eq, fN_eq, Nat.ble_eq_true_of_le (show 1 ≤ y % 4294967296 by omega)]
        have ht := sg_rem x y
        have hlt : toN (nI x - nI x / nI y * nI y) < 4294967296 := toN_lt _
        generalize toN (nI x - nI x / nI y * nI y) = t at ht hlt
        have hxn := xor_neg x y
        generalize g_ixor x y = u at hxn
        have b1 := Int.tmod_lt_of_pos (sg x) (show 0 < sg y by omega)
        have hsum : ∀ h9 : -12 < sg t ∧ sg t < 0, (t + y) % 4294967296 < 4294967296 ∧ sg ((t + y) % 4294967296) = sg t + sg y := by
          intro h9
          refine ⟨Nat.mod_lt _ (by omega), ?_⟩
          unfold sg bi at *
          omega
        rw [show gd true _ = _ from rfl]
        by_cases hx : sg x < 0
        · have b2 : sg t ≤ 0 := by rw [ht]; exact Int.tmod_nonpos _ (by omega)
          have b3 : - sg y < sg t := by rw [ht]; have := Int.lt_tmod_of_pos (sg x) (show 0 < sg y by omega); omega
          have hu : bi u < bi 0 := bi_lt_iff.mpr (by rw [sgZ0]; exact hxn.mpr (by rw [decide_eq_true hx, decide_eq_false (show ¬ sg y < 0 by omega)]; rfl))
          rw [if_pos hu]
          by_cases q1 : sg t = 0
          · rw [if_neg (fun q => by have := bi_lt_iff.mp q; rw [sgZ0] at this; omega), if_pos (bi_eq_iff.mpr (by rw [sgZ0]; exact q1))]
            exact fin t hlt (by omega) (by omega)
          · rw [if_pos (bi_lt_iff.mpr (by rw [sgZ0]; omega))]
            obtain ⟨s1, s2⟩ := hsum ⟨by omega, by omega⟩
            exact fin _ s1 (by omega) (by omega)
        · have b2 : 0 ≤ sg t := by rw [ht]; exact Int.tmod_nonneg _ (by omega)
          have hu : ¬ bi u < bi 0 := fun q => by
            have := bi_lt_iff.mp q
            rw [sgZ0] at this
            have := hxn.mp this
            rw [decide_eq_false hx, decide_eq_false (show ¬ sg y < 0 by omega)] at this
            cases this
          rw [if_neg hu]
          have e : ∀ a : OR, (if bi u = bi 0 then a else a) = a := fun a => by split <;> rfl
          rw [e]
          exact fin t hlt b2 (by omega)
