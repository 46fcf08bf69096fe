/-! floorMod -/
section FM9
variable {call : Call} {f x y t : Nat} {Ev : Env9} {M : Mem}
theorem fm_3 : runF call 3 ct_J9_floorMod_7cf53 (f + 1) 3 Ev 466 0 [vI x, vI y, vI t] [] M = some [((0, 0), Ev, vI t, [], [], M, 466, 0)] := rfl
theorem fm_2 : runF call 3 ct_J9_floorMod_7cf53 (f + 1) 2 Ev 466 0 [vI x, vI y, vI t] [] M = some [((0, 0), Ev, vI ((t + y) % 4294967296), [], [], M, 466, 0)] := by
  have e : runF call 3 ct_J9_floorMod_7cf53 (f + 1) 2 Ev 466 0 [vI x, vI y, vI t] [] M = fN ((t + y) % 4294967296) fun r => some [((0, 0), Ev, vI r, [], [], M, 466, 0)] := rfl
  rw [e, fN_eq]
theorem fm_1 : runF call 3 ct_J9_floorMod_7cf53 (f + 1) 1 Ev 466 0 [vI x, vI y, vI t] [] M = c3 (bi t) (bi 0) (runF call 3 ct_J9_floorMod_7cf53 f 2 Ev 466 0 [vI x, vI y, vI t] [] M) (runF call 3 ct_J9_floorMod_7cf53 f 3 Ev 466 0 [vI x, vI y, vI t] [] M) (runF call 3 ct_J9_floorMod_7cf53 f 2 Ev 466 0 [vI x, vI y, vI t] [] M) := by
  rw [rF9 f (show tget 3 ct_J9_floorMod_7cf53 1 = ([op_ld isI 2], tm_if 2 3 2) from rfl), rBc, rBn, ldn, show nth [vI x, vI y, vI t] 2 = vI t from rfl, isIv, gdt, ifn]
theorem fm_0 (h : 1 ≤ y % 4294967296) : runF call 3 ct_J9_floorMod_7cf53 (f + 1) 0 Ev 466 0 [vI x, vI y, vW 3] [] M = c3 (bi (g_ixor x y)) (bi 0) (runF call 3 ct_J9_floorMod_7cf53 f 1 Ev 466 0 [vI x, vI y, vI (toN (nI x - nI x / nI y * nI y))] [] M) (runF call 3 ct_J9_floorMod_7cf53 f 3 Ev 466 0 [vI x, vI y, vI (toN (nI x - nI x / nI y * nI y))] [] M) (runF call 3 ct_J9_floorMod_7cf53 f 3 Ev 466 0 [vI x, vI y, vI (toN (nI x - nI x / nI y * nI y))] [] M) := by
  rw [rF9 f (show tget 3 ct_J9_floorMod_7cf53 0 = ([op_ld isI 0, op_ld isI 1, op_irem, op_st isI 2, op_ld isI 0, op_ld isI 1, op_bin g_ixor], tm_if 1 3 3) from rfl), rBc, rBc, rBc, rBc, rBc, rBc, rBc, rBn, ldn, show nth [vI x, vI y, vW 3] 0 = vI x from rfl, isIv, gdt, ldn, show nth [vI x, vI y, vW 3] 1 = vI y from rfl, isIv, gdt, op_irem_n h, stn, isIv, gdt, show lk2 [vI x, vI y, vW 3] 2 = true from rfl, gdt]
  generalize toN (nI x - nI x / nI y * nI y) = t
  rw [show nst [vI x, vI y, vW 3] 2 (vI t) = [vI x, vI y, vI t] from rfl, ldn, show nth [vI x, vI y, vI t] 0 = vI x from rfl, isIv, gdt, ldn, show nth [vI x, vI y, vI t] 1 = vI y from rfl, isIv, gdt, binn, ifn]
theorem fm_run (k x y : Nat) (Ev : Env9) (M : Mem) (h : 1 ≤ y % 4294967296) : runM (k + 1) 335 Ev 466 [vI x, vI y] M = c3 (bi (g_ixor x y)) (bi 0) (c3 (bi (toN (nI x - nI x / nI y * nI y))) (bi 0) (some [((0, 0), Ev, vI ((toN (nI x - nI x / nI y * nI y) + y) % 4294967296), [], [], M, 466, 0)]) (some [((0, 0), Ev, vI (toN (nI x - nI x / nI y * nI y)), [], [], M, 466, 0)]) (some [((0, 0), Ev, vI ((toN (nI x - nI x / nI y * nI y) + y) % 4294967296), [], [], M, 466, 0)])) (some [((0, 0), Ev, vI (toN (nI x - nI x / nI y * nI y)), [], [], M, 466, 0)]) (some [((0, 0), Ev, vI (toN (nI x - nI x / nI y * nI y)), [], [], M, 466, 0)]) := by
  obtain ⟨f, hf⟩ : ∃ f, fuel9 = f + 1 + 1 + 1 := by
    have h9 : 3 ≤ fuel9 := Nat.le_of_ble_eq_true (by decide +kernel)
    generalize fuel9 = z at h9
    exact ⟨z - 3, by omega⟩
  have e : bo_J9_floorMod_7cf53 (runM k) Ev 466 [vI x, vI y] M = gd (Nat.ble 2 3) (runF (runM k) 3 ct_J9_floorMod_7cf53 fuel9 0 Ev 466 0 [vI x, vI y, vW 3] [] M) := by
    unfold bo_J9_floorMod_7cf53
    rw [show (flatL [vI x, vI y]).length = 2 from rfl, show iniL 3 [vI x, vI y] = [vI x, vI y, vW 3] from rfl]
  rw [hR9, b9_335, e, show Nat.ble 2 3 = true from rfl, gdt, hf, fm_0 h, fm_1, fm_2, fm_3, fm_3]
end FM9
