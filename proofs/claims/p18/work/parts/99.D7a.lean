/-! all methods stand in the machine's tree; texts; floorMod -/
noncomputable def bo9 : Bo9 := fun y => tget 9 boTr y
theorem hR9 : ∀ (k y : Nat) (E : Env9) (n : Nat) (as : List AV) (M : Mem), runM (k + 1) y E n as M = bo9 y (runM k) E n as M := fun _ _ _ _ _ _ => rfl
section TX9
variable {Ev : Env9} {Inv : Mem → Prop}
theorem ctr_len {w n : Nat} (hn : n ≤ 1000) (hrun : ∀ (k : Nat) (Ev : Env9) (M : Mem), runM (k + 5) 338 Ev 466 [vW w] M = some [((0, 0), Ev, vI n, [], [], M, 466, 0)]) : ∀ k, 5 ≤ k → CtrOK kd0 sh0 rt0 bd0 Inv Ev (runM k) 338 ([(4, (w : Int), 0)], [], [], [], [((0, 0), (0, (n : Int), (n : Int)), [], [])]) := by
  intro k hk vs M h1 _ _ hT hI
  obtain ⟨k', rfl⟩ : ∃ k', k = k' + 5 := ⟨k - 5, by omega⟩
  cases vs with
  | nil => exact h1.elim
  | cons v vs =>
    cases vs with
    | cons _ _ => exact h1.2.elim
    | nil =>
      have e : v = vW w := h1.1
      subst e
      refine ⟨_, hrun k' Ev M, rfl, rfl, hT, hI, fun _ _ _ _ => rfl, _, List.mem_singleton.mpr rfl, rfl, fun _ => ⟨n, rfl, by omega, ?_⟩, (fun q hq => by cases hq), (fun q hq => by cases hq)⟩
      rw [sg_eq (by omega)]
      exact ⟨Int.le_refl _, Int.le_refl _⟩
theorem ctr_chr {w lo hi mn mx : Nat} (hmx : mx ≤ 1000) (hhi : hi ≤ 1000) (hrun : ∀ i, lo ≤ i → i ≤ hi → ∃ c, mn ≤ c ∧ c ≤ mx ∧ ∀ (k : Nat) (Ev : Env9) (M : Mem), runM (k + 5) 339 Ev 466 [vW w, vI i] M = some [((0, 0), Ev, vI c, [], [], M, 466, 0)]) : ∀ k, 5 ≤ k → CtrOK kd0 sh0 rt0 bd0 Inv Ev (runM k) 339 ([(4, (w : Int), 0), (0, (lo : Int), (hi : Int))], [], [], [], [((0, 0), (0, (mn : Int), (mx : Int)), [], [])]) := by
  intro k hk vs M h1 _ _ hT hI
  obtain ⟨k', rfl⟩ : ∃ k', k = k' + 5 := ⟨k - 5, by omega⟩
  cases vs with
  | nil => exact h1.elim
  | cons v vs =>
    cases vs with
    | nil => exact h1.2.elim
    | cons u vs =>
      cases vs with
      | cons _ _ => exact h1.2.2.elim
      | nil =>
        have e : v = vW w := h1.1
        subst e
        obtain ⟨x, e2, x1, x2, x3⟩ := h1.2.1
        subst e2
        have x2 : (lo : Int) ≤ sg x := x2
        have x3 : sg x ≤ (hi : Int) := x3
        have hx : x ≤ 2147483647 := by unfold sg bi at x2 x3; omega
        rw [sg_eq hx] at x2 x3
        obtain ⟨c, c1, c2, c3⟩ := hrun x (by omega) (by omega)
        refine ⟨_, c3 k' Ev M, rfl, rfl, hT, hI, fun _ _ _ _ => rfl, _, List.mem_singleton.mpr rfl, rfl, fun _ => ⟨c, rfl, by omega, ?_⟩, (fun q hq => by cases hq), (fun q hq => by cases hq)⟩
        rw [sg_eq (by omega)]
        exact ⟨by show (mn : Int) ≤ (c : Int); omega, by show (c : Int) ≤ (mx : Int); omega⟩
end TX9
theorem i32_neg (a : Int32) : a.toInt < 0 ↔ a.toBitVec.msb = true := by
  rw [BitVec.msb_eq_toInt]
  exact ⟨fun h => decide_eq_true h, fun h => of_decide_eq_true h⟩
theorem i32_msb (a : Int32) : a.toBitVec.msb = decide (a.toInt < 0) := by
  cases hm : a.toBitVec.msb with
  | true => exact (decide_eq_true ((i32_neg a).mpr hm)).symm
  | false => exact (decide_eq_false (fun q => by rw [(i32_neg a).mp q] at hm; cases hm)).symm
theorem xor_neg (x y : Nat) : sg (g_ixor x y) < 0 ↔ (decide (sg x < 0) != decide (sg y < 0)) = true := by
  unfold g_ixor
  rw [sg_toN, i32_neg, Int32.toBitVec_xor, BitVec.msb_xor, i32_msb, i32_msb, sg_toInt, sg_toInt]
theorem b9_335 : bo9 335 = bo_J9_floorMod_7cf53 := rfl
theorem b9_338 : bo9 338 = bo_J0_length_8abf5 := rfl
theorem b9_339 : bo9 339 = bo_J0_charAt_5068e := rfl
theorem b9_340 : bo9 340 = bo_J0_coder_7d493 := rfl
theorem b9_341 : bo9 341 = bo_J0_isLatin1_aae02 := rfl
theorem b9_342 : bo9 342 = bo_J0_checkIndex_df160 := rfl
theorem b9_343 : bo9 343 = bo_J1_charAt_3b067 := rfl
theorem b9_344 : bo9 344 = bo_J3_checkIndex_8e157 := rfl
