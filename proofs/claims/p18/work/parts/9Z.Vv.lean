/-! the reference copies rows -/
theorem cqL_453_457 {D a0 b0 : Nat} (ha : a0 + 627 ≤ 627) (hb0 : b0 + 627 ≤ 5016) : ∀ (m k F : Nat) (f : Vw), k + m = 627 → 2 * m + 3 ≤ F → ∃ g, vFn (vM MT0 D) nb_X11_copies F 1 0 [vR 453, vI a0, vR 457, vI b0, vI k] [] f = some ((1, 0), vW 3, g) ∧ (∀ i, k ≤ i → i < 627 → g 457 (b0 + i) = f 453 (a0 + i)) ∧ (∀ i, i < b0 + k ∨ b0 + 627 ≤ i → g 457 i = f 457 i) ∧ ∀ x y, x ≠ 457 → g x y = f x y := by
  intro m
  induction m with
  | zero =>
    intro k F f hk hF
    obtain ⟨F1, rfl⟩ : ∃ F1, F = F1 + 3 := ⟨F - 3, by omega⟩
    exact ⟨f, (by (first | (refine (vge2 (x := k) (y := 627) (by omega) (by omega)).trans ?_) | (refine (vF_g rfl rfl).trans ?_; refine (vF_g rfl rfl).trans ?_; refine (vge2 (x := k) (y := 627) (by omega) (by omega)).trans ?_) | (refine (vF_g rfl rfl).trans ?_; refine (vge2 (x := k) (y := 627) (by omega) (by omega)).trans ?_)); (first | (exact rfl) | (refine (vF_g rfl rfl).trans ?_; refine (vF_g rfl rfl).trans ?_; exact rfl) | (refine (vF_g rfl rfl).trans ?_; refine (vF_g rfl rfl).trans ?_; refine (vF_g rfl rfl).trans ?_; exact rfl) | (refine (vF_g rfl rfl).trans ?_; exact rfl))), fun i a b => by omega, fun _ _ => rfl, fun _ _ _ => rfl⟩
  | succ m ih =>
    intro k F f hk hF
    obtain ⟨F1, rfl⟩ : ∃ F1, F = F1 + 2 := ⟨F - 2, by omega⟩
    have hX : (a0 + k) % 4294967296 = a0 + k := by omega
    have hY : (b0 + k) % 4294967296 = b0 + k := by omega
    have hb : Nat.ble (a0 + k + 1) 627 = true := Nat.ble_eq_true_of_le (by omega)
    have hc : Nat.ble (b0 + k + 1) 5016 = true := Nat.ble_eq_true_of_le (by omega)
    obtain ⟨g, e, h1, h2, h3⟩ := ih (k + 1) F1 (vup f 457 (b0 + k) (f 453 (a0 + k))) (by omega) (by omega)
    refine ⟨g, ?_, fun i a b => ?_, fun i a => (h2 i (by omega)).trans (vup_ne (Or.inr (by omega))), fun x y w => (h3 x y w).trans (vup_ne (Or.inl w))⟩
    · (first | (refine (vlt (x := k) (y := 627) (by decide) (by omega)).trans ?_) | (refine (vF_g rfl rfl).trans ?_; refine (vF_g rfl rfl).trans ?_; refine (vlt (x := k) (y := 627) (by decide) (by omega)).trans ?_) | (refine (vF_g rfl rfl).trans ?_; refine (vlt (x := k) (y := 627) (by decide) (by omega)).trans ?_))
      (first | (refine Eq.trans (b := gd (Nat.ble ((a0 + k) % 4294967296 + 1) 627) (gd (Nat.ble ((b0 + k) % 4294967296 + 1) 5016) (vFn (vM MT0 D) nb_X11_copies F1 1 0 [vR 453, vI a0, vR 457, vI b0, vI ((k + 1) % 4294967296)] [] (vup f 457 ((b0 + k) % 4294967296) (f 453 ((a0 + k) % 4294967296)))))) rfl ?_) | (refine (vF_g rfl rfl).trans ?_; refine (vF_g rfl rfl).trans ?_; refine Eq.trans (b := gd (Nat.ble ((a0 + k) % 4294967296 + 1) 627) (gd (Nat.ble ((b0 + k) % 4294967296 + 1) 5016) (vFn (vM MT0 D) nb_X11_copies F1 1 0 [vR 453, vI a0, vR 457, vI b0, vI ((k + 1) % 4294967296)] [] (vup f 457 ((b0 + k) % 4294967296) (f 453 ((a0 + k) % 4294967296)))))) rfl ?_) | (refine (vF_g rfl rfl).trans ?_; refine Eq.trans (b := gd (Nat.ble ((a0 + k) % 4294967296 + 1) 627) (gd (Nat.ble ((b0 + k) % 4294967296 + 1) 5016) (vFn (vM MT0 D) nb_X11_copies F1 1 0 [vR 453, vI a0, vR 457, vI b0, vI ((k + 1) % 4294967296)] [] (vup f 457 ((b0 + k) % 4294967296) (f 453 ((a0 + k) % 4294967296)))))) rfl ?_))
      rw [hX, hY, hb, hc, Nat.mod_eq_of_lt (show k + 1 < 4294967296 by omega)]
      exact e
    · by_cases r : i = k
      · subst r
        exact (h2 _ (by omega)).trans vup_eq
      · exact (h1 i (by omega) b).trans (vup_ne (Or.inl (by decide)))
theorem v_cq_453_457 {D a0 b0 : Nat} {f : Vw} (ha : a0 + 627 ≤ 627) (hb0 : b0 + 627 ≤ 5016) : ∃ g, vM MT0 (D + 1) 178 [vR 453, vI a0, vR 457, vI b0] f = some ((1, 0), vW 3, g) ∧ (∀ i, i < 627 → g 457 (b0 + i) = f 453 (a0 + i)) ∧ (∀ i, i < b0 ∨ b0 + 627 ≤ i → g 457 i = f 457 i) ∧ ∀ x y, x ≠ 457 → g x y = f x y := by
  obtain ⟨F, hF, go⟩ := vM_at (D := D) (y := 178) (as := [vR 453, vI a0, vR 457, vI b0]) (f := f) rfl rfl rfl rfl
  obtain ⟨g, e, h1, h2, h3⟩ := cqL_453_457 (D := D) ha hb0 627 0 (F + 59) f (by decide) (by omega)
  exact ⟨g, go _ <| (by (first | (refine Eq.trans (b := vFn (vM MT0 D) nb_X11_copies (F + 59) 1 0 [vR 453, vI a0, vR 457, vI b0, vI 0] [] f) rfl ?_) | (refine (vF_g rfl rfl).trans ?_; refine (vF_g rfl rfl).trans ?_; refine Eq.trans (b := vFn (vM MT0 D) nb_X11_copies (F + 59) 1 0 [vR 453, vI a0, vR 457, vI b0, vI 0] [] f) rfl ?_) | (refine (vF_g rfl rfl).trans ?_; refine Eq.trans (b := vFn (vM MT0 D) nb_X11_copies (F + 59) 1 0 [vR 453, vI a0, vR 457, vI b0, vI 0] [] f) rfl ?_)); (first | (exact e) | (refine (vF_g rfl rfl).trans ?_; refine (vF_g rfl rfl).trans ?_; exact e) | (refine (vF_g rfl rfl).trans ?_; exact e))), fun i hi => h1 i (Nat.zero_le i) hi, fun i hi => h2 i (by omega), h3⟩
theorem cqL_455_457 {D a0 b0 : Nat} (ha : a0 + 627 ≤ 627) (hb0 : b0 + 627 ≤ 5016) : ∀ (m k F : Nat) (f : Vw), k + m = 627 → 2 * m + 3 ≤ F → ∃ g, vFn (vM MT0 D) nb_X11_copies F 1 0 [vR 455, vI a0, vR 457, vI b0, vI k] [] f = some ((1, 0), vW 3, g) ∧ (∀ i, k ≤ i → i < 627 → g 457 (b0 + i) = f 455 (a0 + i)) ∧ (∀ i, i < b0 + k ∨ b0 + 627 ≤ i → g 457 i = f 457 i) ∧ ∀ x y, x ≠ 457 → g x y = f x y := by
  intro m
  induction m with
  | zero =>
    intro k F f hk hF
    obtain ⟨F1, rfl⟩ : ∃ F1, F = F1 + 3 := ⟨F - 3, by omega⟩
    exact ⟨f, (by (first | (refine (vge2 (x := k) (y := 627) (by omega) (by omega)).trans ?_) | (refine (vF_g rfl rfl).trans ?_; refine (vF_g rfl rfl).trans ?_; refine (vge2 (x := k) (y := 627) (by omega) (by omega)).trans ?_) | (refine (vF_g rfl rfl).trans ?_; refine (vge2 (x := k) (y := 627) (by omega) (by omega)).trans ?_)); (first | (exact rfl) | (refine (vF_g rfl rfl).trans ?_; refine (vF_g rfl rfl).trans ?_; exact rfl) | (refine (vF_g rfl rfl).trans ?_; refine (vF_g rfl rfl).trans ?_; refine (vF_g rfl rfl).trans ?_; exact rfl) | (refine (vF_g rfl rfl).trans ?_; exact rfl))), fun i a b => by omega, fun _ _ => rfl, fun _ _ _ => rfl⟩
  | succ m ih =>
    intro k F f hk hF
    obtain ⟨F1, rfl⟩ : ∃ F1, F = F1 + 2 := ⟨F - 2, by omega⟩
    have hX : (a0 + k) % 4294967296 = a0 + k := by omega
    have hY : (b0 + k) % 4294967296 = b0 + k := by omega
    have hb : Nat.ble (a0 + k + 1) 627 = true := Nat.ble_eq_true_of_le (by omega)
    have hc : Nat.ble (b0 + k + 1) 5016 = true := Nat.ble_eq_true_of_le (by omega)
    obtain ⟨g, e, h1, h2, h3⟩ := ih (k + 1) F1 (vup f 457 (b0 + k) (f 455 (a0 + k))) (by omega) (by omega)
    refine ⟨g, ?_, fun i a b => ?_, fun i a => (h2 i (by omega)).trans (vup_ne (Or.inr (by omega))), fun x y w => (h3 x y w).trans (vup_ne (Or.inl w))⟩
    · (first | (refine (vlt (x := k) (y := 627) (by decide) (by omega)).trans ?_) | (refine (vF_g rfl rfl).trans ?_; refine (vF_g rfl rfl).trans ?_; refine (vlt (x := k) (y := 627) (by decide) (by omega)).trans ?_) | (refine (vF_g rfl rfl).trans ?_; refine (vlt (x := k) (y := 627) (by decide) (by omega)).trans ?_))
      (first | (refine Eq.trans (b := gd (Nat.ble ((a0 + k) % 4294967296 + 1) 627) (gd (Nat.ble ((b0 + k) % 4294967296 + 1) 5016) (vFn (vM MT0 D) nb_X11_copies F1 1 0 [vR 455, vI a0, vR 457, vI b0, vI ((k + 1) % 4294967296)] [] (vup f 457 ((b0 + k) % 4294967296) (f 455 ((a0 + k) % 4294967296)))))) rfl ?_) | (refine (vF_g rfl rfl).trans ?_; refine (vF_g rfl rfl).trans ?_; refine Eq.trans (b := gd (Nat.ble ((a0 + k) % 4294967296 + 1) 627) (gd (Nat.ble ((b0 + k) % 4294967296 + 1) 5016) (vFn (vM MT0 D) nb_X11_copies F1 1 0 [vR 455, vI a0, vR 457, vI b0, vI ((k + 1) % 4294967296)] [] (vup f 457 ((b0 + k) % 4294967296) (f 455 ((a0 + k) % 4294967296)))))) rfl ?_) | (refine (vF_g rfl rfl).trans ?_; refine Eq.trans (b := gd (Nat.ble ((a0 + k) % 4294967296 + 1) 627) (gd (Nat.ble ((b0 + k) % 4294967296 + 1) 5016) (vFn (vM MT0 D) nb_X11_copies F1 1 0 [vR 455, vI a0, vR 457, vI b0, vI ((k + 1) % 4294967296)] [] (vup f 457 ((b0 + k) % 4294967296) (f 455 ((a0 + k) % 4294967296)))))) rfl ?_))
      rw [hX, hY, hb, hc, Nat.mod_eq_of_lt (show k + 1 < 4294967296 by omega)]
      exact e
    · by_cases r : i = k
      · subst r
        exact (h2 _ (by omega)).trans vup_eq
      · exact (h1 i (by omega) b).trans (vup_ne (Or.inl (by decide)))
theorem v_cq_455_457 {D a0 b0 : Nat} {f : Vw} (ha : a0 + 627 ≤ 627) (hb0 : b0 + 627 ≤ 5016) : ∃ g, vM MT0 (D + 1) 178 [vR 455, vI a0, vR 457, vI b0] f = some ((1, 0), vW 3, g) ∧ (∀ i, i < 627 → g 457 (b0 + i) = f 455 (a0 + i)) ∧ (∀ i, i < b0 ∨ b0 + 627 ≤ i → g 457 i = f 457 i) ∧ ∀ x y, x ≠ 457 → g x y = f x y := by
  obtain ⟨F, hF, go⟩ := vM_at (D := D) (y := 178) (as := [vR 455, vI a0, vR 457, vI b0]) (f := f) rfl rfl rfl rfl
  obtain ⟨g, e, h1, h2, h3⟩ := cqL_455_457 (D := D) ha hb0 627 0 (F + 59) f (by decide) (by omega)
  exact ⟨g, go _ <| (by (first | (refine Eq.trans (b := vFn (vM MT0 D) nb_X11_copies (F + 59) 1 0 [vR 455, vI a0, vR 457, vI b0, vI 0] [] f) rfl ?_) | (refine (vF_g rfl rfl).trans ?_; refine (vF_g rfl rfl).trans ?_; refine Eq.trans (b := vFn (vM MT0 D) nb_X11_copies (F + 59) 1 0 [vR 455, vI a0, vR 457, vI b0, vI 0] [] f) rfl ?_) | (refine (vF_g rfl rfl).trans ?_; refine Eq.trans (b := vFn (vM MT0 D) nb_X11_copies (F + 59) 1 0 [vR 455, vI a0, vR 457, vI b0, vI 0] [] f) rfl ?_)); (first | (exact e) | (refine (vF_g rfl rfl).trans ?_; refine (vF_g rfl rfl).trans ?_; exact e) | (refine (vF_g rfl rfl).trans ?_; exact e))), fun i hi => h1 i (Nat.zero_le i) hi, fun i hi => h2 i (by omega), h3⟩
theorem cqL_457_453 {D a0 b0 : Nat} (ha : a0 + 627 ≤ 5016) (hb0 : b0 + 627 ≤ 627) : ∀ (m k F : Nat) (f : Vw), k + m = 627 → 2 * m + 3 ≤ F → ∃ g, vFn (vM MT0 D) nb_X11_copies F 1 0 [vR 457, vI a0, vR 453, vI b0, vI k] [] f = some ((1, 0), vW 3, g) ∧ (∀ i, k ≤ i → i < 627 → g 453 (b0 + i) = f 457 (a0 + i)) ∧ (∀ i, i < b0 + k ∨ b0 + 627 ≤ i → g 453 i = f 453 i) ∧ ∀ x y, x ≠ 453 → g x y = f x y := by
  intro m
  induction m with
  | zero =>
    intro k F f hk hF
    obtain ⟨F1, rfl⟩ : ∃ F1, F = F1 + 3 := ⟨F - 3, by omega⟩
    exact ⟨f, (by (first | (refine (vge2 (x := k) (y := 627) (by omega) (by omega)).trans ?_) | (refine (vF_g rfl rfl).trans ?_; refine (vF_g rfl rfl).trans ?_; refine (vge2 (x := k) (y := 627) (by omega) (by omega)).trans ?_) | (refine (vF_g rfl rfl).trans ?_; refine (vge2 (x := k) (y := 627) (by omega) (by omega)).trans ?_)); (first | (exact rfl) | (refine (vF_g rfl rfl).trans ?_; refine (vF_g rfl rfl).trans ?_; exact rfl) | (refine (vF_g rfl rfl).trans ?_; refine (vF_g rfl rfl).trans ?_; refine (vF_g rfl rfl).trans ?_; exact rfl) | (refine (vF_g rfl rfl).trans ?_; exact rfl))), fun i a b => by omega, fun _ _ => rfl, fun _ _ _ => rfl⟩
  | succ m ih =>
    intro k F f hk hF
    obtain ⟨F1, rfl⟩ : ∃ F1, F = F1 + 2 := ⟨F - 2, by omega⟩
    have hX : (a0 + k) % 4294967296 = a0 + k := by omega
    have hY : (b0 + k) % 4294967296 = b0 + k := by omega
    have hb : Nat.ble (a0 + k + 1) 5016 = true := Nat.ble_eq_true_of_le (by omega)
    have hc : Nat.ble (b0 + k + 1) 627 = true := Nat.ble_eq_true_of_le (by omega)
    obtain ⟨g, e, h1, h2, h3⟩ := ih (k + 1) F1 (vup f 453 (b0 + k) (f 457 (a0 + k))) (by omega) (by omega)
    refine ⟨g, ?_, fun i a b => ?_, fun i a => (h2 i (by omega)).trans (vup_ne (Or.inr (by omega))), fun x y w => (h3 x y w).trans (vup_ne (Or.inl w))⟩
    · (first | (refine (vlt (x := k) (y := 627) (by decide) (by omega)).trans ?_) | (refine (vF_g rfl rfl).trans ?_; refine (vF_g rfl rfl).trans ?_; refine (vlt (x := k) (y := 627) (by decide) (by omega)).trans ?_) | (refine (vF_g rfl rfl).trans ?_; refine (vlt (x := k) (y := 627) (by decide) (by omega)).trans ?_))
      (first | (refine Eq.trans (b := gd (Nat.ble ((a0 + k) % 4294967296 + 1) 5016) (gd (Nat.ble ((b0 + k) % 4294967296 + 1) 627) (vFn (vM MT0 D) nb_X11_copies F1 1 0 [vR 457, vI a0, vR 453, vI b0, vI ((k + 1) % 4294967296)] [] (vup f 453 ((b0 + k) % 4294967296) (f 457 ((a0 + k) % 4294967296)))))) rfl ?_) | (refine (vF_g rfl rfl).trans ?_; refine (vF_g rfl rfl).trans ?_; refine Eq.trans (b := gd (Nat.ble ((a0 + k) % 4294967296 + 1) 5016) (gd (Nat.ble ((b0 + k) % 4294967296 + 1) 627) (vFn (vM MT0 D) nb_X11_copies F1 1 0 [vR 457, vI a0, vR 453, vI b0, vI ((k + 1) % 4294967296)] [] (vup f 453 ((b0 + k) % 4294967296) (f 457 ((a0 + k) % 4294967296)))))) rfl ?_) | (refine (vF_g rfl rfl).trans ?_; refine Eq.trans (b := gd (Nat.ble ((a0 + k) % 4294967296 + 1) 5016) (gd (Nat.ble ((b0 + k) % 4294967296 + 1) 627) (vFn (vM MT0 D) nb_X11_copies F1 1 0 [vR 457, vI a0, vR 453, vI b0, vI ((k + 1) % 4294967296)] [] (vup f 453 ((b0 + k) % 4294967296) (f 457 ((a0 + k) % 4294967296)))))) rfl ?_))
      rw [hX, hY, hb, hc, Nat.mod_eq_of_lt (show k + 1 < 4294967296 by omega)]
      exact e
    · by_cases r : i = k
      · subst r
        exact (h2 _ (by omega)).trans vup_eq
      · exact (h1 i (by omega) b).trans (vup_ne (Or.inl (by decide)))
theorem v_cq_457_453 {D a0 b0 : Nat} {f : Vw} (ha : a0 + 627 ≤ 5016) (hb0 : b0 + 627 ≤ 627) : ∃ g, vM MT0 (D + 1) 178 [vR 457, vI a0, vR 453, vI b0] f = some ((1, 0), vW 3, g) ∧ (∀ i, i < 627 → g 453 (b0 + i) = f 457 (a0 + i)) ∧ (∀ i, i < b0 ∨ b0 + 627 ≤ i → g 453 i = f 453 i) ∧ ∀ x y, x ≠ 453 → g x y = f x y := by
  obtain ⟨F, hF, go⟩ := vM_at (D := D) (y := 178) (as := [vR 457, vI a0, vR 453, vI b0]) (f := f) rfl rfl rfl rfl
  obtain ⟨g, e, h1, h2, h3⟩ := cqL_457_453 (D := D) ha hb0 627 0 (F + 59) f (by decide) (by omega)
  exact ⟨g, go _ <| (by (first | (refine Eq.trans (b := vFn (vM MT0 D) nb_X11_copies (F + 59) 1 0 [vR 457, vI a0, vR 453, vI b0, vI 0] [] f) rfl ?_) | (refine (vF_g rfl rfl).trans ?_; refine (vF_g rfl rfl).trans ?_; refine Eq.trans (b := vFn (vM MT0 D) nb_X11_copies (F + 59) 1 0 [vR 457, vI a0, vR 453, vI b0, vI 0] [] f) rfl ?_) | (refine (vF_g rfl rfl).trans ?_; refine Eq.trans (b := vFn (vM MT0 D) nb_X11_copies (F + 59) 1 0 [vR 457, vI a0, vR 453, vI b0, vI 0] [] f) rfl ?_)); (first | (exact e) | (refine (vF_g rfl rfl).trans ?_; refine (vF_g rfl rfl).trans ?_; exact e) | (refine (vF_g rfl rfl).trans ?_; exact e))), fun i hi => h1 i (Nat.zero_le i) hi, fun i hi => h2 i (by omega), h3⟩
theorem cqL_453_454 {D a0 b0 : Nat} (ha : a0 + 627 ≤ 627) (hb0 : b0 + 627 ≤ 627) : ∀ (m k F : Nat) (f : Vw), k + m = 627 → 2 * m + 3 ≤ F → ∃ g, vFn (vM MT0 D) nb_X11_copies F 1 0 [vR 453, vI a0, vR 454, vI b0, vI k] [] f = some ((1, 0), vW 3, g) ∧ (∀ i, k ≤ i → i < 627 → g 454 (b0 + i) = f 453 (a0 + i)) ∧ (∀ i, i < b0 + k ∨ b0 + 627 ≤ i → g 454 i = f 454 i) ∧ ∀ x y, x ≠ 454 → g x y = f x y := by
  intro m
  induction m with
  | zero =>
    intro k F f hk hF
    obtain ⟨F1, rfl⟩ : ∃ F1, F = F1 + 3 := ⟨F - 3, by omega⟩
    exact ⟨f, (by (first | (refine (vge2 (x := k) (y := 627) (by omega) (by omega)).trans ?_) | (refine (vF_g rfl rfl).trans ?_; refine (vF_g rfl rfl).trans ?_; refine (vge2 (x := k) (y := 627) (by omega) (by omega)).trans ?_) | (refine (vF_g rfl rfl).trans ?_; refine (vge2 (x := k) (y := 627) (by omega) (by omega)).trans ?_)); (first | (exact rfl) | (refine (vF_g rfl rfl).trans ?_; refine (vF_g rfl rfl).trans ?_; exact rfl) | (refine (vF_g rfl rfl).trans ?_; refine (vF_g rfl rfl).trans ?_; refine (vF_g rfl rfl).trans ?_; exact rfl) | (refine (vF_g rfl rfl).trans ?_; exact rfl))), fun i a b => by omega, fun _ _ => rfl, fun _ _ _ => rfl⟩
  | succ m ih =>
    intro k F f hk hF
    obtain ⟨F1, rfl⟩ : ∃ F1, F = F1 + 2 := ⟨F - 2, by omega⟩
    have hX : (a0 + k) % 4294967296 = a0 + k := by omega
    have hY : (b0 + k) % 4294967296 = b0 + k := by omega
    have hb : Nat.ble (a0 + k + 1) 627 = true := Nat.ble_eq_true_of_le (by omega)
    have hc : Nat.ble (b0 + k + 1) 627 = true := Nat.ble_eq_true_of_le (by omega)
    obtain ⟨g, e, h1, h2, h3⟩ := ih (k + 1) F1 (vup f 454 (b0 + k) (f 453 (a0 + k))) (by omega) (by omega)
    refine ⟨g, ?_, fun i a b => ?_, fun i a => (h2 i (by omega)).trans (vup_ne (Or.inr (by omega))), fun x y w => (h3 x y w).trans (vup_ne (Or.inl w))⟩
    · (first | (refine (vlt (x := k) (y := 627) (by decide) (by omega)).trans ?_) | (refine (vF_g rfl rfl).trans ?_; refine (vF_g rfl rfl).trans ?_; refine (vlt (x := k) (y := 627) (by decide) (by omega)).trans ?_) | (refine (vF_g rfl rfl).trans ?_; refine (vlt (x := k) (y := 627) (by decide) (by omega)).trans ?_))
      (first | (refine Eq.trans (b := gd (Nat.ble ((a0 + k) % 4294967296 + 1) 627) (gd (Nat.ble ((b0 + k) % 4294967296 + 1) 627) (vFn (vM MT0 D) nb_X11_copies F1 1 0 [vR 453, vI a0, vR 454, vI b0, vI ((k + 1) % 4294967296)] [] (vup f 454 ((b0 + k) % 4294967296) (f 453 ((a0 + k) % 4294967296)))))) rfl ?_) | (refine (vF_g rfl rfl).trans ?_; refine (vF_g rfl rfl).trans ?_; refine Eq.trans (b := gd (Nat.ble ((a0 + k) % 4294967296 + 1) 627) (gd (Nat.ble ((b0 + k) % 4294967296 + 1) 627) (vFn (vM MT0 D) nb_X11_copies F1 1 0 [vR 453, vI a0, vR 454, vI b0, vI ((k + 1) % 4294967296)] [] (vup f 454 ((b0 + k) % 4294967296) (f 453 ((a0 + k) % 4294967296)))))) rfl ?_) | (refine (vF_g rfl rfl).trans ?_; refine Eq.trans (b := gd (Nat.ble ((a0 + k) % 4294967296 + 1) 627) (gd (Nat.ble ((b0 + k) % 4294967296 + 1) 627) (vFn (vM MT0 D) nb_X11_copies F1 1 0 [vR 453, vI a0, vR 454, vI b0, vI ((k + 1) % 4294967296)] [] (vup f 454 ((b0 + k) % 4294967296) (f 453 ((a0 + k) % 4294967296)))))) rfl ?_))
      rw [hX, hY, hb, hc, Nat.mod_eq_of_lt (show k + 1 < 4294967296 by omega)]
      exact e
    · by_cases r : i = k
      · subst r
        exact (h2 _ (by omega)).trans vup_eq
      · exact (h1 i (by omega) b).trans (vup_ne (Or.inl (by decide)))
theorem v_cq_453_454 {D a0 b0 : Nat} {f : Vw} (ha : a0 + 627 ≤ 627) (hb0 : b0 + 627 ≤ 627) : ∃ g, vM MT0 (D + 1) 178 [vR 453, vI a0, vR 454, vI b0] f = some ((1, 0), vW 3, g) ∧ (∀ i, i < 627 → g 454 (b0 + i) = f 453 (a0 + i)) ∧ (∀ i, i < b0 ∨ b0 + 627 ≤ i → g 454 i = f 454 i) ∧ ∀ x y, x ≠ 454 → g x y = f x y := by
  obtain ⟨F, hF, go⟩ := vM_at (D := D) (y := 178) (as := [vR 453, vI a0, vR 454, vI b0]) (f := f) rfl rfl rfl rfl
  obtain ⟨g, e, h1, h2, h3⟩ := cqL_453_454 (D := D) ha hb0 627 0 (F + 59) f (by decide) (by omega)
  exact ⟨g, go _ <| (by (first | (refine Eq.trans (b := vFn (vM MT0 D) nb_X11_copies (F + 59) 1 0 [vR 453, vI a0, vR 454, vI b0, vI 0] [] f) rfl ?_) | (refine (vF_g rfl rfl).trans ?_; refine (vF_g rfl rfl).trans ?_; refine Eq.trans (b := vFn (vM MT0 D) nb_X11_copies (F + 59) 1 0 [vR 453, vI a0, vR 454, vI b0, vI 0] [] f) rfl ?_) | (refine (vF_g rfl rfl).trans ?_; refine Eq.trans (b := vFn (vM MT0 D) nb_X11_copies (F + 59) 1 0 [vR 453, vI a0, vR 454, vI b0, vI 0] [] f) rfl ?_)); (first | (exact e) | (refine (vF_g rfl rfl).trans ?_; refine (vF_g rfl rfl).trans ?_; exact e) | (refine (vF_g rfl rfl).trans ?_; exact e))), fun i hi => h1 i (Nat.zero_le i) hi, fun i hi => h2 i (by omega), h3⟩
theorem cqL_454_453 {D a0 b0 : Nat} (ha : a0 + 627 ≤ 627) (hb0 : b0 + 627 ≤ 627) : ∀ (m k F : Nat) (f : Vw), k + m = 627 → 2 * m + 3 ≤ F → ∃ g, vFn (vM MT0 D) nb_X11_copies F 1 0 [vR 454, vI a0, vR 453, vI b0, vI k] [] f = some ((1, 0), vW 3, g) ∧ (∀ i, k ≤ i → i < 627 → g 453 (b0 + i) = f 454 (a0 + i)) ∧ (∀ i, i < b0 + k ∨ b0 + 627 ≤ i → g 453 i = f 453 i) ∧ ∀ x y, x ≠ 453 → g x y = f x y := by
  intro m
  induction m with
  | zero =>
    intro k F f hk hF
    obtain ⟨F1, rfl⟩ : ∃ F1, F = F1 + 3 := ⟨F - 3, by omega⟩
    exact ⟨f, (by (first | (refine (vge2 (x := k) (y := 627) (by omega) (by omega)).trans ?_) | (refine (vF_g rfl rfl).trans ?_; refine (vF_g rfl rfl).trans ?_; refine (vge2 (x := k) (y := 627) (by omega) (by omega)).trans ?_) | (refine (vF_g rfl rfl).trans ?_; refine (vge2 (x := k) (y := 627) (by omega) (by omega)).trans ?_)); (first | (exact rfl) | (refine (vF_g rfl rfl).trans ?_; refine (vF_g rfl rfl).trans ?_; exact rfl) | (refine (vF_g rfl rfl).trans ?_; refine (vF_g rfl rfl).trans ?_; refine (vF_g rfl rfl).trans ?_; exact rfl) | (refine (vF_g rfl rfl).trans ?_; exact rfl))), fun i a b => by omega, fun _ _ => rfl, fun _ _ _ => rfl⟩
  | succ m ih =>
    intro k F f hk hF
    obtain ⟨F1, rfl⟩ : ∃ F1, F = F1 + 2 := ⟨F - 2, by omega⟩
    have hX : (a0 + k) % 4294967296 = a0 + k := by omega
    have hY : (b0 + k) % 4294967296 = b0 + k := by omega
    have hb : Nat.ble (a0 + k + 1) 627 = true := Nat.ble_eq_true_of_le (by omega)
    have hc : Nat.ble (b0 + k + 1) 627 = true := Nat.ble_eq_true_of_le (by omega)
    obtain ⟨g, e, h1, h2, h3⟩ := ih (k + 1) F1 (vup f 453 (b0 + k) (f 454 (a0 + k))) (by omega) (by omega)
    refine ⟨g, ?_, fun i a b => ?_, fun i a => (h2 i (by omega)).trans (vup_ne (Or.inr (by omega))), fun x y w => (h3 x y w).trans (vup_ne (Or.inl w))⟩
    · (first | (refine (vlt (x := k) (y := 627) (by decide) (by omega)).trans ?_) | (refine (vF_g rfl rfl).trans ?_; refine (vF_g rfl rfl).trans ?_; refine (vlt (x := k) (y := 627) (by decide) (by omega)).trans ?_) | (refine (vF_g rfl rfl).trans ?_; refine (vlt (x := k) (y := 627) (by decide) (by omega)).trans ?_))
      (first | (refine Eq.trans (b := gd (Nat.ble ((a0 + k) % 4294967296 + 1) 627) (gd (Nat.ble ((b0 + k) % 4294967296 + 1) 627) (vFn (vM MT0 D) nb_X11_copies F1 1 0 [vR 454, vI a0, vR 453, vI b0, vI ((k + 1) % 4294967296)] [] (vup f 453 ((b0 + k) % 4294967296) (f 454 ((a0 + k) % 4294967296)))))) rfl ?_) | (refine (vF_g rfl rfl).trans ?_; refine (vF_g rfl rfl).trans ?_; refine Eq.trans (b := gd (Nat.ble ((a0 + k) % 4294967296 + 1) 627) (gd (Nat.ble ((b0 + k) % 4294967296 + 1) 627) (vFn (vM MT0 D) nb_X11_copies F1 1 0 [vR 454, vI a0, vR 453, vI b0, vI ((k + 1) % 4294967296)] [] (vup f 453 ((b0 + k) % 4294967296) (f 454 ((a0 + k) % 4294967296)))))) rfl ?_) | (refine (vF_g rfl rfl).trans ?_; refine Eq.trans (b := gd (Nat.ble ((a0 + k) % 4294967296 + 1) 627) (gd (Nat.ble ((b0 + k) % 4294967296 + 1) 627) (vFn (vM MT0 D) nb_X11_copies F1 1 0 [vR 454, vI a0, vR 453, vI b0, vI ((k + 1) % 4294967296)] [] (vup f 453 ((b0 + k) % 4294967296) (f 454 ((a0 + k) % 4294967296)))))) rfl ?_))
      rw [hX, hY, hb, hc, Nat.mod_eq_of_lt (show k + 1 < 4294967296 by omega)]
      exact e
    · by_cases r : i = k
      · subst r
        exact (h2 _ (by omega)).trans vup_eq
      · exact (h1 i (by omega) b).trans (vup_ne (Or.inl (by decide)))
theorem v_cq_454_453 {D a0 b0 : Nat} {f : Vw} (ha : a0 + 627 ≤ 627) (hb0 : b0 + 627 ≤ 627) : ∃ g, vM MT0 (D + 1) 178 [vR 454, vI a0, vR 453, vI b0] f = some ((1, 0), vW 3, g) ∧ (∀ i, i < 627 → g 453 (b0 + i) = f 454 (a0 + i)) ∧ (∀ i, i < b0 ∨ b0 + 627 ≤ i → g 453 i = f 453 i) ∧ ∀ x y, x ≠ 453 → g x y = f x y := by
  obtain ⟨F, hF, go⟩ := vM_at (D := D) (y := 178) (as := [vR 454, vI a0, vR 453, vI b0]) (f := f) rfl rfl rfl rfl
  obtain ⟨g, e, h1, h2, h3⟩ := cqL_454_453 (D := D) ha hb0 627 0 (F + 59) f (by decide) (by omega)
  exact ⟨g, go _ <| (by (first | (refine Eq.trans (b := vFn (vM MT0 D) nb_X11_copies (F + 59) 1 0 [vR 454, vI a0, vR 453, vI b0, vI 0] [] f) rfl ?_) | (refine (vF_g rfl rfl).trans ?_; refine (vF_g rfl rfl).trans ?_; refine Eq.trans (b := vFn (vM MT0 D) nb_X11_copies (F + 59) 1 0 [vR 454, vI a0, vR 453, vI b0, vI 0] [] f) rfl ?_) | (refine (vF_g rfl rfl).trans ?_; refine Eq.trans (b := vFn (vM MT0 D) nb_X11_copies (F + 59) 1 0 [vR 454, vI a0, vR 453, vI b0, vI 0] [] f) rfl ?_)); (first | (exact e) | (refine (vF_g rfl rfl).trans ?_; refine (vF_g rfl rfl).trans ?_; exact e) | (refine (vF_g rfl rfl).trans ?_; exact e))), fun i hi => h1 i (Nat.zero_le i) hi, fun i hi => h2 i (by omega), h3⟩
