section
/-! the reference copies rows -/
theorem cqL_453_457 {D a0 b0 : Nat} (ha : a0 + 627 ≤ 627) (hb0 : b0 + 627 ≤ 5016) : ∀ (m k F : Nat) (f : Vw), k + m = 627 → 2 * m + 3 ≤ F → ∃ g, vFn (vM MT0 D) nb_X11_copies F 1 0 [vR 453, vI a0, vR 457, vI b0, vI k] [] f = some ((1, 0), vW 3, g) ∧ (∀ i, k ≤ i → i < 627 → g 457 (b0 + i) = f 453 (a0 + i)) ∧ (∀ i, i < b0 + k ∨ b0 + 627 ≤ i → g 457 i = f 457 i) ∧ ∀ x y, x ≠ 457 → g x y = f x y := by
  intro m
  induction m with
  | zero =>
    intro k F f hk hF
    obtain ⟨F1, rfl⟩ : ∃ F1, F = F1 + 3 := ⟨F - 3, by omega⟩
    exact ⟨f, (by (first | (refine (vge2 (x := k) (y := 627) (by omega) (by omega)).trans ?_) | (refine (vF_g rfl rfl).trans ?_; refine (vF_g rfl rfl).trans ?_; refine (vge2 (x := k) (y := 627) (by omega) (by omega)).trans ?_) | (refine (vF_g rfl rfl).trans ?_; refine (vge2 (x := k) (y := 627) (by omega) (by omega)).trans ?_)); (first | (exact rfl) | (refine (vF_g rfl rfl).trans ?_; refine (vF_g rfl rfl).trans ?_; exact rfl) | (refine (vF_g rfl rfl).trans ?_; refine (vF_g rfl rfl).trans ?_; refine (vF_g rfl rfl).trans ?_; exact rfl) | (refine (vF_g rfl rfl).trans ?_; exact rfl))), fun i a b => by omega, fun _ _ => rfl, fun _ _ _ => rfl⟩
  | succ m ih =>
    intro k F f hk hF
    obtain ⟨F1, rfl⟩ : ∃ F1, F = F1 + 2 := ⟨F - 2, by omega⟩
    have hX : (a0 + k) % 4294967296 = a0 + k := by omega
    have hY : (b0 + k) % 4294967296 = b0 + k := by omega
    have hb : Nat.ble (a0 + k + 1) 627 = true := Nat.ble_eq_true_of_le (by omega)
    have hc : Nat.ble (b0 + k + 1) 5016 = true := Nat.ble_eq_true_of_le (by omega)
    obtain ⟨g, e, h1, h2, h3⟩ := ih (k + 1) F1 (vup f 457 (b0 + k) (f 453 (a0 + k))) (by omega) (by omega)
    refine ⟨g, ?_, fun i a b => ?_, fun i a => (h2 i (by omega)).trans (vup_ne (Or.inr (by omega))), fun x y w => (h3 x y w).trans (vup_ne (Or.inl w))⟩
    · (first | (refine (vlt (x := k) (y := 627) (by decide) (by omega)).trans ?_) | (refine (vF_g rfl rfl).trans ?_; refine (vF_g rfl rfl).trans ?_; refine (vlt (x := k) (y := 627) (by decide) (by omega)).trans ?_) | (refine (vF_g rfl rfl).trans ?_; refine (vlt (x := k) (y := 627) (by decide) (by omega)).trans ?_))
      (first | (refine Eq.trans (b := gd (Nat.ble ((a0 + k) % 4294967296 + 1) 627) (gd (Nat.ble ((b0 + k) % 4294967296 + 1) 5016) (vFn (vM MT0 D) nb_X11_copies F1 1 0 [vR 453, vI a0, vR 457, vI b0, vI ((k + 1) % 4294967296)] [] (vup f 457 ((b0 + k) % 4294967296) (f 453 ((a0 + k) % 4294967296)))))) rfl ?_) | (refine (vF_g rfl rfl).trans ?_; refine (vF_g rfl rfl).trans ?_; refine Eq.trans (b := gd (Nat.ble ((a0 + k) % 4294967296 + 1) 627) (gd (Nat.ble ((b0 + k) % 4294967296 + 1) 5016) (vFn (vM MT0 D) nb_X11_copies F1 1 0 [vR 453, vI a0, vR 457, vI b0, vI ((k + 1) % 4294967296)] [] (vup f 457 ((b0 + k) % 4294967296) (f 453 ((a0 + k) % 4294967296)))))) rfl ?_) | (refine (vF_g rfl rfl).trans ?_; refine Eq.trans (b := gd (Nat.ble ((a0 + k) % 4294967296 + 1) 627) (gd (Nat.ble ((b0 + k) % 4294967296 + 1) 5016) (vFn (vM MT0 D) nb_X11_copies F1 1 0 [vR 453, vI a0, vR 457, vI b0, vI ((k + 1) % 4294967296)] [] (vup f 457 ((b0 + k) % 4294967296) (f 453 ((a0 + k) % 4294967296)))))) rfl ?_))
      rw [hX, hY, hb, hc, Nat.mod_eq_of_lt (show k + 1 < 4294967296 by omega)]
      exact e
    · by_cases r : i = k
      · subst r
        exact (h2 _ (by omega)).trans vup_eq
      · exact (h1 i (by omega) b).trans (vup_ne (Or.inl (by decide)))
theorem v_cq_453_457 {D a0 b0 : Nat} {f : Vw} (ha : a0 + 627 ≤ 627) (hb0 : b0 + 627 ≤ 5016) : ∃ g, vM MT0 (D + 1) 178 [vR 453, vI a0, vR 457, vI b0] f = some ((1, 0), vW 3, g) ∧ (∀ i, i < 627 → g 457 (b0 + i) = f 453 (a0 + i)) ∧ (∀ i, i < b0 ∨ b0 + 627 ≤ i → g 457 i = f 457 i) ∧ ∀ x y, x ≠ 457 → g x y = f x y := by
  obtain ⟨F, hF, go⟩ := vM_at (D := D) (y := 178) (as := [vR 453, vI a0, vR 457, vI b0]) (f := f) rfl rfl rfl rfl
  obtain ⟨g, e, h1, h2, h3⟩ := cqL_453_457 (D := D) ha hb0 627 0 (F + 59) f (by decide) (by omega)
  exact ⟨g, go _ <| (by (first | (refine Eq.trans (b := vFn (vM MT0 D) nb_X11_copies (F + 59) 1 0 [vR 453, vI a0, vR 457, vI b0, vI 0] [] f) rfl ?_) | (refine (vF_g rfl rfl).trans ?_; refine (vF_g rfl rfl).trans ?_; refine Eq.trans (b := vFn (vM MT0 D) nb_X11_copies (F + 59) 1 0 [vR 453, vI a0, vR 457, vI b0, vI 0] [] f) rfl ?_) | (refine (vF_g rfl rfl).trans ?_; refine Eq.trans (b := vFn (vM MT0 D) nb_X11_copies (F + 59) 1 0 [vR 453, vI a0, vR 457, vI b0, vI 0] [] f) rfl ?_)); (first | (exact e) | (refine (vF_g rfl rfl).trans ?_; refine (vF_g rfl rfl).trans ?_; exact e) | (refine (vF_g rfl rfl).trans ?_; exact e))), fun i hi => h1 i (Nat.zero_le i) hi, fun i hi => h2 i (by omega), h3⟩
theorem cqL_455_457 {D a0 b0 : Nat} (ha : a0 + 627 ≤ 627) (hb0 : b0 + 627 ≤ 5016) : ∀ (m k F : Nat) (f : Vw), k + m = 627 → 2 * m + 3 ≤ F → ∃ g, vFn (vM MT0 D) nb_X11_copies F 1 0 [vR 455, vI a0, vR 457, vI b0, vI k] [] f = some ((1, 0), vW 3, g) ∧ (∀ i, k ≤ i → i < 627 → g 457 (b0 + i) = f 455 (a0 + i)) ∧ (∀ i, i < b0 + k ∨ b0 + 627 ≤ i → g 457 i = f 457 i) ∧ ∀ x y, x ≠ 457 → g x y = f x y := by
  intro m
  induction m with
  | zero =>
    intro k F f hk hF
    obtain ⟨F1, rfl⟩ : ∃ F1, F = F1 + 3 := ⟨F - 3, by omega⟩
    exact ⟨f, (by (first | (refine (vge2 (x := k) (y := 627) (by omega) (by omega)).trans ?_) | (refine (vF_g rfl rfl).trans ?_; refine (vF_g rfl rfl).trans ?_; refine (vge2 (x := k) (y := 627) (by omega) (by omega)).trans ?_) | (refine (vF_g rfl rfl).trans ?_; refine (vge2 (x := k) (y := 627) (by omega) (by omega)).trans ?_)); (first | (exact rfl) | (refine (vF_g rfl rfl).trans ?_; refine (vF_g rfl rfl).trans ?_; exact rfl) | (refine (vF_g rfl rfl).trans ?_; refine (vF_g rfl rfl).trans ?_; refine (vF_g rfl rfl).trans ?_; exact rfl) | (refine (vF_g rfl rfl).trans ?_; exact rfl))), fun i a b => by omega, fun _ _ => rfl, fun _ _ _ => rfl⟩
  | succ m ih =>
    intro k F f hk hF
    obtain ⟨F1, rfl⟩ : ∃ F1, F = F1 + 2 := ⟨F - 2, by omega⟩
    have hX : (a0 + k) % 4294967296 = a0 + k := by omega
    have hY : (b0 + k) % 4294967296 = b0 + k := by omega
    have hb : Nat.ble (a0 + k + 1) 627 = true := Nat.ble_eq_true_of_le (by omega)
    have hc : Nat.ble (b0 + k + 1) 5016 = true := Nat.ble_eq_true_of_le (by omega)
    obtain ⟨g, e, h1, h2, h3⟩ := ih (k + 1) F1 (vup f 457 (b0 + k) (f 455 (a0 + k))) (by omega) (by omega)
    refine ⟨g, ?_, fun i a b => ?_, fun i a => (h2 i (by omega)).trans (vup_ne (Or.inr (by omega))), fun x y w => (h3 x y w).trans (vup_ne (Or.inl w))⟩
    · (first | (refine (vlt (x := k) (y := 627) (by decide) (by omega)).trans ?_) | (refine (vF_g rfl rfl).trans ?_; refine (vF_g rfl rfl).trans ?_; refine (vlt (x := k) (y := 627) (by decide) (by omega)).trans ?_) | (refine (vF_g rfl rfl).trans ?_; refine (vlt (x := k) (y := 627) (by decide) (by omega)).trans ?_))
      (first | (refine Eq.trans (b := gd (Nat.ble ((a0 + k) % 4294967296 + 1) 627) (gd (Nat.ble ((b0 + k) % 4294967296 + 1) 5016) (vFn (vM MT0 D) nb_X11_copies F1 1 0 [vR 455, vI a0, vR 457, vI b0, vI ((k + 1) % 4294967296)] [] (vup f 457 ((b0 + k) % 4294967296) (f 455 ((a0 + k) % 4294967296)))))) rfl ?_) | (refine (vF_g rfl rfl).trans ?_; refine (vF_g rfl rfl).trans ?_; refine Eq.trans (b := gd (Nat.ble ((a0 + k) % 4294967296 + 1) 627) (gd (Nat.ble ((b0 + k) % 4294967296 + 1) 5016) (vFn (vM MT0 D) nb_X11_copies F1 1 0 [vR 455, vI a0, vR 457, vI b0, vI ((k + 1) % 4294967296)] [] (vup f 457 ((b0 + k) % 4294967296) (f 455 ((a0 + k) % 4294967296)))))) rfl ?_) | (refine (vF_g rfl rfl).trans ?_; refine Eq.trans (b := gd (Nat.ble ((a0 + k) % 4294967296 + 1) 627) (gd (Nat.ble ((b0 + k) % 4294967296 + 1) 5016) (vFn (vM MT0 D) nb_X11_copies F1 1 0 [vR 455, vI a0, vR 457, vI b0, vI ((k + 1) % 4294967296)] [] (vup f 457 ((b0 + k) % 4294967296) (f 455 ((a0 + k) % 4294967296)))))) rfl ?_))
      rw [hX, hY, hb, hc, Nat.mod_eq_of_lt (show k + 1 < 4294967296 by omega)]
      exact e
    · by_cases r : i = k
      · subst r
        exact (h2 _ (by omega)).trans vup_eq
      · exact (h1 i (by omega) b).trans (vup_ne (Or.inl (by decide)))
theorem v_cq_455_457 {D a0 b0 : Nat} {f : Vw} (ha : a0 + 627 ≤ 627) (hb0 : b0 + 627 ≤ 5016) : ∃ g, vM MT0 (D + 1) 178 [vR 455, vI a0, vR 457, vI b0] f = some ((1, 0), vW 3, g) ∧ (∀ i, i < 627 → g 457 (b0 + i) = f 455 (a0 + i)) ∧ (∀ i, i < b0 ∨ b0 + 627 ≤ i → g 457 i = f 457 i) ∧ ∀ x y, x ≠ 457 → g x y = f x y := by
  obtain ⟨F, hF, go⟩ := vM_at (D := D) (y := 178) (as := [vR 455, vI a0, vR 457, vI b0]) (f := f) rfl rfl rfl rfl
  obtain ⟨g, e, h1, h2, h3⟩ := cqL_455_457 (D := D) ha hb0 627 0 (F + 59) f (by decide) (by omega)
  exact ⟨g, go _ <| (by (first | (refine Eq.trans (b := vFn (vM MT0 D) nb_X11_copies (F + 59) 1 0 [vR 455, vI a0, vR 457, vI b0, vI 0] [] f) rfl ?_) | (refine (vF_g rfl rfl).trans ?_; refine (vF_g rfl rfl).trans ?_; refine Eq.trans (b := vFn (vM MT0 D) nb_X11_copies (F + 59) 1 0 [vR 455, vI a0, vR 457, vI b0, vI 0] [] f) rfl ?_) | (refine (vF_g rfl rfl).trans ?_; refine Eq.trans (b := vFn (vM MT0 D) nb_X11_copies (F + 59) 1 0 [vR 455, vI a0, vR 457, vI b0, vI 0] [] f) rfl ?_)); (first | (exact e) | (refine (vF_g rfl rfl).trans ?_; refine (vF_g rfl rfl).trans ?_; exact e) | (refine (vF_g rfl rfl).trans ?_; exact e))), fun i hi => h1 i (Nat.zero_le i) hi, fun i hi => h2 i (by omega), h3⟩
theorem cqL_457_453 {D a0 b0 : Nat} (ha : a0 + 627 ≤ 5016) (hb0 : b0 + 627 ≤ 627) : ∀ (m k F : Nat) (f : Vw), k + m = 627 → 2 * m + 3 ≤ F → ∃ g, vFn (vM MT0 D) nb_X11_copies F 1 0 [vR 457, vI a0, vR 453, vI b0, vI k] [] f = some ((1, 0), vW 3, g) ∧ (∀ i, k ≤ i → i < 627 → g 453 (b0 + i) = f 457 (a0 + i)) ∧ (∀ i, i < b0 + k ∨ b0 + 627 ≤ i → g 453 i = f 453 i) ∧ ∀ x y, x ≠ 453 → g x y = f x y := by
  intro m
  induction m with
  | zero =>
    intro k F f hk hF
    obtain ⟨F1, rfl⟩ : ∃ F1, F = F1 + 3 := ⟨F - 3, by omega⟩
    exact ⟨f, (by (first | (refine (vge2 (x := k) (y := 627) (by omega) (by omega)).trans ?_) | (refine (vF_g rfl rfl).trans ?_; refine (vF_g rfl rfl).trans ?_; refine (vge2 (x := k) (y := 627) (by omega) (by omega)).trans ?_) | (refine (vF_g rfl rfl).trans ?_; refine (vge2 (x := k) (y := 627) (by omega) (by omega)).trans ?_)); (first | (exact rfl) | (refine (vF_g rfl rfl).trans ?_; refine (vF_g rfl rfl).trans ?_; exact rfl) | (refine (vF_g rfl rfl).trans ?_; refine (vF_g rfl rfl).trans ?_; refine (vF_g rfl rfl).trans ?_; exact rfl) | (refine (vF_g rfl rfl).trans ?_; exact rfl))), fun i a b => by omega, fun _ _ => rfl, fun _ _ _ => rfl⟩
  | succ m ih =>
    intro k F f hk hF
    obtain ⟨F1, rfl⟩ : ∃ F1, F = F1 + 2 := ⟨F - 2, by omega⟩
    have hX : (a0 + k) % 4294967296 = a0 + k := by omega
    have hY : (b0 + k) % 4294967296 = b0 + k := by omega
    have hb : Nat.ble (a0 + k + 1) 5016 = true := Nat.ble_eq_true_of_le (by omega)
    have hc : Nat.ble (b0 + k + 1) 627 = true := Nat.ble_eq_true_of_le (by omega)
    obtain ⟨g, e, h1, h2, h3⟩ := ih (k + 1) F1 (vup f 453 (b0 + k) (f 457 (a0 + k))) (by omega) (by omega)
    refine ⟨g, ?_, fun i a b => ?_, fun i a => (h2 i (by omega)).trans (vup_ne (Or.inr (by omega))), fun x y w => (h3 x y w).trans (vup_ne (Or.inl w))⟩
    · (first | (refine (vlt (x := k) (y := 627) (by decide) (by omega)).trans ?_) | (refine (vF_g rfl rfl).trans ?_; refine (vF_g rfl rfl).trans ?_; refine (vlt (x := k) (y := 627) (by decide) (by omega)).trans ?_) | (refine (vF_g rfl rfl).trans ?_; refine (vlt (x := k) (y := 627) (by decide) (by omega)).trans ?_))
      (first | (refine Eq.trans (b := gd (Nat.ble ((a0 + k) % 4294967296 + 1) 5016) (gd (Nat.ble ((b0 + k) % 4294967296 + 1) 627) (vFn (vM MT0 D) nb_X11_copies F1 1 0 [vR 457, vI a0, vR 453, vI b0, vI ((k + 1) % 4294967296)] [] (vup f 453 ((b0 + k) % 4294967296) (f 457 ((a0 + k) % 4294967296)))))) rfl ?_) | (refine (vF_g rfl rfl).trans ?_; refine (vF_g rfl rfl).trans ?_; refine Eq.trans (b := gd (Nat.ble ((a0 + k) % 4294967296 + 1) 5016) (gd (Nat.ble ((b0 + k) % 4294967296 + 1) 627) (vFn (vM MT0 D) nb_X11_copies F1 1 0 [vR 457, vI a0, vR 453, vI b0, vI ((k + 1) % 4294967296)] [] (vup f 453 ((b0 + k) % 4294967296) (f 457 ((a0 + k) % 4294967296)))))) rfl ?_) | (refine (vF_g rfl rfl).trans ?_; refine Eq.trans (b := gd (Nat.ble ((a0 + k) % 4294967296 + 1) 5016) (gd (Nat.ble ((b0 + k) % 4294967296 + 1) 627) (vFn (vM MT0 D) nb_X11_copies F1 1 0 [vR 457, vI a0, vR 453, vI b0, vI ((k + 1) % 4294967296)] [] (vup f 453 ((b0 + k) % 4294967296) (f 457 ((a0 + k) % 4294967296)))))) rfl ?_))
      rw [hX, hY, hb, hc, Nat.mod_eq_of_lt (show k + 1 < 4294967296 by omega)]
      exact e
    · by_cases r : i = k
      · subst r
        exact (h2 _ (by omega)).trans vup_eq
      · exact (h1 i (by omega) b).trans (vup_ne (Or.inl (by decide)))
theorem v_cq_457_453 {D a0 b0 : Nat} {f : Vw} (ha : a0 + 627 ≤ 5016) (hb0 : b0 + 627 ≤ 627) : ∃ g, vM MT0 (D + 1) 178 [vR 457, vI a0, vR 453, vI b0] f = some ((1, 0), vW 3, g) ∧ (∀ i, i < 627 → g 453 (b0 + i) = f 457 (a0 + i)) ∧ (∀ i, i < b0 ∨ b0 + 627 ≤ i → g 453 i = f 453 i) ∧ ∀ x y, x ≠ 453 → g x y = f x y := by
  obtain ⟨F, hF, go⟩ := vM_at (D := D) (y := 178) (as := [vR 457, vI a0, vR 453, vI b0]) (f := f) rfl rfl rfl rfl
  obtain ⟨g, e, h1, h2, h3⟩ := cqL_457_453 (D := D) ha hb0 627 0 (F + 59) f (by decide) (by omega)
  exact ⟨g, go _ <| (by (first | (refine Eq.trans (b := vFn (vM MT0 D) nb_X11_copies (F + 59) 1 0 [vR 457, vI a0, vR 453, vI b0, vI 0] [] f) rfl ?_) | (refine (vF_g rfl rfl).trans ?_; refine (vF_g rfl rfl).trans ?_; refine Eq.trans (b := vFn (vM MT0 D) nb_X11_copies (F + 59) 1 0 [vR 457, vI a0, vR 453, vI b0, vI 0] [] f) rfl ?_) | (refine (vF_g rfl rfl).trans ?_; refine Eq.trans (b := vFn (vM MT0 D) nb_X11_copies (F + 59) 1 0 [vR 457, vI a0, vR 453, vI b0, vI 0] [] f) rfl ?_)); (first | (exact e) | (refine (vF_g rfl rfl).trans ?_; refine (vF_g rfl rfl).trans ?_; exact e) | (refine (vF_g rfl rfl).trans ?_; exact e))), fun i hi => h1 i (Nat.zero_le i) hi, fun i hi => h2 i (by omega), h3⟩
theorem cqL_453_454 {D a0 b0 : Nat} (ha : a0 + 627 ≤ 627) (hb0 : b0 + 627 ≤ 627) : ∀ (m k F : Nat) (f : Vw), k + m = 627 → 2 * m + 3 ≤ F → ∃ g, vFn (vM MT0 D) nb_X11_copies F 1 0 [vR 453, vI a0, vR 454, vI b0, vI k] [] f = some ((1, 0), vW 3, g) ∧ (∀ i, k ≤ i → i < 627 → g 454 (b0 + i) = f 453 (a0 + i)) ∧ (∀ i, i < b0 + k ∨ b0 + 627 ≤ i → g 454 i = f 454 i) ∧ ∀ x y, x ≠ 454 → g x y = f x y := by
  intro m
  induction m with
  | zero =>
    intro k F f hk hF
    obtain ⟨F1, rfl⟩ : ∃ F1, F = F1 + 3 := ⟨F - 3, by omega⟩
    exact ⟨f, (by (first | (refine (vge2 (x := k) (y := 627) (by omega) (by omega)).trans ?_) | (refine (vF_g rfl rfl).trans ?_; refine (vF_g rfl rfl).trans ?_; refine (vge2 (x := k) (y := 627) (by omega) (by omega)).trans ?_) | (refine (vF_g rfl rfl).trans ?_; refine (vge2 (x := k) (y := 627) (by omega) (by omega)).trans ?_)); (first | (exact rfl) | (refine (vF_g rfl rfl).trans ?_; refine (vF_g rfl rfl).trans ?_; exact rfl) | (refine (vF_g rfl rfl).trans ?_; refine (vF_g rfl rfl).trans ?_; refine (vF_g rfl rfl).trans ?_; exact rfl) | (refine (vF_g rfl rfl).trans ?_; exact rfl))), fun i a b => by omega, fun _ _ => rfl, fun _ _ _ => rfl⟩
  | succ m ih =>
    intro k F f hk hF
    obtain ⟨F1, rfl⟩ : ∃ F1, F = F1 + 2 := ⟨F - 2, by omega⟩
    have hX : (a0 + k) % 4294967296 = a0 + k := by omega
    have hY : (b0 + k) % 4294967296 = b0 + k := by omega
    have hb : Nat.ble (a0 + k + 1) 627 = true := Nat.ble_eq_true_of_le (by omega)
    have hc : Nat.ble (b0 + k + 1) 627 = true := Nat.ble_eq_true_of_le (by omega)
    obtain ⟨g, e, h1, h2, h3⟩ := ih (k + 1) F1 (vup f 454 (b0 + k) (f 453 (a0 + k))) (by omega) (by omega)
    refine ⟨g, ?_, fun i a b => ?_, fun i a => (h2 i (by omega)).trans (vup_ne (Or.inr (by omega))), fun x y w => (h3 x y w).trans (vup_ne (Or.inl w))⟩
    · (first | (refine (vlt (x := k) (y := 627) (by decide) (by omega)).trans ?_) | (refine (vF_g rfl rfl).trans ?_; refine (vF_g rfl rfl).trans ?_; refine (vlt (x := k) (y := 627) (by decide) (by omega)).trans ?_) | (refine (vF_g rfl rfl).trans ?_; refine (vlt (x := k) (y := 627) (by decide) (by omega)).trans ?_))
      (first | (refine Eq.trans (b := gd (Nat.ble ((a0 + k) % 4294967296 + 1) 627) (gd (Nat.ble ((b0 + k) % 4294967296 + 1) 627) (vFn (vM MT0 D) nb_X11_copies F1 1 0 [vR 453, vI a0, vR 454, vI b0, vI ((k + 1) % 4294967296)] [] (vup f 454 ((b0 + k) % 4294967296) (f 453 ((a0 + k) % 4294967296)))))) rfl ?_) | (refine (vF_g rfl rfl).trans ?_; refine (vF_g rfl rfl).trans ?_; refine Eq.trans (b := gd (Nat.ble ((a0 + k) % 4294967296 + 1) 627) (gd (Nat.ble ((b0 + k) % 4294967296 + 1) 627) (vFn (vM MT0 D) nb_X11_copies F1 1 0 [vR 453, vI a0, vR 454, vI b0, vI ((k + 1) % 4294967296)] [] (vup f 454 ((b0 + k) % 4294967296) (f 453 ((a0 + k) % 4294967296)))))) rfl ?_) | (refine (vF_g rfl rfl).trans ?_; refine Eq.trans (b := gd (Nat.ble ((a0 + k) % 4294967296 + 1) 627) (gd (Nat.ble ((b0 + k) % 4294967296 + 1) 627) (vFn (vM MT0 D) nb_X11_copies F1 1 0 [vR 453, vI a0, vR 454, vI b0, vI ((k + 1) % 4294967296)] [] (vup f 454 ((b0 + k) % 4294967296) (f 453 ((a0 + k) % 4294967296)))))) rfl ?_))
      rw [hX, hY, hb, hc, Nat.mod_eq_of_lt (show k + 1 < 4294967296 by omega)]
      exact e
    · by_cases r : i = k
      · subst r
        exact (h2 _ (by omega)).trans vup_eq
      · exact (h1 i (by omega) b).trans (vup_ne (Or.inl (by decide)))
theorem v_cq_453_454 {D a0 b0 : Nat} {f : Vw} (ha : a0 + 627 ≤ 627) (hb0 : b0 + 627 ≤ 627) : ∃ g, vM MT0 (D + 1) 178 [vR 453, vI a0, vR 454, vI b0] f = some ((1, 0), vW 3, g) ∧ (∀ i, i < 627 → g 454 (b0 + i) = f 453 (a0 + i)) ∧ (∀ i, i < b0 ∨ b0 + 627 ≤ i → g 454 i = f 454 i) ∧ ∀ x y, x ≠ 454 → g x y = f x y := by
  obtain ⟨F, hF, go⟩ := vM_at (D := D) (y := 178) (as := [vR 453, vI a0, vR 454, vI b0]) (f := f) rfl rfl rfl rfl
  obtain ⟨g, e, h1, h2, h3⟩ := cqL_453_454 (D := D) ha hb0 627 0 (F + 59) f (by decide) (by omega)
  exact ⟨g, go _ <| (by (first | (refine Eq.trans (b := vFn (vM MT0 D) nb_X11_copies (F + 59) 1 0 [vR 453, vI a0, vR 454, vI b0, vI 0] [] f) rfl ?_) | (refine (vF_g rfl rfl).trans ?_; refine (vF_g rfl rfl).trans ?_; refine Eq.trans (b := vFn (vM MT0 D) nb_X11_copies (F + 59) 1 0 [vR 453, vI a0, vR 454, vI b0, vI 0] [] f) rfl ?_) | (refine (vF_g rfl rfl).trans ?_; refine Eq.trans (b := vFn (vM MT0 D) nb_X11_copies (F + 59) 1 0 [vR 453, vI a0, vR 454, vI b0, vI 0] [] f) rfl ?_)); (first | (exact e) | (refine (vF_g rfl rfl).trans ?_; refine (vF_g rfl rfl).trans ?_; exact e) | (refine (vF_g rfl rfl).trans ?_; exact e))), fun i hi => h1 i (Nat.zero_le i) hi, fun i hi => h2 i (by omega), h3⟩
theorem cqL_454_453 {D a0 b0 : Nat} (ha : a0 + 627 ≤ 627) (hb0 : b0 + 627 ≤ 627) : ∀ (m k F : Nat) (f : Vw), k + m = 627 → 2 * m + 3 ≤ F → ∃ g, vFn (vM MT0 D) nb_X11_copies F 1 0 [vR 454, vI a0, vR 453, vI b0, vI k] [] f = some ((1, 0), vW 3, g) ∧ (∀ i, k ≤ i → i < 627 → g 453 (b0 + i) = f 454 (a0 + i)) ∧ (∀ i, i < b0 + k ∨ b0 + 627 ≤ i → g 453 i = f 453 i) ∧ ∀ x y, x ≠ 453 → g x y = f x y := by
  intro m
  induction m with
  | zero =>
    intro k F f hk hF
    obtain ⟨F1, rfl⟩ : ∃ F1, F = F1 + 3 := ⟨F - 3, by omega⟩
    exact ⟨f, (by (first | (refine (vge2 (x := k) (y := 627) (by omega) (by omega)).trans ?_) | (refine (vF_g rfl rfl).trans ?_; refine (vF_g rfl rfl).trans ?_; refine (vge2 (x := k) (y := 627) (by omega) (by omega)).trans ?_) | (refine (vF_g rfl rfl).trans ?_; refine (vge2 (x := k) (y := 627) (by omega) (by omega)).trans ?_)); (first | (exact rfl) | (refine (vF_g rfl rfl).trans ?_; refine (vF_g rfl rfl).trans ?_; exact rfl) | (refine (vF_g rfl rfl).trans ?_; refine (vF_g rfl rfl).trans ?_; refine (vF_g rfl rfl).trans ?_; exact rfl) | (refine (vF_g rfl rfl).trans ?_; exact rfl))), fun i a b => by omega, fun _ _ => rfl, fun _ _ _ => rfl⟩
  | succ m ih =>
    intro k F f hk hF
    obtain ⟨F1, rfl⟩ : ∃ F1, F = F1 + 2 := ⟨F - 2, by omega⟩
    have hX : (a0 + k) % 4294967296 = a0 + k := by omega
    have hY : (b0 + k) % 4294967296 = b0 + k := by omega
    have hb : Nat.ble (a0 + k + 1) 627 = true := Nat.ble_eq_true_of_le (by omega)
    have hc : Nat.ble (b0 + k + 1) 627 = true := Nat.ble_eq_true_of_le (by omega)
    obtain ⟨g, e, h1, h2, h3⟩ := ih (k + 1) F1 (vup f 453 (b0 + k) (f 454 (a0 + k))) (by omega) (by omega)
    refine ⟨g, ?_, fun i a b => ?_, fun i a => (h2 i (by omega)).trans (vup_ne (Or.inr (by omega))), fun x y w => (h3 x y w).trans (vup_ne (Or.inl w))⟩
    · (first | (refine (vlt (x := k) (y := 627) (by decide) (by omega)).trans ?_) | (refine (vF_g rfl rfl).trans ?_; refine (vF_g rfl rfl).trans ?_; refine (vlt (x := k) (y := 627) (by decide) (by omega)).trans ?_) | (refine (vF_g rfl rfl).trans ?_; refine (vlt (x := k) (y := 627) (by decide) (by omega)).trans ?_))
      (first | (refine Eq.trans (b := gd (Nat.ble ((a0 + k) % 4294967296 + 1) 627) (gd (Nat.ble ((b0 + k) % 4294967296 + 1) 627) (vFn (vM MT0 D) nb_X11_copies F1 1 0 [vR 454, vI a0, vR 453, vI b0, vI ((k + 1) % 4294967296)] [] (vup f 453 ((b0 + k) % 4294967296) (f 454 ((a0 + k) % 4294967296)))))) rfl ?_) | (refine (vF_g rfl rfl).trans ?_; refine (vF_g rfl rfl).trans ?_; refine Eq.trans (b := gd (Nat.ble ((a0 + k) % 4294967296 + 1) 627) (gd (Nat.ble ((b0 + k) % 4294967296 + 1) 627) (vFn (vM MT0 D) nb_X11_copies F1 1 0 [vR 454, vI a0, vR 453, vI b0, vI ((k + 1) % 4294967296)] [] (vup f 453 ((b0 + k) % 4294967296) (f 454 ((a0 + k) % 4294967296)))))) rfl ?_) | (refine (vF_g rfl rfl).trans ?_; refine Eq.trans (b := gd (Nat.ble ((a0 + k) % 4294967296 + 1) 627) (gd (Nat.ble ((b0 + k) % 4294967296 + 1) 627) (vFn (vM MT0 D) nb_X11_copies F1 1 0 [vR 454, vI a0, vR 453, vI b0, vI ((k + 1) % 4294967296)] [] (vup f 453 ((b0 + k) % 4294967296) (f 454 ((a0 + k) % 4294967296)))))) rfl ?_))
      rw [hX, hY, hb, hc, Nat.mod_eq_of_lt (show k + 1 < 4294967296 by omega)]
      exact e
    · by_cases r : i = k
      · subst r
        exact (h2 _ (by omega)).trans vup_eq
      · exact (h1 i (by omega) b).trans (vup_ne (Or.inl (by decide)))
theorem v_cq_454_453 {D a0 b0 : Nat} {f : Vw} (ha : a0 + 627 ≤ 627) (hb0 : b0 + 627 ≤ 627) : ∃ g, vM MT0 (D + 1) 178 [vR 454, vI a0, vR 453, vI b0] f = some ((1, 0), vW 3, g) ∧ (∀ i, i < 627 → g 453 (b0 + i) = f 454 (a0 + i)) ∧ (∀ i, i < b0 ∨ b0 + 627 ≤ i → g 453 i = f 453 i) ∧ ∀ x y, x ≠ 453 → g x y = f x y := by
  obtain ⟨F, hF, go⟩ := vM_at (D := D) (y := 178) (as := [vR 454, vI a0, vR 453, vI b0]) (f := f) rfl rfl rfl rfl
  obtain ⟨g, e, h1, h2, h3⟩ := cqL_454_453 (D := D) ha hb0 627 0 (F + 59) f (by decide) (by omega)
  exact ⟨g, go _ <| (by (first | (refine Eq.trans (b := vFn (vM MT0 D) nb_X11_copies (F + 59) 1 0 [vR 454, vI a0, vR 453, vI b0, vI 0] [] f) rfl ?_) | (refine (vF_g rfl rfl).trans ?_; refine (vF_g rfl rfl).trans ?_; refine Eq.trans (b := vFn (vM MT0 D) nb_X11_copies (F + 59) 1 0 [vR 454, vI a0, vR 453, vI b0, vI 0] [] f) rfl ?_) | (refine (vF_g rfl rfl).trans ?_; refine Eq.trans (b := vFn (vM MT0 D) nb_X11_copies (F + 59) 1 0 [vR 454, vI a0, vR 453, vI b0, vI 0] [] f) rfl ?_)); (first | (exact e) | (refine (vF_g rfl rfl).trans ?_; refine (vF_g rfl rfl).trans ?_; exact e) | (refine (vF_g rfl rfl).trans ?_; exact e))), fun i hi => h1 i (Nat.zero_le i) hi, fun i hi => h2 i (by omega), h3⟩
end
section
/-! save, restore, undo on views -/
theorem v_saveC {D : Nat} {f : Vw} (k2 : f 7 2 ≤ 12) (k3 : f 7 3 ≤ 8) : ∃ g, vM MT0 (D + 3) 157 [vR 0] f = some ((0, 0), vI (g 7 4), vup g 0 7 1) ∧ CpW 87 7 f g := by
  obtain ⟨g, e, hg⟩ := v_cp_87_7 (D := D) (f := f) k2 k3
  exact ⟨g, vM_go rfl rfl rfl rfl fun F hF => (by (first | (refine (vbnd_1 e).trans ?_) | (refine (vF_g rfl rfl).trans ?_; refine (vF_g rfl rfl).trans ?_; refine (vbnd_1 e).trans ?_) | (refine (vF_g rfl rfl).trans ?_; refine (vbnd_1 e).trans ?_)); (first | (exact rfl) | (refine (vF_g rfl rfl).trans ?_; refine (vF_g rfl rfl).trans ?_; exact rfl) | (refine (vF_g rfl rfl).trans ?_; refine (vF_g rfl rfl).trans ?_; refine (vF_g rfl rfl).trans ?_; exact rfl) | (refine (vF_g rfl rfl).trans ?_; exact rfl))), hg⟩
theorem v_restC1 {D : Nat} {f : Vw} (k2 : f 87 2 ≤ 12) (k3 : f 87 3 ≤ 8) (h : f 0 7 = 1) : ∃ g, vM MT0 (D + 3) 158 [vR 0] f = some ((0, 0), vI (vup g 126 2 0 7 4), vup g 126 2 0) ∧ CpW 7 87 f g := by
  obtain ⟨g, e, hg⟩ := v_cp_7_87 (D := D) (f := f) k2 k3
  exact ⟨g, vM_go rfl rfl rfl rfl fun F hF => (by (first | (refine (vgt (x := f 0 7) (y := 0) (by rw [h]; decide) (by rw [h]; decide)).trans ?_) | (refine (vF_g rfl rfl).trans ?_; refine (vF_g rfl rfl).trans ?_; refine (vgt (x := f 0 7) (y := 0) (by rw [h]; decide) (by rw [h]; decide)).trans ?_) | (refine (vF_g rfl rfl).trans ?_; refine (vgt (x := f 0 7) (y := 0) (by rw [h]; decide) (by rw [h]; decide)).trans ?_)); (first | (refine (vbnd_1 e).trans ?_) | (refine (vF_g rfl rfl).trans ?_; refine (vF_g rfl rfl).trans ?_; refine (vbnd_1 e).trans ?_) | (refine (vF_g rfl rfl).trans ?_; refine (vbnd_1 e).trans ?_)); (first | (exact rfl) | (refine (vF_g rfl rfl).trans ?_; refine (vF_g rfl rfl).trans ?_; exact rfl) | (refine (vF_g rfl rfl).trans ?_; refine (vF_g rfl rfl).trans ?_; refine (vF_g rfl rfl).trans ?_; exact rfl) | (refine (vF_g rfl rfl).trans ?_; exact rfl))), hg⟩
theorem v_restC0 {D : Nat} {f : Vw} (h : f 0 7 = 0) : vM MT0 (D + 3) 158 [vR 0] f = some ((2, 0), vW 3, f) := vM_go rfl rfl rfl rfl fun F hF => (by (first | (refine (veq (x := f 0 7) (y := 0) h).trans ?_) | (refine (vF_g rfl rfl).trans ?_; refine (vF_g rfl rfl).trans ?_; refine (veq (x := f 0 7) (y := 0) h).trans ?_) | (refine (vF_g rfl rfl).trans ?_; refine (veq (x := f 0 7) (y := 0) h).trans ?_)); (first | (exact rfl) | (refine (vF_g rfl rfl).trans ?_; refine (vF_g rfl rfl).trans ?_; exact rfl) | (refine (vF_g rfl rfl).trans ?_; refine (vF_g rfl rfl).trans ?_; refine (vF_g rfl rfl).trans ?_; exact rfl) | (refine (vF_g rfl rfl).trans ?_; exact rfl)))
theorem v_saveR {D : Nat} {f : Vw} : ∃ g, vM MT0 (D + 2) 329 [vR 452] f = some ((0, 0), vI (vup g 452 7 1 453 2), vup g 452 7 1) ∧ (∀ i, i < 627 → g 454 i = f 453 i) ∧ ∀ x y, x ≠ 454 → g x y = vup f 452 6 0 x y := by
  obtain ⟨g, e, h1, h2, h3⟩ := v_cq_453_454 (D := D) (a0 := 0) (b0 := 0) (f := vup f 452 6 0) (by decide) (by decide)
  refine ⟨g, vM_go rfl rfl rfl rfl fun F hF => (by (first | (refine (vbnd_1 e).trans ?_) | (refine (vF_g rfl rfl).trans ?_; refine (vF_g rfl rfl).trans ?_; refine (vbnd_1 e).trans ?_) | (refine (vF_g rfl rfl).trans ?_; refine (vbnd_1 e).trans ?_)); (first | (exact rfl) | (refine (vF_g rfl rfl).trans ?_; refine (vF_g rfl rfl).trans ?_; exact rfl) | (refine (vF_g rfl rfl).trans ?_; refine (vF_g rfl rfl).trans ?_; refine (vF_g rfl rfl).trans ?_; exact rfl) | (refine (vF_g rfl rfl).trans ?_; exact rfl))), fun i hi => ?_, h3⟩
  have := h1 i hi
  rw [Nat.zero_add] at this
  exact this.trans (vup_ne (Or.inl (by decide)))
theorem v_restR0 {D : Nat} {f : Vw} (h : f 452 7 = 0) : vM MT0 (D + 2) 330 [vR 452] f = some ((0, 0), vI 0, vup f 452 6 1) := by
  obtain ⟨f0, rfl⟩ : ∃ f0, f = vup f0 452 7 0 := ⟨f, (vup_id h).symm⟩
  have p := v_passes (D := D) (b := 0) (f := vup f0 452 7 0) (Or.inl rfl)
  refine vM_go rfl rfl rfl rfl fun F hF => ?_
  (first | (refine (vbnd_0 p).trans ?_) | (refine (vF_g rfl rfl).trans ?_; refine (vF_g rfl rfl).trans ?_; refine (vbnd_0 p).trans ?_) | (refine (vF_g rfl rfl).trans ?_; refine (vbnd_0 p).trans ?_))
  (first | (refine (veq (x := 0) (y := 0) rfl).trans ?_) | (refine (vF_g rfl rfl).trans ?_; refine (vF_g rfl rfl).trans ?_; refine (veq (x := 0) (y := 0) rfl).trans ?_) | (refine (vF_g rfl rfl).trans ?_; refine (veq (x := 0) (y := 0) rfl).trans ?_))
  (first | (exact rfl) | (refine (vF_g rfl rfl).trans ?_; refine (vF_g rfl rfl).trans ?_; exact rfl) | (refine (vF_g rfl rfl).trans ?_; refine (vF_g rfl rfl).trans ?_; refine (vF_g rfl rfl).trans ?_; exact rfl) | (refine (vF_g rfl rfl).trans ?_; exact rfl))
theorem v_restR1 {D : Nat} {f : Vw} (h : f 452 7 = 1) : ∃ g, vM MT0 (D + 2) 330 [vR 452] f = some ((0, 0), vI (vup g 452 5 0 453 2), vup g 452 5 0) ∧ (∀ i, i < 627 → g 453 i = f 454 i) ∧ ∀ x y, x ≠ 453 → g x y = vup f 452 6 0 x y := by
  obtain ⟨f0, rfl⟩ : ∃ f0, f = vup f0 452 7 1 := ⟨f, (vup_id h).symm⟩
  have p := v_passes (D := D) (b := 1) (f := vup f0 452 7 1) (Or.inr rfl)
  obtain ⟨g, e, h1, h2, h3⟩ := v_cq_454_453 (D := D) (a0 := 0) (b0 := 0) (f := vup (vup f0 452 7 1) 452 6 (1 - 1)) (by decide) (by decide)
  refine ⟨g, vM_go rfl rfl rfl rfl fun F hF => (by (first | (refine (vbnd_0 p).trans ?_) | (refine (vF_g rfl rfl).trans ?_; refine (vF_g rfl rfl).trans ?_; refine (vbnd_0 p).trans ?_) | (refine (vF_g rfl rfl).trans ?_; refine (vbnd_0 p).trans ?_)); (first | (refine (vgt (x := 1) (y := 0) (by decide) (by decide)).trans ?_) | (refine (vF_g rfl rfl).trans ?_; refine (vF_g rfl rfl).trans ?_; refine (vgt (x := 1) (y := 0) (by decide) (by decide)).trans ?_) | (refine (vF_g rfl rfl).trans ?_; refine (vgt (x := 1) (y := 0) (by decide) (by decide)).trans ?_)); (first | (refine (vbnd_1 e).trans ?_) | (refine (vF_g rfl rfl).trans ?_; refine (vF_g rfl rfl).trans ?_; refine (vbnd_1 e).trans ?_) | (refine (vF_g rfl rfl).trans ?_; refine (vbnd_1 e).trans ?_)); (first | (exact rfl) | (refine (vF_g rfl rfl).trans ?_; refine (vF_g rfl rfl).trans ?_; exact rfl) | (refine (vF_g rfl rfl).trans ?_; refine (vF_g rfl rfl).trans ?_; refine (vF_g rfl rfl).trans ?_; exact rfl) | (refine (vF_g rfl rfl).trans ?_; exact rfl))), fun i hi => ?_, h3⟩
  have := h1 i hi
  rw [Nat.zero_add] at this
  exact this.trans (vup_ne (Or.inl (by decide)))
theorem im_627 {m : Nat} (h : m < 8) : gB9 1 627 m = 627 * m := by
  rw [gB_1]
  rcases (show m = 0 ∨ m = 1 ∨ m = 2 ∨ m = 3 ∨ m = 4 ∨ m = 5 ∨ m = 6 ∨ m = 7 by omega) with rfl | rfl | rfl | rfl | rfl | rfl | rfl | rfl <;> decide
theorem v_undoR0 {D : Nat} {f : Vw} (h : f 452 5 = 0) : vM MT0 (D + 2) 328 [vR 452] f = some ((0, 0), vI 0, vup f 452 6 1) := by
  have p := v_passes (D := D) (b := 0) (f := f) (Or.inl rfl)
  refine vM_go rfl rfl rfl rfl fun F hF => ?_
  (first | (refine (veq (x := f 452 5) (y := 0) h).trans ?_) | (refine (vF_g rfl rfl).trans ?_; refine (vF_g rfl rfl).trans ?_; refine (veq (x := f 452 5) (y := 0) h).trans ?_) | (refine (vF_g rfl rfl).trans ?_; refine (veq (x := f 452 5) (y := 0) h).trans ?_))
  (first | (refine (vbnd_0 p).trans ?_) | (refine (vF_g rfl rfl).trans ?_; refine (vF_g rfl rfl).trans ?_; refine (vbnd_0 p).trans ?_) | (refine (vF_g rfl rfl).trans ?_; refine (vbnd_0 p).trans ?_))
  (first | (refine (veq (x := 0) (y := 0) rfl).trans ?_) | (refine (vF_g rfl rfl).trans ?_; refine (vF_g rfl rfl).trans ?_; refine (veq (x := 0) (y := 0) rfl).trans ?_) | (refine (vF_g rfl rfl).trans ?_; refine (veq (x := 0) (y := 0) rfl).trans ?_))
  (first | (exact rfl) | (refine (vF_g rfl rfl).trans ?_; refine (vF_g rfl rfl).trans ?_; exact rfl) | (refine (vF_g rfl rfl).trans ?_; refine (vF_g rfl rfl).trans ?_; refine (vF_g rfl rfl).trans ?_; exact rfl) | (refine (vF_g rfl rfl).trans ?_; exact rfl))
theorem v_undoR {D m : Nat} {f : Vw} (hm : m < 8) (h : f 452 5 = m + 1) : ∃ g, vM MT0 (D + 2) 328 [vR 452] f = some ((0, 0), vI (g 452 5), g) ∧ (∀ i, i < 627 → g 453 i = f 457 (627 * m + i)) ∧ g 452 5 = m ∧ ∀ x y, x ≠ 453 → (x ≠ 452 ∨ y ≠ 5 ∧ y ≠ 6) → g x y = f x y := by
  have p := v_passes (D := D) (b := 1) (f := f) (Or.inr rfl)
  have e5 : vup f 452 6 (1 - 1) 452 5 = m + 1 := (vup_ne (Or.inr (by decide))).trans h
  have e6 : gB9 0 (vup f 452 6 (1 - 1) 452 5) 1 = m := by
    rw [e5, gB_0]
    unfold g_sub
    omega
  have e7 : vup (vup f 452 6 (1 - 1)) 452 5 (gB9 0 (vup f 452 6 (1 - 1) 452 5) 1) 452 5 = m := vup_eq.trans e6
  have e8 : gB9 1 627 (vup (vup f 452 6 (1 - 1)) 452 5 (gB9 0 (vup f 452 6 (1 - 1) 452 5) 1) 452 5) = 627 * m := by rw [e7, im_627 hm]
  obtain ⟨g, e, h1, h2, h3⟩ := v_cq_457_453 (D := D) (a0 := gB9 1 627 (vup (vup f 452 6 (1 - 1)) 452 5 (gB9 0 (vup f 452 6 (1 - 1) 452 5) 1) 452 5)) (b0 := 0) (f := vup (vup f 452 6 (1 - 1)) 452 5 (gB9 0 (vup f 452 6 (1 - 1) 452 5) 1)) (by rw [e8]; omega) (by decide)
  refine ⟨g, ?_, fun i hi => ?_, (h3 _ _ (by decide)).trans e7, fun x y hx hy => (h3 x y hx).trans ((vup_ne (by omega)).trans (vup_ne (by omega)))⟩
  · refine vM_go rfl rfl rfl rfl fun F hF => ?_
    (first | (refine (vgt (x := f 452 5) (y := 0) (by rw [h]; omega) (by rw [h]; omega)).trans ?_) | (refine (vF_g rfl rfl).trans ?_; refine (vF_g rfl rfl).trans ?_; refine (vgt (x := f 452 5) (y := 0) (by rw [h]; omega) (by rw [h]; omega)).trans ?_) | (refine (vF_g rfl rfl).trans ?_; refine (vgt (x := f 452 5) (y := 0) (by rw [h]; omega) (by rw [h]; omega)).trans ?_))
    (first | (refine (vbnd_0 p).trans ?_) | (refine (vF_g rfl rfl).trans ?_; refine (vF_g rfl rfl).trans ?_; refine (vbnd_0 p).trans ?_) | (refine (vF_g rfl rfl).trans ?_; refine (vbnd_0 p).trans ?_))
    (first | (refine (vgt (x := 1) (y := 0) (by decide) (by decide)).trans ?_) | (refine (vF_g rfl rfl).trans ?_; refine (vF_g rfl rfl).trans ?_; refine (vgt (x := 1) (y := 0) (by decide) (by decide)).trans ?_) | (refine (vF_g rfl rfl).trans ?_; refine (vgt (x := 1) (y := 0) (by decide) (by decide)).trans ?_))
    (first | (refine (vbnd_1 e).trans ?_) | (refine (vF_g rfl rfl).trans ?_; refine (vF_g rfl rfl).trans ?_; refine (vbnd_1 e).trans ?_) | (refine (vF_g rfl rfl).trans ?_; refine (vbnd_1 e).trans ?_))
    (first | (exact rfl) | (refine (vF_g rfl rfl).trans ?_; refine (vF_g rfl rfl).trans ?_; exact rfl) | (refine (vF_g rfl rfl).trans ?_; refine (vF_g rfl rfl).trans ?_; refine (vF_g rfl rfl).trans ?_; exact rfl) | (refine (vF_g rfl rfl).trans ?_; exact rfl))
  · have := h1 i hi
    rw [Nat.zero_add, e8] at this
    exact this.trans ((vup_ne (Or.inl (by decide))).trans (vup_ne (Or.inl (by decide))))
end
