/-! keeps on views -/
set_option maxRecDepth 20000 in
theorem kq_453 {D : Nat} : ∀ (m k F : Nat) (f : Vw), k + m = 4389 → 2 * m + 1 ≤ F → ∃ g F', F ≤ F' + (2 * m + 1) ∧ vFn (vM MT0 (D + 1)) nb_X11_keeps F 2 0 [vR 452, vR 453, vI k] [] f = vFn (vM MT0 (D + 1)) nb_X11_keeps F' 4 0 [vR 452, vR 453, vI 4389] [] g ∧ (∀ i, k ≤ i → i < 4389 → g 457 i = f 457 (i + 627)) ∧ (∀ i, i < k ∨ 4389 ≤ i → g 457 i = f 457 i) ∧ ∀ x y, x ≠ 457 → g x y = f x y := by
  intro m
  induction m with
  | zero =>
    intro k F f hk hF
    obtain ⟨F1, rfl⟩ : ∃ F1, F = F1 + 1 := ⟨F - 1, by omega⟩
    have e : k = 4389 := by omega
    subst e
    refine ⟨f, F1, by omega, ?_, fun i a b => by omega, fun _ _ => rfl, fun _ _ _ => rfl⟩
    refine (vF_g rfl rfl).trans ?_
    (first | (exact veq (x := 4389) (y := 4389) rfl) | (refine (vF_g rfl rfl).trans ?_; refine (vF_g rfl rfl).trans ?_; exact veq (x := 4389) (y := 4389) rfl) | (refine (vF_g rfl rfl).trans ?_; exact veq (x := 4389) (y := 4389) rfl))
  | succ m ih =>
    intro k F f hk hF
    obtain ⟨F1, rfl⟩ : ∃ F1, F = F1 + 2 := ⟨F - 2, by omega⟩
    have hX : (k + 627) % 4294967296 = k + 627 := by omega
    have hb : Nat.ble (k + 627 + 1) 5016 = true := Nat.ble_eq_true_of_le (by omega)
    have hc : Nat.ble (k + 1) 5016 = true := Nat.ble_eq_true_of_le (by omega)
    obtain ⟨g, F', hF', e, h1, h2, h3⟩ := ih (k + 1) F1 (vup f 457 k (f 457 (k + 627))) (by omega) (by omega)
    refine ⟨g, F', by omega, ?_, fun i a b => ?_, fun i a => (h2 i (by omega)).trans (vup_ne (Or.inr (by omega))), fun x y w => (h3 x y w).trans (vup_ne (Or.inl w))⟩
    · (first | (refine (vlt (x := k) (y := 4389) (by decide) (by omega)).trans ?_) | (refine (vF_g rfl rfl).trans ?_; refine (vF_g rfl rfl).trans ?_; refine (vlt (x := k) (y := 4389) (by decide) (by omega)).trans ?_) | (refine (vF_g rfl rfl).trans ?_; refine (vlt (x := k) (y := 4389) (by decide) (by omega)).trans ?_))
      (first | (refine Eq.trans (b := gd (Nat.ble ((k + 627) % 4294967296 + 1) 5016) (gd (Nat.ble (k + 1) 5016) (vFn (vM MT0 (D + 1)) nb_X11_keeps F1 2 0 [vR 452, vR 453, vI ((k + 1) % 4294967296)] [] (vup f 457 k (f 457 ((k + 627) % 4294967296)))))) rfl ?_) | (refine (vF_g rfl rfl).trans ?_; refine (vF_g rfl rfl).trans ?_; refine Eq.trans (b := gd (Nat.ble ((k + 627) % 4294967296 + 1) 5016) (gd (Nat.ble (k + 1) 5016) (vFn (vM MT0 (D + 1)) nb_X11_keeps F1 2 0 [vR 452, vR 453, vI ((k + 1) % 4294967296)] [] (vup f 457 k (f 457 ((k + 627) % 4294967296)))))) rfl ?_) | (refine (vF_g rfl rfl).trans ?_; refine Eq.trans (b := gd (Nat.ble ((k + 627) % 4294967296 + 1) 5016) (gd (Nat.ble (k + 1) 5016) (vFn (vM MT0 (D + 1)) nb_X11_keeps F1 2 0 [vR 452, vR 453, vI ((k + 1) % 4294967296)] [] (vup f 457 k (f 457 ((k + 627) % 4294967296)))))) rfl ?_))
      rw [hX, hb, hc, Nat.mod_eq_of_lt (show k + 1 < 4294967296 by omega)]
      exact e
    · by_cases r : i = k
      · subst r
        exact (h2 _ (by omega)).trans vup_eq
      · exact (h1 i (by omega) b).trans (vup_ne (Or.inr (by omega)))
theorem v_keepA_453 {D m : Nat} {f : Vw} (hm : m < 8) (h : f 452 5 = m) : ∃ g, vM MT0 (D + 2) 258 [vR 452, vR 453] f = some ((1, 0), vW 3, g) ∧ (∀ i, i < 627 → g 457 (627 * m + i) = f 453 i) ∧ (∀ i, i < 627 * m ∨ 627 * m + 627 ≤ i → g 457 i = f 457 i) ∧ g 452 5 = m + 1 ∧ ∀ x y, x ≠ 457 → (x ≠ 452 ∨ y ≠ 5) → g x y = f x y := by
  have e8 : gB9 1 627 (f 452 5) = 627 * m := by rw [h, im_627 hm]
  obtain ⟨g, e, h1, h2, h3⟩ := v_cq_453_457 (D := D) (a0 := 0) (b0 := gB9 1 627 (f 452 5)) (f := f) (by decide) (by rw [e8]; omega)
  rw [e8] at h1 h2
  have q5 : g 452 5 = m := (h3 _ _ (by decide)).trans h
  refine ⟨vup g 452 5 ((g 452 5 + 1) % 4294967296), ?_, fun i hi => ?_, fun i hi => (vup_ne (Or.inl (by decide))).trans (h2 i hi), ?_, fun x y hx hy => (vup_ne (by omega)).trans (h3 x y hx)⟩
  · refine vM_go rfl rfl rfl rfl fun F hF => ?_
    (first | (refine (vlt (x := f 452 5) (y := 8) (by decide) (by rw [h]; exact hm)).trans ?_) | (refine (vF_g rfl rfl).trans ?_; refine (vF_g rfl rfl).trans ?_; refine (vlt (x := f 452 5) (y := 8) (by decide) (by rw [h]; exact hm)).trans ?_) | (refine (vF_g rfl rfl).trans ?_; refine (vlt (x := f 452 5) (y := 8) (by decide) (by rw [h]; exact hm)).trans ?_))
    (first | (refine (vbnd_1 e).trans ?_) | (refine (vF_g rfl rfl).trans ?_; refine (vF_g rfl rfl).trans ?_; refine (vbnd_1 e).trans ?_) | (refine (vF_g rfl rfl).trans ?_; refine (vbnd_1 e).trans ?_))
    (first | (exact rfl) | (refine (vF_g rfl rfl).trans ?_; refine (vF_g rfl rfl).trans ?_; exact rfl) | (refine (vF_g rfl rfl).trans ?_; refine (vF_g rfl rfl).trans ?_; refine (vF_g rfl rfl).trans ?_; exact rfl) | (refine (vF_g rfl rfl).trans ?_; exact rfl))
  · have := h1 i hi
    rw [Nat.zero_add] at this
    exact (vup_ne (Or.inl (by decide))).trans this
  · rw [vup_eq, q5]
    omega
theorem v_keepB_453 {D : Nat} {f : Vw} (h : f 452 5 = 8) : ∃ g, vM MT0 (D + 2) 258 [vR 452, vR 453] f = some ((1, 0), vW 3, g) ∧ (∀ i, i < 627 → g 457 (4389 + i) = f 453 i) ∧ (∀ i, i < 4389 → g 457 i = f 457 (i + 627)) ∧ g 452 5 = 8 ∧ ∀ x y, x ≠ 457 → (x ≠ 452 ∨ y ≠ 5) → g x y = f x y := by
  obtain ⟨F, hF, go⟩ := vM_at (D := D + 1) (y := 258) (as := [vR 452, vR 453]) (f := f) rfl rfl rfl rfl
  obtain ⟨g1, F', hF', e1, a1, a2, a3⟩ := kq_453 (D := D) 4389 0 (F + 58) f (by decide) (by omega)
  have p5 : g1 452 5 = 8 := (a3 _ _ (by decide)).trans h
  have p6 : gB9 0 (g1 452 5) 1 = 7 := by rw [p5, gB_0]; decide
  have p7 : vup g1 452 5 (gB9 0 (g1 452 5) 1) 452 5 = 7 := vup_eq.trans p6
  have e8 : gB9 1 627 (vup g1 452 5 (gB9 0 (g1 452 5) 1) 452 5) = 4389 := by rw [p7, im_627 (by decide)]
  obtain ⟨g, e, h1, h2, h3⟩ := v_cq_453_457 (D := D) (a0 := 0) (b0 := gB9 1 627 (vup g1 452 5 (gB9 0 (g1 452 5) 1) 452 5)) (f := vup g1 452 5 (gB9 0 (g1 452 5) 1)) (by decide) (by rw [e8]; decide)
  rw [e8] at h1 h2
  have q5 : g 452 5 = 7 := (h3 _ _ (by decide)).trans p7
  obtain ⟨F2, rfl⟩ : ∃ F2, F' = F2 + 3 := ⟨F' - 3, by omega⟩
  refine ⟨vup g 452 5 ((g 452 5 + 1) % 4294967296), go _ ?_, fun i hi => ?_, fun i hi => (vup_ne (Or.inl (by decide))).trans ((h2 i (by omega)).trans ((vup_ne (Or.inl (by decide))).trans (a1 i (Nat.zero_le i) hi))), ?_, fun x y hx hy => (vup_ne (by omega)).trans ((h3 x y hx).trans ((vup_ne (by omega)).trans (a3 x y hx)))⟩
  · refine (vF_g rfl rfl).trans ?_
    (first | (refine (veq (x := f 452 5) (y := 8) h).trans ?_) | (refine (vF_g rfl rfl).trans ?_; refine (vF_g rfl rfl).trans ?_; refine (veq (x := f 452 5) (y := 8) h).trans ?_) | (refine (vF_g rfl rfl).trans ?_; refine (veq (x := f 452 5) (y := 8) h).trans ?_))
    refine (vF_g rfl rfl).trans ?_
    (first | (refine Eq.trans (b := vFn (vM MT0 (D + 1)) nb_X11_keeps (F + 58) 2 0 [vR 452, vR 453, vI 0] [] f) rfl ?_) | (refine (vF_g rfl rfl).trans ?_; refine (vF_g rfl rfl).trans ?_; refine Eq.trans (b := vFn (vM MT0 (D + 1)) nb_X11_keeps (F + 58) 2 0 [vR 452, vR 453, vI 0] [] f) rfl ?_) | (refine (vF_g rfl rfl).trans ?_; refine Eq.trans (b := vFn (vM MT0 (D + 1)) nb_X11_keeps (F + 58) 2 0 [vR 452, vR 453, vI 0] [] f) rfl ?_))
    refine e1.trans ?_
    refine (vF_g rfl rfl).trans ?_
    (first | (refine Eq.trans (b := vFn (vM MT0 (D + 1)) nb_X11_keeps (F2 + 2) 5 0 [vR 452, vR 453, vI 4389] [] (vup g1 452 5 (gB9 0 (g1 452 5) 1))) rfl ?_) | (refine (vF_g rfl rfl).trans ?_; refine (vF_g rfl rfl).trans ?_; refine Eq.trans (b := vFn (vM MT0 (D + 1)) nb_X11_keeps (F2 + 2) 5 0 [vR 452, vR 453, vI 4389] [] (vup g1 452 5 (gB9 0 (g1 452 5) 1))) rfl ?_) | (refine (vF_g rfl rfl).trans ?_; refine Eq.trans (b := vFn (vM MT0 (D + 1)) nb_X11_keeps (F2 + 2) 5 0 [vR 452, vR 453, vI 4389] [] (vup g1 452 5 (gB9 0 (g1 452 5) 1))) rfl ?_))
    refine (vF_g rfl rfl).trans ?_
    (first | (refine (vbnd_1 e).trans ?_) | (refine (vF_g rfl rfl).trans ?_; refine (vF_g rfl rfl).trans ?_; refine (vbnd_1 e).trans ?_) | (refine (vF_g rfl rfl).trans ?_; refine (vbnd_1 e).trans ?_))
    (first | (exact rfl) | (refine (vF_g rfl rfl).trans ?_; refine (vF_g rfl rfl).trans ?_; exact rfl) | (refine (vF_g rfl rfl).trans ?_; refine (vF_g rfl rfl).trans ?_; refine (vF_g rfl rfl).trans ?_; exact rfl) | (refine (vF_g rfl rfl).trans ?_; exact rfl))
  · have := h1 i hi
    rw [Nat.zero_add] at this
    exact (vup_ne (Or.inl (by decide))).trans (this.trans ((vup_ne (by omega)).trans (a3 _ _ (by decide))))
  · rw [vup_eq, q5]
set_option maxRecDepth 20000 in
theorem kq_455 {D : Nat} : ∀ (m k F : Nat) (f : Vw), k + m = 4389 → 2 * m + 1 ≤ F → ∃ g F', F ≤ F' + (2 * m + 1) ∧ vFn (vM MT0 (D + 1)) nb_X11_keeps F 2 0 [vR 452, vR 455, vI k] [] f = vFn (vM MT0 (D + 1)) nb_X11_keeps F' 4 0 [vR 452, vR 455, vI 4389] [] g ∧ (∀ i, k ≤ i → i < 4389 → g 457 i = f 457 (i + 627)) ∧ (∀ i, i < k ∨ 4389 ≤ i → g 457 i = f 457 i) ∧ ∀ x y, x ≠ 457 → g x y = f x y := by
  intro m
  induction m with
  | zero =>
    intro k F f hk hF
    obtain ⟨F1, rfl⟩ : ∃ F1, F = F1 + 1 := ⟨F - 1, by omega⟩
    have e : k = 4389 := by omega
    subst e
    refine ⟨f, F1, by omega, ?_, fun i a b => by omega, fun _ _ => rfl, fun _ _ _ => rfl⟩
    refine (vF_g rfl rfl).trans ?_
    (first | (exact veq (x := 4389) (y := 4389) rfl) | (refine (vF_g rfl rfl).trans ?_; refine (vF_g rfl rfl).trans ?_; exact veq (x := 4389) (y := 4389) rfl) | (refine (vF_g rfl rfl).trans ?_; exact veq (x := 4389) (y := 4389) rfl))
  | succ m ih =>
    intro k F f hk hF
    obtain ⟨F1, rfl⟩ : ∃ F1, F = F1 + 2 := ⟨F - 2, by omega⟩
    have hX : (k + 627) % 4294967296 = k + 627 := by omega
    have hb : Nat.ble (k + 627 + 1) 5016 = true := Nat.ble_eq_true_of_le (by omega)
    have hc : Nat.ble (k + 1) 5016 = true := Nat.ble_eq_true_of_le (by omega)
    obtain ⟨g, F', hF', e, h1, h2, h3⟩ := ih (k + 1) F1 (vup f 457 k (f 457 (k + 627))) (by omega) (by omega)
    refine ⟨g, F', by omega, ?_, fun i a b => ?_, fun i a => (h2 i (by omega)).trans (vup_ne (Or.inr (by omega))), fun x y w => (h3 x y w).trans (vup_ne (Or.inl w))⟩
    · (first | (refine (vlt (x := k) (y := 4389) (by decide) (by omega)).trans ?_) | (refine (vF_g rfl rfl).trans ?_; refine (vF_g rfl rfl).trans ?_; refine (vlt (x := k) (y := 4389) (by decide) (by omega)).trans ?_) | (refine (vF_g rfl rfl).trans ?_; refine (vlt (x := k) (y := 4389) (by decide) (by omega)).trans ?_))
      (first | (refine Eq.trans (b := gd (Nat.ble ((k + 627) % 4294967296 + 1) 5016) (gd (Nat.ble (k + 1) 5016) (vFn (vM MT0 (D + 1)) nb_X11_keeps F1 2 0 [vR 452, vR 455, vI ((k + 1) % 4294967296)] [] (vup f 457 k (f 457 ((k + 627) % 4294967296)))))) rfl ?_) | (refine (vF_g rfl rfl).trans ?_; refine (vF_g rfl rfl).trans ?_; refine Eq.trans (b := gd (Nat.ble ((k + 627) % 4294967296 + 1) 5016) (gd (Nat.ble (k + 1) 5016) (vFn (vM MT0 (D + 1)) nb_X11_keeps F1 2 0 [vR 452, vR 455, vI ((k + 1) % 4294967296)] [] (vup f 457 k (f 457 ((k + 627) % 4294967296)))))) rfl ?_) | (refine (vF_g rfl rfl).trans ?_; refine Eq.trans (b := gd (Nat.ble ((k + 627) % 4294967296 + 1) 5016) (gd (Nat.ble (k + 1) 5016) (vFn (vM MT0 (D + 1)) nb_X11_keeps F1 2 0 [vR 452, vR 455, vI ((k + 1) % 4294967296)] [] (vup f 457 k (f 457 ((k + 627) % 4294967296)))))) rfl ?_))
      rw [hX, hb, hc, Nat.mod_eq_of_lt (show k + 1 < 4294967296 by omega)]
      exact e
    · by_cases r : i = k
      · subst r
        exact (h2 _ (by omega)).trans vup_eq
      · exact (h1 i (by omega) b).trans (vup_ne (Or.inr (by omega)))
theorem v_keepA_455 {D m : Nat} {f : Vw} (hm : m < 8) (h : f 452 5 = m) : ∃ g, vM MT0 (D + 2) 258 [vR 452, vR 455] f = some ((1, 0), vW 3, g) ∧ (∀ i, i < 627 → g 457 (627 * m + i) = f 455 i) ∧ (∀ i, i < 627 * m ∨ 627 * m + 627 ≤ i → g 457 i = f 457 i) ∧ g 452 5 = m + 1 ∧ ∀ x y, x ≠ 457 → (x ≠ 452 ∨ y ≠ 5) → g x y = f x y := by
  have e8 : gB9 1 627 (f 452 5) = 627 * m := by rw [h, im_627 hm]
  obtain ⟨g, e, h1, h2, h3⟩ := v_cq_455_457 (D := D) (a0 := 0) (b0 := gB9 1 627 (f 452 5)) (f := f) (by decide) (by rw [e8]; omega)
  rw [e8] at h1 h2
  have q5 : g 452 5 = m := (h3 _ _ (by decide)).trans h
  refine ⟨vup g 452 5 ((g 452 5 + 1) % 4294967296), ?_, fun i hi => ?_, fun i hi => (vup_ne (Or.inl (by decide))).trans (h2 i hi), ?_, fun x y hx hy => (vup_ne (by omega)).trans (h3 x y hx)⟩
  · refine vM_go rfl rfl rfl rfl fun F hF => ?_
    (first | (refine (vlt (x := f 452 5) (y := 8) (by decide) (by rw [h]; exact hm)).trans ?_) | (refine (vF_g rfl rfl).trans ?_; refine (vF_g rfl rfl).trans ?_; refine (vlt (x := f 452 5) (y := 8) (by decide) (by rw [h]; exact hm)).trans ?_) | (refine (vF_g rfl rfl).trans ?_; refine (vlt (x := f 452 5) (y := 8) (by decide) (by rw [h]; exact hm)).trans ?_))
    (first | (refine (vbnd_1 e).trans ?_) | (refine (vF_g rfl rfl).trans ?_; refine (vF_g rfl rfl).trans ?_; refine (vbnd_1 e).trans ?_) | (refine (vF_g rfl rfl).trans ?_; refine (vbnd_1 e).trans ?_))
    (first | (exact rfl) | (refine (vF_g rfl rfl).trans ?_; refine (vF_g rfl rfl).trans ?_; exact rfl) | (refine (vF_g rfl rfl).trans ?_; refine (vF_g rfl rfl).trans ?_; refine (vF_g rfl rfl).trans ?_; exact rfl) | (refine (vF_g rfl rfl).trans ?_; exact rfl))
  · have := h1 i hi
    rw [Nat.zero_add] at this
    exact (vup_ne (Or.inl (by decide))).trans this
  · rw [vup_eq, q5]
    omega
theorem v_keepB_455 {D : Nat} {f : Vw} (h : f 452 5 = 8) : ∃ g, vM MT0 (D + 2) 258 [vR 452, vR 455] f = some ((1, 0), vW 3, g) ∧ (∀ i, i < 627 → g 457 (4389 + i) = f 455 i) ∧ (∀ i, i < 4389 → g 457 i = f 457 (i + 627)) ∧ g 452 5 = 8 ∧ ∀ x y, x ≠ 457 → (x ≠ 452 ∨ y ≠ 5) → g x y = f x y := by
  obtain ⟨F, hF, go⟩ := vM_at (D := D + 1) (y := 258) (as := [vR 452, vR 455]) (f := f) rfl rfl rfl rfl
  obtain ⟨g1, F', hF', e1, a1, a2, a3⟩ := kq_455 (D := D) 4389 0 (F + 58) f (by decide) (by omega)
  have p5 : g1 452 5 = 8 := (a3 _ _ (by decide)).trans h
  have p6 : gB9 0 (g1 452 5) 1 = 7 := by rw [p5, gB_0]; decide
  have p7 : vup g1 452 5 (gB9 0 (g1 452 5) 1) 452 5 = 7 := vup_eq.trans p6
  have e8 : gB9 1 627 (vup g1 452 5 (gB9 0 (g1 452 5) 1) 452 5) = 4389 := by rw [p7, im_627 (by decide)]
  obtain ⟨g, e, h1, h2, h3⟩ := v_cq_455_457 (D := D) (a0 := 0) (b0 := gB9 1 627 (vup g1 452 5 (gB9 0 (g1 452 5) 1) 452 5)) (f := vup g1 452 5 (gB9 0 (g1 452 5) 1)) (by decide) (by rw [e8]; decide)
  rw [e8] at h1 h2
  have q5 : g 452 5 = 7 := (h3 _ _ (by decide)).trans p7
  obtain ⟨F2, rfl⟩ : ∃ F2, F' = F2 + 3 := ⟨F' - 3, by omega⟩
  refine ⟨vup g 452 5 ((g 452 5 + 1) % 4294967296), go _ ?_, fun i hi => ?_, fun i hi => (vup_ne (Or.inl (by decide))).trans ((h2 i (by omega)).trans ((vup_ne (Or.inl (by decide))).trans (a1 i (Nat.zero_le i) hi))), ?_, fun x y hx hy => (vup_ne (by omega)).trans ((h3 x y hx).trans ((vup_ne (by omega)).trans (a3 x y hx)))⟩
  · refine (vF_g rfl rfl).trans ?_
    (first | (refine (veq (x := f 452 5) (y := 8) h).trans ?_) | (refine (vF_g rfl rfl).trans ?_; refine (vF_g rfl rfl).trans ?_; refine (veq (x := f 452 5) (y := 8) h).trans ?_) | (refine (vF_g rfl rfl).trans ?_; refine (veq (x := f 452 5) (y := 8) h).trans ?_))
    refine (vF_g rfl rfl).trans ?_
    (first | (refine Eq.trans (b := vFn (vM MT0 (D + 1)) nb_X11_keeps (F + 58) 2 0 [vR 452, vR 455, vI 0] [] f) rfl ?_) | (refine (vF_g rfl rfl).trans ?_; refine (vF_g rfl rfl).trans ?_; refine Eq.trans (b := vFn (vM MT0 (D + 1)) nb_X11_keeps (F + 58) 2 0 [vR 452, vR 455, vI 0] [] f) rfl ?_) | (refine (vF_g rfl rfl).trans ?_; refine Eq.trans (b := vFn (vM MT0 (D + 1)) nb_X11_keeps (F + 58) 2 0 [vR 452, vR 455, vI 0] [] f) rfl ?_))
    refine e1.trans ?_
    refine (vF_g rfl rfl).trans ?_
    (first | (refine Eq.trans (b := vFn (vM MT0 (D + 1)) nb_X11_keeps (F2 + 2) 5 0 [vR 452, vR 455, vI 4389] [] (vup g1 452 5 (gB9 0 (g1 452 5) 1))) rfl ?_) | (refine (vF_g rfl rfl).trans ?_; refine (vF_g rfl rfl).trans ?_; refine Eq.trans (b := vFn (vM MT0 (D + 1)) nb_X11_keeps (F2 + 2) 5 0 [vR 452, vR 455, vI 4389] [] (vup g1 452 5 (gB9 0 (g1 452 5) 1))) rfl ?_) | (refine (vF_g rfl rfl).trans ?_; refine Eq.trans (b := vFn (vM MT0 (D + 1)) nb_X11_keeps (F2 + 2) 5 0 [vR 452, vR 455, vI 4389] [] (vup g1 452 5 (gB9 0 (g1 452 5) 1))) rfl ?_))
    refine (vF_g rfl rfl).trans ?_
    (first | (refine (vbnd_1 e).trans ?_) | (refine (vF_g rfl rfl).trans ?_; refine (vF_g rfl rfl).trans ?_; refine (vbnd_1 e).trans ?_) | (refine (vF_g rfl rfl).trans ?_; refine (vbnd_1 e).trans ?_))
    (first | (exact rfl) | (refine (vF_g rfl rfl).trans ?_; refine (vF_g rfl rfl).trans ?_; exact rfl) | (refine (vF_g rfl rfl).trans ?_; refine (vF_g rfl rfl).trans ?_; refine (vF_g rfl rfl).trans ?_; exact rfl) | (refine (vF_g rfl rfl).trans ?_; exact rfl))
  · have := h1 i hi
    rw [Nat.zero_add] at this
    exact (vup_ne (Or.inl (by decide))).trans (this.trans ((vup_ne (by omega)).trans (a3 _ _ (by decide))))
  · rw [vup_eq, q5]
