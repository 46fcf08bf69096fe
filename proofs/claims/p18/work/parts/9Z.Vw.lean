/-! save, restore, undo on views -/
theorem v_saveC {D : Nat} {f : Vw} (k2 : f 7 2 ≤ 12) (k3 : f 7 3 ≤ 8) : ∃ g, vM MT0 (D + 3) 157 [vR 0] f = some ((0, 0), vI (g 7 4), vup g 0 7 1) ∧ CpW 87 7 f g := by
  obtain ⟨g, e, hg⟩ := v_cp_87_7 (D := D) (f := f) k2 k3
  exact ⟨g, vM_go rfl rfl rfl rfl fun F hF => (by (first | (refine (vbnd_1 e).trans ?_) | (refine (vF_g rfl rfl).trans ?_; refine (vF_g rfl rfl).trans ?_; refine (vbnd_1 e).trans ?_) | (refine (vF_g rfl rfl).trans ?_; refine (vbnd_1 e).trans ?_)); (first | (exact rfl) | (refine (vF_g rfl rfl).trans ?_; refine (vF_g rfl rfl).trans ?_; exact rfl) | (refine (vF_g rfl rfl).trans ?_; refine (vF_g rfl rfl).trans ?_; refine (vF_g rfl rfl).trans ?_; exact rfl) | (refine (vF_g rfl rfl).trans ?_; exact rfl))), hg⟩
theorem v_restC1 {D : Nat} {f : Vw} (k2 : f 87 2 ≤ 12) (k3 : f 87 3 ≤ 8) (h : f 0 7 = 1) : ∃ g, vM MT0 (D + 3) 158 [vR 0] f = some ((0, 0), vI (vup g 126 2 0 7 4), vup g 126 2 0) ∧ CpW 7 87 f g := by
  obtain ⟨g, e, hg⟩ := v_cp_7_87 (D := D) (f := f) k2 k3
  exact ⟨g, vM_go rfl rfl rfl rfl fun F hF => (by (first | (refine (vgt (x := f 0 7) (y := 0) (by rw [h]; decide) (by rw [h]; decide)).trans ?_) | (refine (vF_g rfl rfl).trans ?_; refine (vF_g rfl rfl).trans ?_; refine (vgt (x := f 0 7) (y := 0) (by rw [h]; decide) (by rw [h]; decide)).trans ?_) | (refine (vF_g rfl rfl).trans ?_; refine (vgt (x := f 0 7) (y := 0) (by rw [h]; decide) (by rw [h]; decide)).trans ?_)); (first | (refine (vbnd_1 e).trans ?_) | (refine (vF_g rfl rfl).trans ?_; refine (vF_g rfl rfl).trans ?_; refine (vbnd_1 e).trans ?_) | (refine (vF_g rfl rfl).trans ?_; refine (vbnd_1 e).trans ?_)); (first | (exact rfl) | (refine (vF_g rfl rfl).trans ?_; refine (vF_g rfl rfl).trans ?_; exact rfl) | (refine (vF_g rfl rfl).trans ?_; refine (vF_g rfl rfl).trans ?_; refine (vF_g rfl rfl).trans ?_; exact rfl) | (refine (vF_g rfl rfl).trans ?_; exact rfl))), hg⟩
theorem v_restC0 {D : Nat} {f : Vw} (h : f 0 7 = 0) : vM MT0 (D + 3) 158 [vR 0] f = some ((2, 0), vW 3, f) := vM_go rfl rfl rfl rfl fun F hF => (by (first | (refine (veq (x := f 0 7) (y := 0) h).trans ?_) | (refine (vF_g rfl rfl).trans ?_; refine (vF_g rfl rfl).trans ?_; refine (veq (x := f 0 7) (y := 0) h).trans ?_) | (refine (vF_g rfl rfl).trans ?_; refine (veq (x := f 0 7) (y := 0) h).trans ?_)); (first | (exact rfl) | (refine (vF_g rfl rfl).trans ?_; refine (vF_g rfl rfl).trans ?_; exact rfl) | (refine (vF_g rfl rfl).trans ?_; refine (vF_g rfl rfl).trans ?_; refine (vF_g rfl rfl).trans ?_; exact rfl) | (refine (vF_g rfl rfl).trans ?_; exact rfl)))
theorem v_saveR {D : Nat} {f : Vw} : ∃ g, vM MT0 (D + 2) 329 [vR 452] f = some ((0, 0), vI (vup g 452 7 1 453 2), vup g 452 7 1) ∧ (∀ i, i < 627 → g 454 i = f 453 i) ∧ ∀ x y, x ≠ 454 → g x y = vup f 452 6 0 x y := by
  obtain ⟨g, e, h1, h2, h3⟩ := v_cq_453_454 (D := D) (a0 := 0) (b0 := 0) (f := vup f 452 6 0) (by decide) (by decide)
  refine ⟨g, vM_go rfl rfl rfl rfl fun F hF => (by (first | (refine (vbnd_1 e).trans ?_) | (refine (vF_g rfl rfl).trans ?_; refine (vF_g rfl rfl).trans ?_; refine (vbnd_1 e).trans ?_) | (refine (vF_g rfl rfl).trans ?_; refine (vbnd_1 e).trans ?_)); (first | (exact rfl) | (refine (vF_g rfl rfl).trans ?_; refine (vF_g rfl rfl).trans ?_; exact rfl) | (refine (vF_g rfl rfl).trans ?_; refine (vF_g rfl rfl).trans ?_; refine (vF_g rfl rfl).trans ?_; exact rfl) | (refine (vF_g rfl rfl).trans ?_; exact rfl))), fun i hi => ?_, h3⟩
  have := h1 i hi
  rw [Nat.zero_add] at this
  exact this.trans (vup_ne (Or.inl (by decide)))
theorem v_restR0 {D : Nat} {f : Vw} (h : f 452 7 = 0) : vM MT0 (D + 2) 330 [vR 452] f = some ((0, 0), vI 0, vup f 452 6 1) := by
  obtain ⟨f0, rfl⟩ : ∃ f0, f = vup f0 452 7 0 := ⟨f, (vup_id h).symm⟩
  have p := v_passes (D := D) (b := 0) (f := vup f0 452 7 0) (Or.inl rfl)
  refine vM_go rfl rfl rfl rfl fun F hF => ?_
  (first | (refine (vbnd_0 p).trans ?_) | (refine (vF_g rfl rfl).trans ?_; refine (vF_g rfl rfl).trans ?_; refine (vbnd_0 p).trans ?_) | (refine (vF_g rfl rfl).trans ?_; refine (vbnd_0 p).trans ?_))
  (first | (refine (veq (x := 0) (y := 0) rfl).trans ?_) | (refine (vF_g rfl rfl).trans ?_; refine (vF_g rfl rfl).trans ?_; refine (veq (x := 0) (y := 0) rfl).trans ?_) | (refine (vF_g rfl rfl).trans ?_; refine (veq (x := 0) (y := 0) rfl).trans ?_))
  (first | (exact rfl) | (refine (vF_g rfl rfl).trans ?_; refine (vF_g rfl rfl).trans ?_; exact rfl) | (refine (vF_g rfl rfl).trans ?_; refine (vF_g rfl rfl).trans ?_; refine (vF_g rfl rfl).trans ?_; exact rfl) | (refine (vF_g rfl rfl).trans ?_; exact rfl))
theorem v_restR1 {D : Nat} {f : Vw} (h : f 452 7 = 1) : ∃ g, vM MT0 (D + 2) 330 [vR 452] f = some ((0, 0), vI (vup g 452 5 0 453 2), vup g 452 5 0) ∧ (∀ i, i < 627 → g 453 i = f 454 i) ∧ ∀ x y, x ≠ 453 → g x y = vup f 452 6 0 x y := by
  obtain ⟨f0, rfl⟩ : ∃ f0, f = vup f0 452 7 1 := ⟨f, (vup_id h).symm⟩
  have p := v_passes (D := D) (b := 1) (f := vup f0 452 7 1) (Or.inr rfl)
  obtain ⟨g, e, h1, h2, h3⟩ := v_cq_454_453 (D := D) (a0 := 0) (b0 := 0) (f := vup (vup f0 452 7 1) 452 6 (1 - 1)) (by decide) (by decide)
  refine ⟨g, vM_go rfl rfl rfl rfl fun F hF => (by (first | (refine (vbnd_0 p).trans ?_) | (refine (vF_g rfl rfl).trans ?_; refine (vF_g rfl rfl).trans ?_; refine (vbnd_0 p).trans ?_) | (refine (vF_g rfl rfl).trans ?_; refine (vbnd_0 p).trans ?_)); (first | (refine (vgt (x := 1) (y := 0) (by decide) (by decide)).trans ?_) | (refine (vF_g rfl rfl).trans ?_; refine (vF_g rfl rfl).trans ?_; refine (vgt (x := 1) (y := 0) (by decide) (by decide)).trans ?_) | (refine (vF_g rfl rfl).trans ?_; refine (vgt (x := 1) (y := 0) (by decide) (by decide)).trans ?_)); (first | (refine (vbnd_1 e).trans ?_) | (refine (vF_g rfl rfl).trans ?_; refine (vF_g rfl rfl).trans ?_; refine (vbnd_1 e).trans ?_) | (refine (vF_g rfl rfl).trans ?_; refine (vbnd_1 e).trans ?_)); (first | (exact rfl) | (refine (vF_g rfl rfl).trans ?_; refine (vF_g rfl rfl).trans ?_; exact rfl) | (refine (vF_g rfl rfl).trans ?_; refine (vF_g rfl rfl).trans ?_; refine (vF_g rfl rfl).trans ?_; exact rfl) | (refine (vF_g rfl rfl).trans ?_; exact rfl))), fun i hi => ?_, h3⟩
  have := h1 i hi
  rw [Nat.zero_add] at this
  exact this.trans (vup_ne (Or.inl (by decide)))
theorem im_627 {m : Nat} (h : m < 8) : gB9 1 627 m = 627 * m := by
  rw [gB_1]
  rcases (show m = 0 ∨ m = 1 ∨ m = 2 ∨ m = 3 ∨ m = 4 ∨ m = 5 ∨ m = 6 ∨ m = 7 by omega) with rfl | rfl | rfl | rfl | rfl | rfl | rfl | rfl <;> decide
theorem v_undoR0 {D : Nat} {f : Vw} (h : f 452 5 = 0) : vM MT0 (D + 2) 328 [vR 452] f = some ((0, 0), vI 0, vup f 452 6 1) := by
  have p := v_passes (D := D) (b := 0) (f := f) (Or.inl rfl)
  refine vM_go rfl rfl rfl rfl fun F hF => ?_
  (first | (refine (veq (x := f 452 5) (y := 0) h).trans ?_) | (refine (vF_g rfl rfl).trans ?_; refine (vF_g rfl rfl).trans ?_; refine (veq (x := f 452 5) (y := 0) h).trans ?_) | (refine (vF_g rfl rfl).trans ?_; refine (veq (x := f 452 5) (y := 0) h).trans ?_))
  (first | (refine (vbnd_0 p).trans ?_) | (refine (vF_g rfl rfl).trans ?_; refine (vF_g rfl rfl).trans ?_; refine (vbnd_0 p).trans ?_) | (refine (vF_g rfl rfl).trans ?_; refine (vbnd_0 p).trans ?_))
  (first | (refine (veq (x := 0) (y := 0) rfl).trans ?_) | (refine (vF_g rfl rfl).trans ?_; refine (vF_g rfl rfl).trans ?_; refine (veq (x := 0) (y := 0) rfl).trans ?_) | (refine (vF_g rfl rfl).trans ?_; refine (veq (x := 0) (y := 0) rfl).trans ?_))
  (first | (exact rfl) | (refine (vF_g rfl rfl).trans ?_; refine (vF_g rfl rfl).trans ?_; exact rfl) | (refine (vF_g rfl rfl).trans ?_; refine (vF_g rfl rfl).trans ?_; refine (vF_g rfl rfl).trans ?_; exact rfl) | (refine (vF_g rfl rfl).trans ?_; exact rfl))
theorem v_undoR {D m : Nat} {f : Vw} (hm : m < 8) (h : f 452 5 = m + 1) : ∃ g, vM MT0 (D + 2) 328 [vR 452] f = some ((0, 0), vI (g 452 5), g) ∧ (∀ i, i < 627 → g 453 i = f 457 (627 * m + i)) ∧ g 452 5 = m ∧ ∀ x y, x ≠ 453 → (x ≠ 452 ∨ y ≠ 5 ∧ y ≠ 6) → g x y = f x y := by
  have p := v_passes (D := D) (b := 1) (f := f) (Or.inr rfl)
  have e5 : vup f 452 6 (1 - 1) 452 5 = m + 1 := (vup_ne (Or.inr (by decide))).trans h
  have e6 : gB9 0 (vup f 452 6 (1 - 1) 452 5) 1 = m := by
    rw [e5, gB_0]
    unfold g_sub
    omega
  have e7 : vup (vup f 452 6 (1 - 1)) 452 5 (gB9 0 (vup f 452 6 (1 - 1) 452 5) 1) 452 5 = m := vup_eq.trans e6
  have e8 : gB9 1 627 (vup (vup f 452 6 (1 - 1)) 452 5 (gB9 0 (vup f 452 6 (1 - 1) 452 5) 1) 452 5) = 627 * m := by rw [e7, im_627 hm]
  obtain ⟨g, e, h1, h2, h3⟩ := v_cq_457_453 (D := D) (a0 := gB9 1 627 (vup (vup f 452 6 (1 - 1)) 452 5 (gB9 0 (vup f 452 6 (1 - 1) 452 5) 1) 452 5)) (b0 := 0) (f := vup (vup f 452 6 (1 - 1)) 452 5 (gB9 0 (vup f 452 6 (1 - 1) 452 5) 1)) (by rw [e8]; omega) (by decide)
  refine ⟨g, ?_, fun i hi => ?_, (h3 _ _ (by decide)).trans e7, fun x y hx hy => (h3 x y hx).trans ((vup_ne (by omega)).trans (vup_ne (by omega)))⟩
  · refine vM_go rfl rfl rfl rfl fun F hF => ?_
    (first | (refine (vgt (x := f 452 5) (y := 0) (by rw [h]; omega) (by rw [h]; omega)).trans ?_) | (refine (vF_g rfl rfl).trans ?_; refine (vF_g rfl rfl).trans ?_; refine (vgt (x := f 452 5) (y := 0) (by rw [h]; omega) (by rw [h]; omega)).trans ?_) | (refine (vF_g rfl rfl).trans ?_; refine (vgt (x := f 452 5) (y := 0) (by rw [h]; omega) (by rw [h]; omega)).trans ?_))
    (first | (refine (vbnd_0 p).trans ?_) | (refine (vF_g rfl rfl).trans ?_; refine (vF_g rfl rfl).trans ?_; refine (vbnd_0 p).trans ?_) | (refine (vF_g rfl rfl).trans ?_; refine (vbnd_0 p).trans ?_))
    (first | (refine (vgt (x := 1) (y := 0) (by decide) (by decide)).trans ?_) | (refine (vF_g rfl rfl).trans ?_; refine (vF_g rfl rfl).trans ?_; refine (vgt (x := 1) (y := 0) (by decide) (by decide)).trans ?_) | (refine (vF_g rfl rfl).trans ?_; refine (vgt (x := 1) (y := 0) (by decide) (by decide)).trans ?_))
    (first | (refine (vbnd_1 e).trans ?_) | (refine (vF_g rfl rfl).trans ?_; refine (vF_g rfl rfl).trans ?_; refine (vbnd_1 e).trans ?_) | (refine (vF_g rfl rfl).trans ?_; refine (vbnd_1 e).trans ?_))
    (first | (exact rfl) | (refine (vF_g rfl rfl).trans ?_; refine (vF_g rfl rfl).trans ?_; exact rfl) | (refine (vF_g rfl rfl).trans ?_; refine (vF_g rfl rfl).trans ?_; refine (vF_g rfl rfl).trans ?_; exact rfl) | (refine (vF_g rfl rfl).trans ?_; exact rfl))
  · have := h1 i hi
    rw [Nat.zero_add, e8] at this
    exact this.trans ((vup_ne (Or.inl (by decide))).trans (vup_ne (Or.inl (by decide))))
