/-! the history: an operation kept, one taken back -/
set_option maxRecDepth 100000 in
theorem v_push_0 {D : Nat} {f0 : Vw} (hc8 : f0 126 2 ≤ 8) (k2 : f0 7 2 ≤ 12) (k3 : f0 7 3 ≤ 8) : ∃ g1 g, vM MT0 (D + 3) 27 [vR 126, vR 7] (vup f0 126 1 0) = some ((1, 0), vW 3, g) ∧ CpW 128 7 (vup f0 126 1 0) g1 ∧ (∀ k i, k ≠ 126 → g k i = g1 k i) ∧ g 126 1 = 1 ∧ g 126 2 = (if f0 126 2 < 8 then f0 126 2 + 1 else 8) := by
  obtain ⟨g1, e, hg⟩ := v_cp_128_7 (D := D) (f := vup f0 126 1 0) k2 k3
  have q1 : g1 126 1 = 0 := (hg.2.2.2 126 1 (by decide)).trans vup_eq
  have q2 : g1 126 2 = f0 126 2 := (hg.2.2.2 126 2 (by decide)).trans (vup_ne (Or.inr (by decide)))
  obtain ⟨g9, rfl⟩ : ∃ g9, g1 = vup g9 126 1 0 := ⟨g1, (vup_id q1).symm⟩
  have q3 : vup (vup g9 126 1 0) 126 1 1 126 2 = f0 126 2 := (vup_ne (Or.inr (by decide))).trans q2
  by_cases q : f0 126 2 < 8
  · refine ⟨_, vup (vup (vup g9 126 1 0) 126 1 1) 126 2 ((vup (vup g9 126 1 0) 126 1 1 126 2 + 1) % 4294967296), ?_, hg, fun k i h => (vup_ne (Or.inl h)).trans (vup_ne (Or.inl h)), (vup_ne (Or.inr (by decide))).trans vup_eq, ?_⟩
    · refine vM_go rfl rfl rfl rfl fun F hF => ?_
      (first | (refine (vbnd_1 e).trans ?_) | (refine (vF_g rfl rfl).trans ?_; refine (vF_g rfl rfl).trans ?_; refine (vbnd_1 e).trans ?_) | (refine (vF_g rfl rfl).trans ?_; refine (vbnd_1 e).trans ?_))
      (first | (refine (vlt (x := 1) (y := 8) (by decide) (by decide)).trans ?_) | (refine (vF_g rfl rfl).trans ?_; refine (vF_g rfl rfl).trans ?_; refine (vlt (x := 1) (y := 8) (by decide) (by decide)).trans ?_) | (refine (vF_g rfl rfl).trans ?_; refine (vlt (x := 1) (y := 8) (by decide) (by decide)).trans ?_))
      (first | (refine (vlt (x := vup (vup g9 126 1 0) 126 1 1 126 2) (y := 8) (by decide) (by rw [q3]; exact q)).trans ?_) | (refine (vF_g rfl rfl).trans ?_; refine (vF_g rfl rfl).trans ?_; refine (vlt (x := vup (vup g9 126 1 0) 126 1 1 126 2) (y := 8) (by decide) (by rw [q3]; exact q)).trans ?_) | (refine (vF_g rfl rfl).trans ?_; refine (vlt (x := vup (vup g9 126 1 0) 126 1 1 126 2) (y := 8) (by decide) (by rw [q3]; exact q)).trans ?_))
      (first | (exact rfl) | (refine (vF_g rfl rfl).trans ?_; refine (vF_g rfl rfl).trans ?_; exact rfl) | (refine (vF_g rfl rfl).trans ?_; refine (vF_g rfl rfl).trans ?_; refine (vF_g rfl rfl).trans ?_; exact rfl) | (refine (vF_g rfl rfl).trans ?_; exact rfl))
    · rw [vup_eq, q3, if_pos q, Nat.mod_eq_of_lt (by omega)]
  · refine ⟨_, vup (vup g9 126 1 0) 126 1 1, ?_, hg, fun k i h => vup_ne (Or.inl h), vup_eq, ?_⟩
    · refine vM_go rfl rfl rfl rfl fun F hF => ?_
      (first | (refine (vbnd_1 e).trans ?_) | (refine (vF_g rfl rfl).trans ?_; refine (vF_g rfl rfl).trans ?_; refine (vbnd_1 e).trans ?_) | (refine (vF_g rfl rfl).trans ?_; refine (vbnd_1 e).trans ?_))
      (first | (refine (vlt (x := 1) (y := 8) (by decide) (by decide)).trans ?_) | (refine (vF_g rfl rfl).trans ?_; refine (vF_g rfl rfl).trans ?_; refine (vlt (x := 1) (y := 8) (by decide) (by decide)).trans ?_) | (refine (vF_g rfl rfl).trans ?_; refine (vlt (x := 1) (y := 8) (by decide) (by decide)).trans ?_))
      (first | (refine (vge2 (x := vup (vup g9 126 1 0) 126 1 1 126 2) (y := 8) (by rw [q3]; omega) (by rw [q3]; omega)).trans ?_) | (refine (vF_g rfl rfl).trans ?_; refine (vF_g rfl rfl).trans ?_; refine (vge2 (x := vup (vup g9 126 1 0) 126 1 1 126 2) (y := 8) (by rw [q3]; omega) (by rw [q3]; omega)).trans ?_) | (refine (vF_g rfl rfl).trans ?_; refine (vge2 (x := vup (vup g9 126 1 0) 126 1 1 126 2) (y := 8) (by rw [q3]; omega) (by rw [q3]; omega)).trans ?_))
      (first | (exact rfl) | (refine (vF_g rfl rfl).trans ?_; refine (vF_g rfl rfl).trans ?_; exact rfl) | (refine (vF_g rfl rfl).trans ?_; refine (vF_g rfl rfl).trans ?_; refine (vF_g rfl rfl).trans ?_; exact rfl) | (refine (vF_g rfl rfl).trans ?_; exact rfl))
    · rw [q3, if_neg q]
      omega
set_option maxRecDepth 100000 in
theorem v_pop_0 {D : Nat} {f0 : Vw} (hc : 1 ≤ f0 126 2) (hc8 : f0 126 2 ≤ 8) (k2 : f0 128 2 ≤ 12) (k3 : f0 128 3 ≤ 8) : ∃ g1 g, vM MT0 (D + 3) 28 [vR 126, vR 7] (vup f0 126 1 1) = some ((1, 0), vW 3, g) ∧ CpW 7 128 (vup (vup f0 126 1 1) 126 1 0) g1 ∧ (∀ k i, k ≠ 126 → g k i = g1 k i) ∧ g 126 1 = 0 ∧ g 126 2 = f0 126 2 - 1 := by
  obtain ⟨g1, e, hg⟩ := v_cp_7_128 (D := D) (f := vup (vup f0 126 1 1) 126 1 0) k2 k3
  have q1 : g1 126 1 = 0 := (hg.2.2.2 126 1 (by decide)).trans vup_eq
  have q2 : g1 126 2 = f0 126 2 := (hg.2.2.2 126 2 (by decide)).trans ((vup_ne (Or.inr (by decide))).trans (vup_ne (Or.inr (by decide))))
  refine ⟨g1, vup g1 126 2 (gB9 0 (g1 126 2) 1), ?_, hg, fun k i h => vup_ne (Or.inl h), (vup_ne (Or.inr (by decide))).trans q1, ?_⟩
  · have h : gB9 0 (vup f0 126 1 1 126 1) 1 = 0 := by rw [vup_eq, gB_0]; decide
    refine vM_go rfl rfl rfl rfl fun F hF => ?_
    refine (vF_g rfl rfl).trans ?_
    (first | (refine (vge2 (x := f0 126 2) (y := 1) (by omega) hc).trans ?_) | (refine (vF_g rfl rfl).trans ?_; refine (vF_g rfl rfl).trans ?_; refine (vge2 (x := f0 126 2) (y := 1) (by omega) hc).trans ?_) | (refine (vF_g rfl rfl).trans ?_; refine (vge2 (x := f0 126 2) (y := 1) (by omega) hc).trans ?_))
    refine (vF_g rfl rfl).trans ?_
    (first | (refine (vgt (x := 1) (y := 0) (by decide) (by decide)).trans ?_) | (refine (vF_g rfl rfl).trans ?_; refine (vF_g rfl rfl).trans ?_; refine (vgt (x := 1) (y := 0) (by decide) (by decide)).trans ?_) | (refine (vF_g rfl rfl).trans ?_; refine (vgt (x := 1) (y := 0) (by decide) (by decide)).trans ?_))
    refine (vF_g rfl rfl).trans ?_
    (first | (refine Eq.trans (b := vFn (vM MT0 (D + 2)) nb_X4_pop (F + 57) 5 0 (iniL 2 [vR 126, vR 7]) [vI (gB9 0 (vup f0 126 1 1 126 1) 1), nth (iniL 2 [vR 126, vR 7]) 0] (vup f0 126 1 1)) rfl ?_) | (refine (vF_g rfl rfl).trans ?_; refine (vF_g rfl rfl).trans ?_; refine Eq.trans (b := vFn (vM MT0 (D + 2)) nb_X4_pop (F + 57) 5 0 (iniL 2 [vR 126, vR 7]) [vI (gB9 0 (vup f0 126 1 1 126 1) 1), nth (iniL 2 [vR 126, vR 7]) 0] (vup f0 126 1 1)) rfl ?_) | (refine (vF_g rfl rfl).trans ?_; refine Eq.trans (b := vFn (vM MT0 (D + 2)) nb_X4_pop (F + 57) 5 0 (iniL 2 [vR 126, vR 7]) [vI (gB9 0 (vup f0 126 1 1 126 1) 1), nth (iniL 2 [vR 126, vR 7]) 0] (vup f0 126 1 1)) rfl ?_))
    rw [h]
    refine (vF_g rfl rfl).trans ?_
    (first | (refine (vbnd_1 e).trans ?_) | (refine (vF_g rfl rfl).trans ?_; refine (vF_g rfl rfl).trans ?_; refine (vbnd_1 e).trans ?_) | (refine (vF_g rfl rfl).trans ?_; refine (vbnd_1 e).trans ?_))
    exact rfl
  · rw [vup_eq, q2, gB_0]
    unfold g_sub
    omega
set_option maxRecDepth 100000 in
theorem v_push_1 {D : Nat} {f0 : Vw} (hc8 : f0 126 2 ≤ 8) (k2 : f0 7 2 ≤ 12) (k3 : f0 7 3 ≤ 8) : ∃ g1 g, vM MT0 (D + 3) 27 [vR 126, vR 7] (vup f0 126 1 1) = some ((1, 0), vW 3, g) ∧ CpW 167 7 (vup f0 126 1 1) g1 ∧ (∀ k i, k ≠ 126 → g k i = g1 k i) ∧ g 126 1 = 2 ∧ g 126 2 = (if f0 126 2 < 8 then f0 126 2 + 1 else 8) := by
  obtain ⟨g1, e, hg⟩ := v_cp_167_7 (D := D) (f := vup f0 126 1 1) k2 k3
  have q1 : g1 126 1 = 1 := (hg.2.2.2 126 1 (by decide)).trans vup_eq
  have q2 : g1 126 2 = f0 126 2 := (hg.2.2.2 126 2 (by decide)).trans (vup_ne (Or.inr (by decide)))
  obtain ⟨g9, rfl⟩ : ∃ g9, g1 = vup g9 126 1 1 := ⟨g1, (vup_id q1).symm⟩
  have q3 : vup (vup g9 126 1 1) 126 1 2 126 2 = f0 126 2 := (vup_ne (Or.inr (by decide))).trans q2
  by_cases q : f0 126 2 < 8
  · refine ⟨_, vup (vup (vup g9 126 1 1) 126 1 2) 126 2 ((vup (vup g9 126 1 1) 126 1 2 126 2 + 1) % 4294967296), ?_, hg, fun k i h => (vup_ne (Or.inl h)).trans (vup_ne (Or.inl h)), (vup_ne (Or.inr (by decide))).trans vup_eq, ?_⟩
    · refine vM_go rfl rfl rfl rfl fun F hF => ?_
      (first | (refine (vbnd_1 e).trans ?_) | (refine (vF_g rfl rfl).trans ?_; refine (vF_g rfl rfl).trans ?_; refine (vbnd_1 e).trans ?_) | (refine (vF_g rfl rfl).trans ?_; refine (vbnd_1 e).trans ?_))
      (first | (refine (vlt (x := 2) (y := 8) (by decide) (by decide)).trans ?_) | (refine (vF_g rfl rfl).trans ?_; refine (vF_g rfl rfl).trans ?_; refine (vlt (x := 2) (y := 8) (by decide) (by decide)).trans ?_) | (refine (vF_g rfl rfl).trans ?_; refine (vlt (x := 2) (y := 8) (by decide) (by decide)).trans ?_))
      (first | (refine (vlt (x := vup (vup g9 126 1 1) 126 1 2 126 2) (y := 8) (by decide) (by rw [q3]; exact q)).trans ?_) | (refine (vF_g rfl rfl).trans ?_; refine (vF_g rfl rfl).trans ?_; refine (vlt (x := vup (vup g9 126 1 1) 126 1 2 126 2) (y := 8) (by decide) (by rw [q3]; exact q)).trans ?_) | (refine (vF_g rfl rfl).trans ?_; refine (vlt (x := vup (vup g9 126 1 1) 126 1 2 126 2) (y := 8) (by decide) (by rw [q3]; exact q)).trans ?_))
      (first | (exact rfl) | (refine (vF_g rfl rfl).trans ?_; refine (vF_g rfl rfl).trans ?_; exact rfl) | (refine (vF_g rfl rfl).trans ?_; refine (vF_g rfl rfl).trans ?_; refine (vF_g rfl rfl).trans ?_; exact rfl) | (refine (vF_g rfl rfl).trans ?_; exact rfl))
    · rw [vup_eq, q3, if_pos q, Nat.mod_eq_of_lt (by omega)]
  · refine ⟨_, vup (vup g9 126 1 1) 126 1 2, ?_, hg, fun k i h => vup_ne (Or.inl h), vup_eq, ?_⟩
    · refine vM_go rfl rfl rfl rfl fun F hF => ?_
      (first | (refine (vbnd_1 e).trans ?_) | (refine (vF_g rfl rfl).trans ?_; refine (vF_g rfl rfl).trans ?_; refine (vbnd_1 e).trans ?_) | (refine (vF_g rfl rfl).trans ?_; refine (vbnd_1 e).trans ?_))
      (first | (refine (vlt (x := 2) (y := 8) (by decide) (by decide)).trans ?_) | (refine (vF_g rfl rfl).trans ?_; refine (vF_g rfl rfl).trans ?_; refine (vlt (x := 2) (y := 8) (by decide) (by decide)).trans ?_) | (refine (vF_g rfl rfl).trans ?_; refine (vlt (x := 2) (y := 8) (by decide) (by decide)).trans ?_))
      (first | (refine (vge2 (x := vup (vup g9 126 1 1) 126 1 2 126 2) (y := 8) (by rw [q3]; omega) (by rw [q3]; omega)).trans ?_) | (refine (vF_g rfl rfl).trans ?_; refine (vF_g rfl rfl).trans ?_; refine (vge2 (x := vup (vup g9 126 1 1) 126 1 2 126 2) (y := 8) (by rw [q3]; omega) (by rw [q3]; omega)).trans ?_) | (refine (vF_g rfl rfl).trans ?_; refine (vge2 (x := vup (vup g9 126 1 1) 126 1 2 126 2) (y := 8) (by rw [q3]; omega) (by rw [q3]; omega)).trans ?_))
      (first | (exact rfl) | (refine (vF_g rfl rfl).trans ?_; refine (vF_g rfl rfl).trans ?_; exact rfl) | (refine (vF_g rfl rfl).trans ?_; refine (vF_g rfl rfl).trans ?_; refine (vF_g rfl rfl).trans ?_; exact rfl) | (refine (vF_g rfl rfl).trans ?_; exact rfl))
    · rw [q3, if_neg q]
      omega
set_option maxRecDepth 100000 in
theorem v_pop_1 {D : Nat} {f0 : Vw} (hc : 1 ≤ f0 126 2) (hc8 : f0 126 2 ≤ 8) (k2 : f0 167 2 ≤ 12) (k3 : f0 167 3 ≤ 8) : ∃ g1 g, vM MT0 (D + 3) 28 [vR 126, vR 7] (vup f0 126 1 2) = some ((1, 0), vW 3, g) ∧ CpW 7 167 (vup (vup f0 126 1 2) 126 1 1) g1 ∧ (∀ k i, k ≠ 126 → g k i = g1 k i) ∧ g 126 1 = 1 ∧ g 126 2 = f0 126 2 - 1 := by
  obtain ⟨g1, e, hg⟩ := v_cp_7_167 (D := D) (f := vup (vup f0 126 1 2) 126 1 1) k2 k3
  have q1 : g1 126 1 = 1 := (hg.2.2.2 126 1 (by decide)).trans vup_eq
  have q2 : g1 126 2 = f0 126 2 := (hg.2.2.2 126 2 (by decide)).trans ((vup_ne (Or.inr (by decide))).trans (vup_ne (Or.inr (by decide))))
  refine ⟨g1, vup g1 126 2 (gB9 0 (g1 126 2) 1), ?_, hg, fun k i h => vup_ne (Or.inl h), (vup_ne (Or.inr (by decide))).trans q1, ?_⟩
  · have h : gB9 0 (vup f0 126 1 2 126 1) 1 = 1 := by rw [vup_eq, gB_0]; decide
    refine vM_go rfl rfl rfl rfl fun F hF => ?_
    refine (vF_g rfl rfl).trans ?_
    (first | (refine (vge2 (x := f0 126 2) (y := 1) (by omega) hc).trans ?_) | (refine (vF_g rfl rfl).trans ?_; refine (vF_g rfl rfl).trans ?_; refine (vge2 (x := f0 126 2) (y := 1) (by omega) hc).trans ?_) | (refine (vF_g rfl rfl).trans ?_; refine (vge2 (x := f0 126 2) (y := 1) (by omega) hc).trans ?_))
    refine (vF_g rfl rfl).trans ?_
    (first | (refine (vgt (x := 2) (y := 0) (by decide) (by decide)).trans ?_) | (refine (vF_g rfl rfl).trans ?_; refine (vF_g rfl rfl).trans ?_; refine (vgt (x := 2) (y := 0) (by decide) (by decide)).trans ?_) | (refine (vF_g rfl rfl).trans ?_; refine (vgt (x := 2) (y := 0) (by decide) (by decide)).trans ?_))
    refine (vF_g rfl rfl).trans ?_
    (first | (refine Eq.trans (b := vFn (vM MT0 (D + 2)) nb_X4_pop (F + 57) 5 0 (iniL 2 [vR 126, vR 7]) [vI (gB9 0 (vup f0 126 1 2 126 1) 1), nth (iniL 2 [vR 126, vR 7]) 0] (vup f0 126 1 2)) rfl ?_) | (refine (vF_g rfl rfl).trans ?_; refine (vF_g rfl rfl).trans ?_; refine Eq.trans (b := vFn (vM MT0 (D + 2)) nb_X4_pop (F + 57) 5 0 (iniL 2 [vR 126, vR 7]) [vI (gB9 0 (vup f0 126 1 2 126 1) 1), nth (iniL 2 [vR 126, vR 7]) 0] (vup f0 126 1 2)) rfl ?_) | (refine (vF_g rfl rfl).trans ?_; refine Eq.trans (b := vFn (vM MT0 (D + 2)) nb_X4_pop (F + 57) 5 0 (iniL 2 [vR 126, vR 7]) [vI (gB9 0 (vup f0 126 1 2 126 1) 1), nth (iniL 2 [vR 126, vR 7]) 0] (vup f0 126 1 2)) rfl ?_))
    rw [h]
    refine (vF_g rfl rfl).trans ?_
    (first | (refine (vbnd_1 e).trans ?_) | (refine (vF_g rfl rfl).trans ?_; refine (vF_g rfl rfl).trans ?_; refine (vbnd_1 e).trans ?_) | (refine (vF_g rfl rfl).trans ?_; refine (vbnd_1 e).trans ?_))
    exact rfl
  · rw [vup_eq, q2, gB_0]
    unfold g_sub
    omega
set_option maxRecDepth 100000 in
theorem v_push_2 {D : Nat} {f0 : Vw} (hc8 : f0 126 2 ≤ 8) (k2 : f0 7 2 ≤ 12) (k3 : f0 7 3 ≤ 8) : ∃ g1 g, vM MT0 (D + 3) 27 [vR 126, vR 7] (vup f0 126 1 2) = some ((1, 0), vW 3, g) ∧ CpW 206 7 (vup f0 126 1 2) g1 ∧ (∀ k i, k ≠ 126 → g k i = g1 k i) ∧ g 126 1 = 3 ∧ g 126 2 = (if f0 126 2 < 8 then f0 126 2 + 1 else 8) := by
  obtain ⟨g1, e, hg⟩ := v_cp_206_7 (D := D) (f := vup f0 126 1 2) k2 k3
  have q1 : g1 126 1 = 2 := (hg.2.2.2 126 1 (by decide)).trans vup_eq
  have q2 : g1 126 2 = f0 126 2 := (hg.2.2.2 126 2 (by decide)).trans (vup_ne (Or.inr (by decide)))
  obtain ⟨g9, rfl⟩ : ∃ g9, g1 = vup g9 126 1 2 := ⟨g1, (vup_id q1).symm⟩
  have q3 : vup (vup g9 126 1 2) 126 1 3 126 2 = f0 126 2 := (vup_ne (Or.inr (by decide))).trans q2
  by_cases q : f0 126 2 < 8
  · refine ⟨_, vup (vup (vup g9 126 1 2) 126 1 3) 126 2 ((vup (vup g9 126 1 2) 126 1 3 126 2 + 1) % 4294967296), ?_, hg, fun k i h => (vup_ne (Or.inl h)).trans (vup_ne (Or.inl h)), (vup_ne (Or.inr (by decide))).trans vup_eq, ?_⟩
    · refine vM_go rfl rfl rfl rfl fun F hF => ?_
      (first | (refine (vbnd_1 e).trans ?_) | (refine (vF_g rfl rfl).trans ?_; refine (vF_g rfl rfl).trans ?_; refine (vbnd_1 e).trans ?_) | (refine (vF_g rfl rfl).trans ?_; refine (vbnd_1 e).trans ?_))
      (first | (refine (vlt (x := 3) (y := 8) (by decide) (by decide)).trans ?_) | (refine (vF_g rfl rfl).trans ?_; refine (vF_g rfl rfl).trans ?_; refine (vlt (x := 3) (y := 8) (by decide) (by decide)).trans ?_) | (refine (vF_g rfl rfl).trans ?_; refine (vlt (x := 3) (y := 8) (by decide) (by decide)).trans ?_))
      (first | (refine (vlt (x := vup (vup g9 126 1 2) 126 1 3 126 2) (y := 8) (by decide) (by rw [q3]; exact q)).trans ?_) | (refine (vF_g rfl rfl).trans ?_; refine (vF_g rfl rfl).trans ?_; refine (vlt (x := vup (vup g9 126 1 2) 126 1 3 126 2) (y := 8) (by decide) (by rw [q3]; exact q)).trans ?_) | (refine (vF_g rfl rfl).trans ?_; refine (vlt (x := vup (vup g9 126 1 2) 126 1 3 126 2) (y := 8) (by decide) (by rw [q3]; exact q)).trans ?_))
      (first | (exact rfl) | (refine (vF_g rfl rfl).trans ?_; refine (vF_g rfl rfl).trans ?_; exact rfl) | (refine (vF_g rfl rfl).trans ?_; refine (vF_g rfl rfl).trans ?_; refine (vF_g rfl rfl).trans ?_; exact rfl) | (refine (vF_g rfl rfl).trans ?_; exact rfl))
    · rw [vup_eq, q3, if_pos q, Nat.mod_eq_of_lt (by omega)]
  · refine ⟨_, vup (vup g9 126 1 2) 126 1 3, ?_, hg, fun k i h => vup_ne (Or.inl h), vup_eq, ?_⟩
    · refine vM_go rfl rfl rfl rfl fun F hF => ?_
      (first | (refine (vbnd_1 e).trans ?_) | (refine (vF_g rfl rfl).trans ?_; refine (vF_g rfl rfl).trans ?_; refine (vbnd_1 e).trans ?_) | (refine (vF_g rfl rfl).trans ?_; refine (vbnd_1 e).trans ?_))
      (first | (refine (vlt (x := 3) (y := 8) (by decide) (by decide)).trans ?_) | (refine (vF_g rfl rfl).trans ?_; refine (vF_g rfl rfl).trans ?_; refine (vlt (x := 3) (y := 8) (by decide) (by decide)).trans ?_) | (refine (vF_g rfl rfl).trans ?_; refine (vlt (x := 3) (y := 8) (by decide) (by decide)).trans ?_))
      (first | (refine (vge2 (x := vup (vup g9 126 1 2) 126 1 3 126 2) (y := 8) (by rw [q3]; omega) (by rw [q3]; omega)).trans ?_) | (refine (vF_g rfl rfl).trans ?_; refine (vF_g rfl rfl).trans ?_; refine (vge2 (x := vup (vup g9 126 1 2) 126 1 3 126 2) (y := 8) (by rw [q3]; omega) (by rw [q3]; omega)).trans ?_) | (refine (vF_g rfl rfl).trans ?_; refine (vge2 (x := vup (vup g9 126 1 2) 126 1 3 126 2) (y := 8) (by rw [q3]; omega) (by rw [q3]; omega)).trans ?_))
      (first | (exact rfl) | (refine (vF_g rfl rfl).trans ?_; refine (vF_g rfl rfl).trans ?_; exact rfl) | (refine (vF_g rfl rfl).trans ?_; refine (vF_g rfl rfl).trans ?_; refine (vF_g rfl rfl).trans ?_; exact rfl) | (refine (vF_g rfl rfl).trans ?_; exact rfl))
    · rw [q3, if_neg q]
      omega
set_option maxRecDepth 100000 in
theorem v_pop_2 {D : Nat} {f0 : Vw} (hc : 1 ≤ f0 126 2) (hc8 : f0 126 2 ≤ 8) (k2 : f0 206 2 ≤ 12) (k3 : f0 206 3 ≤ 8) : ∃ g1 g, vM MT0 (D + 3) 28 [vR 126, vR 7] (vup f0 126 1 3) = some ((1, 0), vW 3, g) ∧ CpW 7 206 (vup (vup f0 126 1 3) 126 1 2) g1 ∧ (∀ k i, k ≠ 126 → g k i = g1 k i) ∧ g 126 1 = 2 ∧ g 126 2 = f0 126 2 - 1 := by
  obtain ⟨g1, e, hg⟩ := v_cp_7_206 (D := D) (f := vup (vup f0 126 1 3) 126 1 2) k2 k3
  have q1 : g1 126 1 = 2 := (hg.2.2.2 126 1 (by decide)).trans vup_eq
  have q2 : g1 126 2 = f0 126 2 := (hg.2.2.2 126 2 (by decide)).trans ((vup_ne (Or.inr (by decide))).trans (vup_ne (Or.inr (by decide))))
  refine ⟨g1, vup g1 126 2 (gB9 0 (g1 126 2) 1), ?_, hg, fun k i h => vup_ne (Or.inl h), (vup_ne (Or.inr (by decide))).trans q1, ?_⟩
  · have h : gB9 0 (vup f0 126 1 3 126 1) 1 = 2 := by rw [vup_eq, gB_0]; decide
    refine vM_go rfl rfl rfl rfl fun F hF => ?_
    refine (vF_g rfl rfl).trans ?_
    (first | (refine (vge2 (x := f0 126 2) (y := 1) (by omega) hc).trans ?_) | (refine (vF_g rfl rfl).trans ?_; refine (vF_g rfl rfl).trans ?_; refine (vge2 (x := f0 126 2) (y := 1) (by omega) hc).trans ?_) | (refine (vF_g rfl rfl).trans ?_; refine (vge2 (x := f0 126 2) (y := 1) (by omega) hc).trans ?_))
    refine (vF_g rfl rfl).trans ?_
    (first | (refine (vgt (x := 3) (y := 0) (by decide) (by decide)).trans ?_) | (refine (vF_g rfl rfl).trans ?_; refine (vF_g rfl rfl).trans ?_; refine (vgt (x := 3) (y := 0) (by decide) (by decide)).trans ?_) | (refine (vF_g rfl rfl).trans ?_; refine (vgt (x := 3) (y := 0) (by decide) (by decide)).trans ?_))
    refine (vF_g rfl rfl).trans ?_
    (first | (refine Eq.trans (b := vFn (vM MT0 (D + 2)) nb_X4_pop (F + 57) 5 0 (iniL 2 [vR 126, vR 7]) [vI (gB9 0 (vup f0 126 1 3 126 1) 1), nth (iniL 2 [vR 126, vR 7]) 0] (vup f0 126 1 3)) rfl ?_) | (refine (vF_g rfl rfl).trans ?_; refine (vF_g rfl rfl).trans ?_; refine Eq.trans (b := vFn (vM MT0 (D + 2)) nb_X4_pop (F + 57) 5 0 (iniL 2 [vR 126, vR 7]) [vI (gB9 0 (vup f0 126 1 3 126 1) 1), nth (iniL 2 [vR 126, vR 7]) 0] (vup f0 126 1 3)) rfl ?_) | (refine (vF_g rfl rfl).trans ?_; refine Eq.trans (b := vFn (vM MT0 (D + 2)) nb_X4_pop (F + 57) 5 0 (iniL 2 [vR 126, vR 7]) [vI (gB9 0 (vup f0 126 1 3 126 1) 1), nth (iniL 2 [vR 126, vR 7]) 0] (vup f0 126 1 3)) rfl ?_))
    rw [h]
    refine (vF_g rfl rfl).trans ?_
    (first | (refine (vbnd_1 e).trans ?_) | (refine (vF_g rfl rfl).trans ?_; refine (vF_g rfl rfl).trans ?_; refine (vbnd_1 e).trans ?_) | (refine (vF_g rfl rfl).trans ?_; refine (vbnd_1 e).trans ?_))
    exact rfl
  · rw [vup_eq, q2, gB_0]
    unfold g_sub
    omega
set_option maxRecDepth 100000 in
theorem v_push_3 {D : Nat} {f0 : Vw} (hc8 : f0 126 2 ≤ 8) (k2 : f0 7 2 ≤ 12) (k3 : f0 7 3 ≤ 8) : ∃ g1 g, vM MT0 (D + 3) 27 [vR 126, vR 7] (vup f0 126 1 3) = some ((1, 0), vW 3, g) ∧ CpW 245 7 (vup f0 126 1 3) g1 ∧ (∀ k i, k ≠ 126 → g k i = g1 k i) ∧ g 126 1 = 4 ∧ g 126 2 = (if f0 126 2 < 8 then f0 126 2 + 1 else 8) := by
  obtain ⟨g1, e, hg⟩ := v_cp_245_7 (D := D) (f := vup f0 126 1 3) k2 k3
  have q1 : g1 126 1 = 3 := (hg.2.2.2 126 1 (by decide)).trans vup_eq
  have q2 : g1 126 2 = f0 126 2 := (hg.2.2.2 126 2 (by decide)).trans (vup_ne (Or.inr (by decide)))
  obtain ⟨g9, rfl⟩ : ∃ g9, g1 = vup g9 126 1 3 := ⟨g1, (vup_id q1).symm⟩
  have q3 : vup (vup g9 126 1 3) 126 1 4 126 2 = f0 126 2 := (vup_ne (Or.inr (by decide))).trans q2
  by_cases q : f0 126 2 < 8
  · refine ⟨_, vup (vup (vup g9 126 1 3) 126 1 4) 126 2 ((vup (vup g9 126 1 3) 126 1 4 126 2 + 1) % 4294967296), ?_, hg, fun k i h => (vup_ne (Or.inl h)).trans (vup_ne (Or.inl h)), (vup_ne (Or.inr (by decide))).trans vup_eq, ?_⟩
    · refine vM_go rfl rfl rfl rfl fun F hF => ?_
      (first | (refine (vbnd_1 e).trans ?_) | (refine (vF_g rfl rfl).trans ?_; refine (vF_g rfl rfl).trans ?_; refine (vbnd_1 e).trans ?_) | (refine (vF_g rfl rfl).trans ?_; refine (vbnd_1 e).trans ?_))
      (first | (refine (vlt (x := 4) (y := 8) (by decide) (by decide)).trans ?_) | (refine (vF_g rfl rfl).trans ?_; refine (vF_g rfl rfl).trans ?_; refine (vlt (x := 4) (y := 8) (by decide) (by decide)).trans ?_) | (refine (vF_g rfl rfl).trans ?_; refine (vlt (x := 4) (y := 8) (by decide) (by decide)).trans ?_))
      (first | (refine (vlt (x := vup (vup g9 126 1 3) 126 1 4 126 2) (y := 8) (by decide) (by rw [q3]; exact q)).trans ?_) | (refine (vF_g rfl rfl).trans ?_; refine (vF_g rfl rfl).trans ?_; refine (vlt (x := vup (vup g9 126 1 3) 126 1 4 126 2) (y := 8) (by decide) (by rw [q3]; exact q)).trans ?_) | (refine (vF_g rfl rfl).trans ?_; refine (vlt (x := vup (vup g9 126 1 3) 126 1 4 126 2) (y := 8) (by decide) (by rw [q3]; exact q)).trans ?_))
      (first | (exact rfl) | (refine (vF_g rfl rfl).trans ?_; refine (vF_g rfl rfl).trans ?_; exact rfl) | (refine (vF_g rfl rfl).trans ?_; refine (vF_g rfl rfl).trans ?_; refine (vF_g rfl rfl).trans ?_; exact rfl) | (refine (vF_g rfl rfl).trans ?_; exact rfl))
    · rw [vup_eq, q3, if_pos q, Nat.mod_eq_of_lt (by omega)]
  · refine ⟨_, vup (vup g9 126 1 3) 126 1 4, ?_, hg, fun k i h => vup_ne (Or.inl h), vup_eq, ?_⟩
    · refine vM_go rfl rfl rfl rfl fun F hF => ?_
      (first | (refine (vbnd_1 e).trans ?_) | (refine (vF_g rfl rfl).trans ?_; refine (vF_g rfl rfl).trans ?_; refine (vbnd_1 e).trans ?_) | (refine (vF_g rfl rfl).trans ?_; refine (vbnd_1 e).trans ?_))
      (first | (refine (vlt (x := 4) (y := 8) (by decide) (by decide)).trans ?_) | (refine (vF_g rfl rfl).trans ?_; refine (vF_g rfl rfl).trans ?_; refine (vlt (x := 4) (y := 8) (by decide) (by decide)).trans ?_) | (refine (vF_g rfl rfl).trans ?_; refine (vlt (x := 4) (y := 8) (by decide) (by decide)).trans ?_))
      (first | (refine (vge2 (x := vup (vup g9 126 1 3) 126 1 4 126 2) (y := 8) (by rw [q3]; omega) (by rw [q3]; omega)).trans ?_) | (refine (vF_g rfl rfl).trans ?_; refine (vF_g rfl rfl).trans ?_; refine (vge2 (x := vup (vup g9 126 1 3) 126 1 4 126 2) (y := 8) (by rw [q3]; omega) (by rw [q3]; omega)).trans ?_) | (refine (vF_g rfl rfl).trans ?_; refine (vge2 (x := vup (vup g9 126 1 3) 126 1 4 126 2) (y := 8) (by rw [q3]; omega) (by rw [q3]; omega)).trans ?_))
      (first | (exact rfl) | (refine (vF_g rfl rfl).trans ?_; refine (vF_g rfl rfl).trans ?_; exact rfl) | (refine (vF_g rfl rfl).trans ?_; refine (vF_g rfl rfl).trans ?_; refine (vF_g rfl rfl).trans ?_; exact rfl) | (refine (vF_g rfl rfl).trans ?_; exact rfl))
    · rw [q3, if_neg q]
      omega
set_option maxRecDepth 100000 in
theorem v_pop_3 {D : Nat} {f0 : Vw} (hc : 1 ≤ f0 126 2) (hc8 : f0 126 2 ≤ 8) (k2 : f0 245 2 ≤ 12) (k3 : f0 245 3 ≤ 8) : ∃ g1 g, vM MT0 (D + 3) 28 [vR 126, vR 7] (vup f0 126 1 4) = some ((1, 0), vW 3, g) ∧ CpW 7 245 (vup (vup f0 126 1 4) 126 1 3) g1 ∧ (∀ k i, k ≠ 126 → g k i = g1 k i) ∧ g 126 1 = 3 ∧ g 126 2 = f0 126 2 - 1 := by
  obtain ⟨g1, e, hg⟩ := v_cp_7_245 (D := D) (f := vup (vup f0 126 1 4) 126 1 3) k2 k3
  have q1 : g1 126 1 = 3 := (hg.2.2.2 126 1 (by decide)).trans vup_eq
  have q2 : g1 126 2 = f0 126 2 := (hg.2.2.2 126 2 (by decide)).trans ((vup_ne (Or.inr (by decide))).trans (vup_ne (Or.inr (by decide))))
  refine ⟨g1, vup g1 126 2 (gB9 0 (g1 126 2) 1), ?_, hg, fun k i h => vup_ne (Or.inl h), (vup_ne (Or.inr (by decide))).trans q1, ?_⟩
  · have h : gB9 0 (vup f0 126 1 4 126 1) 1 = 3 := by rw [vup_eq, gB_0]; decide
    refine vM_go rfl rfl rfl rfl fun F hF => ?_
    refine (vF_g rfl rfl).trans ?_
    (first | (refine (vge2 (x := f0 126 2) (y := 1) (by omega) hc).trans ?_) | (refine (vF_g rfl rfl).trans ?_; refine (vF_g rfl rfl).trans ?_; refine (vge2 (x := f0 126 2) (y := 1) (by omega) hc).trans ?_) | (refine (vF_g rfl rfl).trans ?_; refine (vge2 (x := f0 126 2) (y := 1) (by omega) hc).trans ?_))
    refine (vF_g rfl rfl).trans ?_
    (first | (refine (vgt (x := 4) (y := 0) (by decide) (by decide)).trans ?_) | (refine (vF_g rfl rfl).trans ?_; refine (vF_g rfl rfl).trans ?_; refine (vgt (x := 4) (y := 0) (by decide) (by decide)).trans ?_) | (refine (vF_g rfl rfl).trans ?_; refine (vgt (x := 4) (y := 0) (by decide) (by decide)).trans ?_))
    refine (vF_g rfl rfl).trans ?_
    (first | (refine Eq.trans (b := vFn (vM MT0 (D + 2)) nb_X4_pop (F + 57) 5 0 (iniL 2 [vR 126, vR 7]) [vI (gB9 0 (vup f0 126 1 4 126 1) 1), nth (iniL 2 [vR 126, vR 7]) 0] (vup f0 126 1 4)) rfl ?_) | (refine (vF_g rfl rfl).trans ?_; refine (vF_g rfl rfl).trans ?_; refine Eq.trans (b := vFn (vM MT0 (D + 2)) nb_X4_pop (F + 57) 5 0 (iniL 2 [vR 126, vR 7]) [vI (gB9 0 (vup f0 126 1 4 126 1) 1), nth (iniL 2 [vR 126, vR 7]) 0] (vup f0 126 1 4)) rfl ?_) | (refine (vF_g rfl rfl).trans ?_; refine Eq.trans (b := vFn (vM MT0 (D + 2)) nb_X4_pop (F + 57) 5 0 (iniL 2 [vR 126, vR 7]) [vI (gB9 0 (vup f0 126 1 4 126 1) 1), nth (iniL 2 [vR 126, vR 7]) 0] (vup f0 126 1 4)) rfl ?_))
    rw [h]
    refine (vF_g rfl rfl).trans ?_
    (first | (refine (vbnd_1 e).trans ?_) | (refine (vF_g rfl rfl).trans ?_; refine (vF_g rfl rfl).trans ?_; refine (vbnd_1 e).trans ?_) | (refine (vF_g rfl rfl).trans ?_; refine (vbnd_1 e).trans ?_))
    exact rfl
  · rw [vup_eq, q2, gB_0]
    unfold g_sub
    omega
set_option maxRecDepth 100000 in
theorem v_push_4 {D : Nat} {f0 : Vw} (hc8 : f0 126 2 ≤ 8) (k2 : f0 7 2 ≤ 12) (k3 : f0 7 3 ≤ 8) : ∃ g1 g, vM MT0 (D + 3) 27 [vR 126, vR 7] (vup f0 126 1 4) = some ((1, 0), vW 3, g) ∧ CpW 284 7 (vup f0 126 1 4) g1 ∧ (∀ k i, k ≠ 126 → g k i = g1 k i) ∧ g 126 1 = 5 ∧ g 126 2 = (if f0 126 2 < 8 then f0 126 2 + 1 else 8) := by
  obtain ⟨g1, e, hg⟩ := v_cp_284_7 (D := D) (f := vup f0 126 1 4) k2 k3
  have q1 : g1 126 1 = 4 := (hg.2.2.2 126 1 (by decide)).trans vup_eq
  have q2 : g1 126 2 = f0 126 2 := (hg.2.2.2 126 2 (by decide)).trans (vup_ne (Or.inr (by decide)))
  obtain ⟨g9, rfl⟩ : ∃ g9, g1 = vup g9 126 1 4 := ⟨g1, (vup_id q1).symm⟩
  have q3 : vup (vup g9 126 1 4) 126 1 5 126 2 = f0 126 2 := (vup_ne (Or.inr (by decide))).trans q2
  by_cases q : f0 126 2 < 8
  · refine ⟨_, vup (vup (vup g9 126 1 4) 126 1 5) 126 2 ((vup (vup g9 126 1 4) 126 1 5 126 2 + 1) % 4294967296), ?_, hg, fun k i h => (vup_ne (Or.inl h)).trans (vup_ne (Or.inl h)), (vup_ne (Or.inr (by decide))).trans vup_eq, ?_⟩
    · refine vM_go rfl rfl rfl rfl fun F hF => ?_
      (first | (refine (vbnd_1 e).trans ?_) | (refine (vF_g rfl rfl).trans ?_; refine (vF_g rfl rfl).trans ?_; refine (vbnd_1 e).trans ?_) | (refine (vF_g rfl rfl).trans ?_; refine (vbnd_1 e).trans ?_))
      (first | (refine (vlt (x := 5) (y := 8) (by decide) (by decide)).trans ?_) | (refine (vF_g rfl rfl).trans ?_; refine (vF_g rfl rfl).trans ?_; refine (vlt (x := 5) (y := 8) (by decide) (by decide)).trans ?_) | (refine (vF_g rfl rfl).trans ?_; refine (vlt (x := 5) (y := 8) (by decide) (by decide)).trans ?_))
      (first | (refine (vlt (x := vup (vup g9 126 1 4) 126 1 5 126 2) (y := 8) (by decide) (by rw [q3]; exact q)).trans ?_) | (refine (vF_g rfl rfl).trans ?_; refine (vF_g rfl rfl).trans ?_; refine (vlt (x := vup (vup g9 126 1 4) 126 1 5 126 2) (y := 8) (by decide) (by rw [q3]; exact q)).trans ?_) | (refine (vF_g rfl rfl).trans ?_; refine (vlt (x := vup (vup g9 126 1 4) 126 1 5 126 2) (y := 8) (by decide) (by rw [q3]; exact q)).trans ?_))
      (first | (exact rfl) | (refine (vF_g rfl rfl).trans ?_; refine (vF_g rfl rfl).trans ?_; exact rfl) | (refine (vF_g rfl rfl).trans ?_; refine (vF_g rfl rfl).trans ?_; refine (vF_g rfl rfl).trans ?_; exact rfl) | (refine (vF_g rfl rfl).trans ?_; exact rfl))
    · rw [vup_eq, q3, if_pos q, Nat.mod_eq_of_lt (by omega)]
  · refine ⟨_, vup (vup g9 126 1 4) 126 1 5, ?_, hg, fun k i h => vup_ne (Or.inl h), vup_eq, ?_⟩
    · refine vM_go rfl rfl rfl rfl fun F hF => ?_
      (first | (refine (vbnd_1 e).trans ?_) | (refine (vF_g rfl rfl).trans ?_; refine (vF_g rfl rfl).trans ?_; refine (vbnd_1 e).trans ?_) | (refine (vF_g rfl rfl).trans ?_; refine (vbnd_1 e).trans ?_))
      (first | (refine (vlt (x := 5) (y := 8) (by decide) (by decide)).trans ?_) | (refine (vF_g rfl rfl).trans ?_; refine (vF_g rfl rfl).trans ?_; refine (vlt (x := 5) (y := 8) (by decide) (by decide)).trans ?_) | (refine (vF_g rfl rfl).trans ?_; refine (vlt (x := 5) (y := 8) (by decide) (by decide)).trans ?_))
      (first | (refine (vge2 (x := vup (vup g9 126 1 4) 126 1 5 126 2) (y := 8) (by rw [q3]; omega) (by rw [q3]; omega)).trans ?_) | (refine (vF_g rfl rfl).trans ?_; refine (vF_g rfl rfl).trans ?_; refine (vge2 (x := vup (vup g9 126 1 4) 126 1 5 126 2) (y := 8) (by rw [q3]; omega) (by rw [q3]; omega)).trans ?_) | (refine (vF_g rfl rfl).trans ?_; refine (vge2 (x := vup (vup g9 126 1 4) 126 1 5 126 2) (y := 8) (by rw [q3]; omega) (by rw [q3]; omega)).trans ?_))
      (first | (exact rfl) | (refine (vF_g rfl rfl).trans ?_; refine (vF_g rfl rfl).trans ?_; exact rfl) | (refine (vF_g rfl rfl).trans ?_; refine (vF_g rfl rfl).trans ?_; refine (vF_g rfl rfl).trans ?_; exact rfl) | (refine (vF_g rfl rfl).trans ?_; exact rfl))
    · rw [q3, if_neg q]
      omega
set_option maxRecDepth 100000 in
theorem v_pop_4 {D : Nat} {f0 : Vw} (hc : 1 ≤ f0 126 2) (hc8 : f0 126 2 ≤ 8) (k2 : f0 284 2 ≤ 12) (k3 : f0 284 3 ≤ 8) : ∃ g1 g, vM MT0 (D + 3) 28 [vR 126, vR 7] (vup f0 126 1 5) = some ((1, 0), vW 3, g) ∧ CpW 7 284 (vup (vup f0 126 1 5) 126 1 4) g1 ∧ (∀ k i, k ≠ 126 → g k i = g1 k i) ∧ g 126 1 = 4 ∧ g 126 2 = f0 126 2 - 1 := by
  obtain ⟨g1, e, hg⟩ := v_cp_7_284 (D := D) (f := vup (vup f0 126 1 5) 126 1 4) k2 k3
  have q1 : g1 126 1 = 4 := (hg.2.2.2 126 1 (by decide)).trans vup_eq
  have q2 : g1 126 2 = f0 126 2 := (hg.2.2.2 126 2 (by decide)).trans ((vup_ne (Or.inr (by decide))).trans (vup_ne (Or.inr (by decide))))
  refine ⟨g1, vup g1 126 2 (gB9 0 (g1 126 2) 1), ?_, hg, fun k i h => vup_ne (Or.inl h), (vup_ne (Or.inr (by decide))).trans q1, ?_⟩
  · have h : gB9 0 (vup f0 126 1 5 126 1) 1 = 4 := by rw [vup_eq, gB_0]; decide
    refine vM_go rfl rfl rfl rfl fun F hF => ?_
    refine (vF_g rfl rfl).trans ?_
    (first | (refine (vge2 (x := f0 126 2) (y := 1) (by omega) hc).trans ?_) | (refine (vF_g rfl rfl).trans ?_; refine (vF_g rfl rfl).trans ?_; refine (vge2 (x := f0 126 2) (y := 1) (by omega) hc).trans ?_) | (refine (vF_g rfl rfl).trans ?_; refine (vge2 (x := f0 126 2) (y := 1) (by omega) hc).trans ?_))
    refine (vF_g rfl rfl).trans ?_
    (first | (refine (vgt (x := 5) (y := 0) (by decide) (by decide)).trans ?_) | (refine (vF_g rfl rfl).trans ?_; refine (vF_g rfl rfl).trans ?_; refine (vgt (x := 5) (y := 0) (by decide) (by decide)).trans ?_) | (refine (vF_g rfl rfl).trans ?_; refine (vgt (x := 5) (y := 0) (by decide) (by decide)).trans ?_))
    refine (vF_g rfl rfl).trans ?_
    (first | (refine Eq.trans (b := vFn (vM MT0 (D + 2)) nb_X4_pop (F + 57) 5 0 (iniL 2 [vR 126, vR 7]) [vI (gB9 0 (vup f0 126 1 5 126 1) 1), nth (iniL 2 [vR 126, vR 7]) 0] (vup f0 126 1 5)) rfl ?_) | (refine (vF_g rfl rfl).trans ?_; refine (vF_g rfl rfl).trans ?_; refine Eq.trans (b := vFn (vM MT0 (D + 2)) nb_X4_pop (F + 57) 5 0 (iniL 2 [vR 126, vR 7]) [vI (gB9 0 (vup f0 126 1 5 126 1) 1), nth (iniL 2 [vR 126, vR 7]) 0] (vup f0 126 1 5)) rfl ?_) | (refine (vF_g rfl rfl).trans ?_; refine Eq.trans (b := vFn (vM MT0 (D + 2)) nb_X4_pop (F + 57) 5 0 (iniL 2 [vR 126, vR 7]) [vI (gB9 0 (vup f0 126 1 5 126 1) 1), nth (iniL 2 [vR 126, vR 7]) 0] (vup f0 126 1 5)) rfl ?_))
    rw [h]
    refine (vF_g rfl rfl).trans ?_
    (first | (refine (vbnd_1 e).trans ?_) | (refine (vF_g rfl rfl).trans ?_; refine (vF_g rfl rfl).trans ?_; refine (vbnd_1 e).trans ?_) | (refine (vF_g rfl rfl).trans ?_; refine (vbnd_1 e).trans ?_))
    exact rfl
  · rw [vup_eq, q2, gB_0]
    unfold g_sub
    omega
set_option maxRecDepth 100000 in
theorem v_push_5 {D : Nat} {f0 : Vw} (hc8 : f0 126 2 ≤ 8) (k2 : f0 7 2 ≤ 12) (k3 : f0 7 3 ≤ 8) : ∃ g1 g, vM MT0 (D + 3) 27 [vR 126, vR 7] (vup f0 126 1 5) = some ((1, 0), vW 3, g) ∧ CpW 323 7 (vup f0 126 1 5) g1 ∧ (∀ k i, k ≠ 126 → g k i = g1 k i) ∧ g 126 1 = 6 ∧ g 126 2 = (if f0 126 2 < 8 then f0 126 2 + 1 else 8) := by
  obtain ⟨g1, e, hg⟩ := v_cp_323_7 (D := D) (f := vup f0 126 1 5) k2 k3
  have q1 : g1 126 1 = 5 := (hg.2.2.2 126 1 (by decide)).trans vup_eq
  have q2 : g1 126 2 = f0 126 2 := (hg.2.2.2 126 2 (by decide)).trans (vup_ne (Or.inr (by decide)))
  obtain ⟨g9, rfl⟩ : ∃ g9, g1 = vup g9 126 1 5 := ⟨g1, (vup_id q1).symm⟩
  have q3 : vup (vup g9 126 1 5) 126 1 6 126 2 = f0 126 2 := (vup_ne (Or.inr (by decide))).trans q2
  by_cases q : f0 126 2 < 8
  · refine ⟨_, vup (vup (vup g9 126 1 5) 126 1 6) 126 2 ((vup (vup g9 126 1 5) 126 1 6 126 2 + 1) % 4294967296), ?_, hg, fun k i h => (vup_ne (Or.inl h)).trans (vup_ne (Or.inl h)), (vup_ne (Or.inr (by decide))).trans vup_eq, ?_⟩
    · refine vM_go rfl rfl rfl rfl fun F hF => ?_
      (first | (refine (vbnd_1 e).trans ?_) | (refine (vF_g rfl rfl).trans ?_; refine (vF_g rfl rfl).trans ?_; refine (vbnd_1 e).trans ?_) | (refine (vF_g rfl rfl).trans ?_; refine (vbnd_1 e).trans ?_))
      (first | (refine (vlt (x := 6) (y := 8) (by decide) (by decide)).trans ?_) | (refine (vF_g rfl rfl).trans ?_; refine (vF_g rfl rfl).trans ?_; refine (vlt (x := 6) (y := 8) (by decide) (by decide)).trans ?_) | (refine (vF_g rfl rfl).trans ?_; refine (vlt (x := 6) (y := 8) (by decide) (by decide)).trans ?_))
      (first | (refine (vlt (x := vup (vup g9 126 1 5) 126 1 6 126 2) (y := 8) (by decide) (by rw [q3]; exact q)).trans ?_) | (refine (vF_g rfl rfl).trans ?_; refine (vF_g rfl rfl).trans ?_; refine (vlt (x := vup (vup g9 126 1 5) 126 1 6 126 2) (y := 8) (by decide) (by rw [q3]; exact q)).trans ?_) | (refine (vF_g rfl rfl).trans ?_; refine (vlt (x := vup (vup g9 126 1 5) 126 1 6 126 2) (y := 8) (by decide) (by rw [q3]; exact q)).trans ?_))
      (first | (exact rfl) | (refine (vF_g rfl rfl).trans ?_; refine (vF_g rfl rfl).trans ?_; exact rfl) | (refine (vF_g rfl rfl).trans ?_; refine (vF_g rfl rfl).trans ?_; refine (vF_g rfl rfl).trans ?_; exact rfl) | (refine (vF_g rfl rfl).trans ?_; exact rfl))
    · rw [vup_eq, q3, if_pos q, Nat.mod_eq_of_lt (by omega)]
  · refine ⟨_, vup (vup g9 126 1 5) 126 1 6, ?_, hg, fun k i h => vup_ne (Or.inl h), vup_eq, ?_⟩
    · refine vM_go rfl rfl rfl rfl fun F hF => ?_
      (first | (refine (vbnd_1 e).trans ?_) | (refine (vF_g rfl rfl).trans ?_; refine (vF_g rfl rfl).trans ?_; refine (vbnd_1 e).trans ?_) | (refine (vF_g rfl rfl).trans ?_; refine (vbnd_1 e).trans ?_))
      (first | (refine (vlt (x := 6) (y := 8) (by decide) (by decide)).trans ?_) | (refine (vF_g rfl rfl).trans ?_; refine (vF_g rfl rfl).trans ?_; refine (vlt (x := 6) (y := 8) (by decide) (by decide)).trans ?_) | (refine (vF_g rfl rfl).trans ?_; refine (vlt (x := 6) (y := 8) (by decide) (by decide)).trans ?_))
      (first | (refine (vge2 (x := vup (vup g9 126 1 5) 126 1 6 126 2) (y := 8) (by rw [q3]; omega) (by rw [q3]; omega)).trans ?_) | (refine (vF_g rfl rfl).trans ?_; refine (vF_g rfl rfl).trans ?_; refine (vge2 (x := vup (vup g9 126 1 5) 126 1 6 126 2) (y := 8) (by rw [q3]; omega) (by rw [q3]; omega)).trans ?_) | (refine (vF_g rfl rfl).trans ?_; refine (vge2 (x := vup (vup g9 126 1 5) 126 1 6 126 2) (y := 8) (by rw [q3]; omega) (by rw [q3]; omega)).trans ?_))
      (first | (exact rfl) | (refine (vF_g rfl rfl).trans ?_; refine (vF_g rfl rfl).trans ?_; exact rfl) | (refine (vF_g rfl rfl).trans ?_; refine (vF_g rfl rfl).trans ?_; refine (vF_g rfl rfl).trans ?_; exact rfl) | (refine (vF_g rfl rfl).trans ?_; exact rfl))
    · rw [q3, if_neg q]
      omega
set_option maxRecDepth 100000 in
theorem v_pop_5 {D : Nat} {f0 : Vw} (hc : 1 ≤ f0 126 2) (hc8 : f0 126 2 ≤ 8) (k2 : f0 323 2 ≤ 12) (k3 : f0 323 3 ≤ 8) : ∃ g1 g, vM MT0 (D + 3) 28 [vR 126, vR 7] (vup f0 126 1 6) = some ((1, 0), vW 3, g) ∧ CpW 7 323 (vup (vup f0 126 1 6) 126 1 5) g1 ∧ (∀ k i, k ≠ 126 → g k i = g1 k i) ∧ g 126 1 = 5 ∧ g 126 2 = f0 126 2 - 1 := by
  obtain ⟨g1, e, hg⟩ := v_cp_7_323 (D := D) (f := vup (vup f0 126 1 6) 126 1 5) k2 k3
  have q1 : g1 126 1 = 5 := (hg.2.2.2 126 1 (by decide)).trans vup_eq
  have q2 : g1 126 2 = f0 126 2 := (hg.2.2.2 126 2 (by decide)).trans ((vup_ne (Or.inr (by decide))).trans (vup_ne (Or.inr (by decide))))
  refine ⟨g1, vup g1 126 2 (gB9 0 (g1 126 2) 1), ?_, hg, fun k i h => vup_ne (Or.inl h), (vup_ne (Or.inr (by decide))).trans q1, ?_⟩
  · have h : gB9 0 (vup f0 126 1 6 126 1) 1 = 5 := by rw [vup_eq, gB_0]; decide
    refine vM_go rfl rfl rfl rfl fun F hF => ?_
    refine (vF_g rfl rfl).trans ?_
    (first | (refine (vge2 (x := f0 126 2) (y := 1) (by omega) hc).trans ?_) | (refine (vF_g rfl rfl).trans ?_; refine (vF_g rfl rfl).trans ?_; refine (vge2 (x := f0 126 2) (y := 1) (by omega) hc).trans ?_) | (refine (vF_g rfl rfl).trans ?_; refine (vge2 (x := f0 126 2) (y := 1) (by omega) hc).trans ?_))
    refine (vF_g rfl rfl).trans ?_
    (first | (refine (vgt (x := 6) (y := 0) (by decide) (by decide)).trans ?_) | (refine (vF_g rfl rfl).trans ?_; refine (vF_g rfl rfl).trans ?_; refine (vgt (x := 6) (y := 0) (by decide) (by decide)).trans ?_) | (refine (vF_g rfl rfl).trans ?_; refine (vgt (x := 6) (y := 0) (by decide) (by decide)).trans ?_))
    refine (vF_g rfl rfl).trans ?_
    (first | (refine Eq.trans (b := vFn (vM MT0 (D + 2)) nb_X4_pop (F + 57) 5 0 (iniL 2 [vR 126, vR 7]) [vI (gB9 0 (vup f0 126 1 6 126 1) 1), nth (iniL 2 [vR 126, vR 7]) 0] (vup f0 126 1 6)) rfl ?_) | (refine (vF_g rfl rfl).trans ?_; refine (vF_g rfl rfl).trans ?_; refine Eq.trans (b := vFn (vM MT0 (D + 2)) nb_X4_pop (F + 57) 5 0 (iniL 2 [vR 126, vR 7]) [vI (gB9 0 (vup f0 126 1 6 126 1) 1), nth (iniL 2 [vR 126, vR 7]) 0] (vup f0 126 1 6)) rfl ?_) | (refine (vF_g rfl rfl).trans ?_; refine Eq.trans (b := vFn (vM MT0 (D + 2)) nb_X4_pop (F + 57) 5 0 (iniL 2 [vR 126, vR 7]) [vI (gB9 0 (vup f0 126 1 6 126 1) 1), nth (iniL 2 [vR 126, vR 7]) 0] (vup f0 126 1 6)) rfl ?_))
    rw [h]
    refine (vF_g rfl rfl).trans ?_
    (first | (refine (vbnd_1 e).trans ?_) | (refine (vF_g rfl rfl).trans ?_; refine (vF_g rfl rfl).trans ?_; refine (vbnd_1 e).trans ?_) | (refine (vF_g rfl rfl).trans ?_; refine (vbnd_1 e).trans ?_))
    exact rfl
  · rw [vup_eq, q2, gB_0]
    unfold g_sub
    omega
set_option maxRecDepth 100000 in
theorem v_push_6 {D : Nat} {f0 : Vw} (hc8 : f0 126 2 ≤ 8) (k2 : f0 7 2 ≤ 12) (k3 : f0 7 3 ≤ 8) : ∃ g1 g, vM MT0 (D + 3) 27 [vR 126, vR 7] (vup f0 126 1 6) = some ((1, 0), vW 3, g) ∧ CpW 362 7 (vup f0 126 1 6) g1 ∧ (∀ k i, k ≠ 126 → g k i = g1 k i) ∧ g 126 1 = 7 ∧ g 126 2 = (if f0 126 2 < 8 then f0 126 2 + 1 else 8) := by
  obtain ⟨g1, e, hg⟩ := v_cp_362_7 (D := D) (f := vup f0 126 1 6) k2 k3
  have q1 : g1 126 1 = 6 := (hg.2.2.2 126 1 (by decide)).trans vup_eq
  have q2 : g1 126 2 = f0 126 2 := (hg.2.2.2 126 2 (by decide)).trans (vup_ne (Or.inr (by decide)))
  obtain ⟨g9, rfl⟩ : ∃ g9, g1 = vup g9 126 1 6 := ⟨g1, (vup_id q1).symm⟩
  have q3 : vup (vup g9 126 1 6) 126 1 7 126 2 = f0 126 2 := (vup_ne (Or.inr (by decide))).trans q2
  by_cases q : f0 126 2 < 8
  · refine ⟨_, vup (vup (vup g9 126 1 6) 126 1 7) 126 2 ((vup (vup g9 126 1 6) 126 1 7 126 2 + 1) % 4294967296), ?_, hg, fun k i h => (vup_ne (Or.inl h)).trans (vup_ne (Or.inl h)), (vup_ne (Or.inr (by decide))).trans vup_eq, ?_⟩
    · refine vM_go rfl rfl rfl rfl fun F hF => ?_
      (first | (refine (vbnd_1 e).trans ?_) | (refine (vF_g rfl rfl).trans ?_; refine (vF_g rfl rfl).trans ?_; refine (vbnd_1 e).trans ?_) | (refine (vF_g rfl rfl).trans ?_; refine (vbnd_1 e).trans ?_))
      (first | (refine (vlt (x := 7) (y := 8) (by decide) (by decide)).trans ?_) | (refine (vF_g rfl rfl).trans ?_; refine (vF_g rfl rfl).trans ?_; refine (vlt (x := 7) (y := 8) (by decide) (by decide)).trans ?_) | (refine (vF_g rfl rfl).trans ?_; refine (vlt (x := 7) (y := 8) (by decide) (by decide)).trans ?_))
      (first | (refine (vlt (x := vup (vup g9 126 1 6) 126 1 7 126 2) (y := 8) (by decide) (by rw [q3]; exact q)).trans ?_) | (refine (vF_g rfl rfl).trans ?_; refine (vF_g rfl rfl).trans ?_; refine (vlt (x := vup (vup g9 126 1 6) 126 1 7 126 2) (y := 8) (by decide) (by rw [q3]; exact q)).trans ?_) | (refine (vF_g rfl rfl).trans ?_; refine (vlt (x := vup (vup g9 126 1 6) 126 1 7 126 2) (y := 8) (by decide) (by rw [q3]; exact q)).trans ?_))
      (first | (exact rfl) | (refine (vF_g rfl rfl).trans ?_; refine (vF_g rfl rfl).trans ?_; exact rfl) | (refine (vF_g rfl rfl).trans ?_; refine (vF_g rfl rfl).trans ?_; refine (vF_g rfl rfl).trans ?_; exact rfl) | (refine (vF_g rfl rfl).trans ?_; exact rfl))
    · rw [vup_eq, q3, if_pos q, Nat.mod_eq_of_lt (by omega)]
  · refine ⟨_, vup (vup g9 126 1 6) 126 1 7, ?_, hg, fun k i h => vup_ne (Or.inl h), vup_eq, ?_⟩
    · refine vM_go rfl rfl rfl rfl fun F hF => ?_
      (first | (refine (vbnd_1 e).trans ?_) | (refine (vF_g rfl rfl).trans ?_; refine (vF_g rfl rfl).trans ?_; refine (vbnd_1 e).trans ?_) | (refine (vF_g rfl rfl).trans ?_; refine (vbnd_1 e).trans ?_))
      (first | (refine (vlt (x := 7) (y := 8) (by decide) (by decide)).trans ?_) | (refine (vF_g rfl rfl).trans ?_; refine (vF_g rfl rfl).trans ?_; refine (vlt (x := 7) (y := 8) (by decide) (by decide)).trans ?_) | (refine (vF_g rfl rfl).trans ?_; refine (vlt (x := 7) (y := 8) (by decide) (by decide)).trans ?_))
      (first | (refine (vge2 (x := vup (vup g9 126 1 6) 126 1 7 126 2) (y := 8) (by rw [q3]; omega) (by rw [q3]; omega)).trans ?_) | (refine (vF_g rfl rfl).trans ?_; refine (vF_g rfl rfl).trans ?_; refine (vge2 (x := vup (vup g9 126 1 6) 126 1 7 126 2) (y := 8) (by rw [q3]; omega) (by rw [q3]; omega)).trans ?_) | (refine (vF_g rfl rfl).trans ?_; refine (vge2 (x := vup (vup g9 126 1 6) 126 1 7 126 2) (y := 8) (by rw [q3]; omega) (by rw [q3]; omega)).trans ?_))
      (first | (exact rfl) | (refine (vF_g rfl rfl).trans ?_; refine (vF_g rfl rfl).trans ?_; exact rfl) | (refine (vF_g rfl rfl).trans ?_; refine (vF_g rfl rfl).trans ?_; refine (vF_g rfl rfl).trans ?_; exact rfl) | (refine (vF_g rfl rfl).trans ?_; exact rfl))
    · rw [q3, if_neg q]
      omega
set_option maxRecDepth 100000 in
theorem v_pop_6 {D : Nat} {f0 : Vw} (hc : 1 ≤ f0 126 2) (hc8 : f0 126 2 ≤ 8) (k2 : f0 362 2 ≤ 12) (k3 : f0 362 3 ≤ 8) : ∃ g1 g, vM MT0 (D + 3) 28 [vR 126, vR 7] (vup f0 126 1 7) = some ((1, 0), vW 3, g) ∧ CpW 7 362 (vup (vup f0 126 1 7) 126 1 6) g1 ∧ (∀ k i, k ≠ 126 → g k i = g1 k i) ∧ g 126 1 = 6 ∧ g 126 2 = f0 126 2 - 1 := by
  obtain ⟨g1, e, hg⟩ := v_cp_7_362 (D := D) (f := vup (vup f0 126 1 7) 126 1 6) k2 k3
  have q1 : g1 126 1 = 6 := (hg.2.2.2 126 1 (by decide)).trans vup_eq
  have q2 : g1 126 2 = f0 126 2 := (hg.2.2.2 126 2 (by decide)).trans ((vup_ne (Or.inr (by decide))).trans (vup_ne (Or.inr (by decide))))
  refine ⟨g1, vup g1 126 2 (gB9 0 (g1 126 2) 1), ?_, hg, fun k i h => vup_ne (Or.inl h), (vup_ne (Or.inr (by decide))).trans q1, ?_⟩
  · have h : gB9 0 (vup f0 126 1 7 126 1) 1 = 6 := by rw [vup_eq, gB_0]; decide
    refine vM_go rfl rfl rfl rfl fun F hF => ?_
    refine (vF_g rfl rfl).trans ?_
    (first | (refine (vge2 (x := f0 126 2) (y := 1) (by omega) hc).trans ?_) | (refine (vF_g rfl rfl).trans ?_; refine (vF_g rfl rfl).trans ?_; refine (vge2 (x := f0 126 2) (y := 1) (by omega) hc).trans ?_) | (refine (vF_g rfl rfl).trans ?_; refine (vge2 (x := f0 126 2) (y := 1) (by omega) hc).trans ?_))
    refine (vF_g rfl rfl).trans ?_
    (first | (refine (vgt (x := 7) (y := 0) (by decide) (by decide)).trans ?_) | (refine (vF_g rfl rfl).trans ?_; refine (vF_g rfl rfl).trans ?_; refine (vgt (x := 7) (y := 0) (by decide) (by decide)).trans ?_) | (refine (vF_g rfl rfl).trans ?_; refine (vgt (x := 7) (y := 0) (by decide) (by decide)).trans ?_))
    refine (vF_g rfl rfl).trans ?_
    (first | (refine Eq.trans (b := vFn (vM MT0 (D + 2)) nb_X4_pop (F + 57) 5 0 (iniL 2 [vR 126, vR 7]) [vI (gB9 0 (vup f0 126 1 7 126 1) 1), nth (iniL 2 [vR 126, vR 7]) 0] (vup f0 126 1 7)) rfl ?_) | (refine (vF_g rfl rfl).trans ?_; refine (vF_g rfl rfl).trans ?_; refine Eq.trans (b := vFn (vM MT0 (D + 2)) nb_X4_pop (F + 57) 5 0 (iniL 2 [vR 126, vR 7]) [vI (gB9 0 (vup f0 126 1 7 126 1) 1), nth (iniL 2 [vR 126, vR 7]) 0] (vup f0 126 1 7)) rfl ?_) | (refine (vF_g rfl rfl).trans ?_; refine Eq.trans (b := vFn (vM MT0 (D + 2)) nb_X4_pop (F + 57) 5 0 (iniL 2 [vR 126, vR 7]) [vI (gB9 0 (vup f0 126 1 7 126 1) 1), nth (iniL 2 [vR 126, vR 7]) 0] (vup f0 126 1 7)) rfl ?_))
    rw [h]
    refine (vF_g rfl rfl).trans ?_
    (first | (refine (vbnd_1 e).trans ?_) | (refine (vF_g rfl rfl).trans ?_; refine (vF_g rfl rfl).trans ?_; refine (vbnd_1 e).trans ?_) | (refine (vF_g rfl rfl).trans ?_; refine (vbnd_1 e).trans ?_))
    exact rfl
  · rw [vup_eq, q2, gB_0]
    unfold g_sub
    omega
set_option maxRecDepth 100000 in
theorem v_push_7 {D : Nat} {f0 : Vw} (hc8 : f0 126 2 ≤ 8) (k2 : f0 7 2 ≤ 12) (k3 : f0 7 3 ≤ 8) : ∃ g1 g, vM MT0 (D + 3) 27 [vR 126, vR 7] (vup f0 126 1 7) = some ((1, 0), vW 3, g) ∧ CpW 401 7 (vup f0 126 1 7) g1 ∧ (∀ k i, k ≠ 126 → g k i = g1 k i) ∧ g 126 1 = 0 ∧ g 126 2 = (if f0 126 2 < 8 then f0 126 2 + 1 else 8) := by
  obtain ⟨g1, e, hg⟩ := v_cp_401_7 (D := D) (f := vup f0 126 1 7) k2 k3
  have q1 : g1 126 1 = 7 := (hg.2.2.2 126 1 (by decide)).trans vup_eq
  have q2 : g1 126 2 = f0 126 2 := (hg.2.2.2 126 2 (by decide)).trans (vup_ne (Or.inr (by decide)))
  obtain ⟨g9, rfl⟩ : ∃ g9, g1 = vup g9 126 1 7 := ⟨g1, (vup_id q1).symm⟩
  have q3 : vup (vup g9 126 1 7) 126 1 0 126 2 = f0 126 2 := (vup_ne (Or.inr (by decide))).trans q2
  by_cases q : f0 126 2 < 8
  · refine ⟨_, vup (vup (vup g9 126 1 7) 126 1 0) 126 2 ((vup (vup g9 126 1 7) 126 1 0 126 2 + 1) % 4294967296), ?_, hg, fun k i h => (vup_ne (Or.inl h)).trans (vup_ne (Or.inl h)), (vup_ne (Or.inr (by decide))).trans vup_eq, ?_⟩
    · refine vM_go rfl rfl rfl rfl fun F hF => ?_
      (first | (refine (vbnd_1 e).trans ?_) | (refine (vF_g rfl rfl).trans ?_; refine (vF_g rfl rfl).trans ?_; refine (vbnd_1 e).trans ?_) | (refine (vF_g rfl rfl).trans ?_; refine (vbnd_1 e).trans ?_))
      (first | (refine (veq (x := 8) (y := 8) rfl).trans ?_) | (refine (vF_g rfl rfl).trans ?_; refine (vF_g rfl rfl).trans ?_; refine (veq (x := 8) (y := 8) rfl).trans ?_) | (refine (vF_g rfl rfl).trans ?_; refine (veq (x := 8) (y := 8) rfl).trans ?_))
      (first | (refine (vlt (x := vup (vup g9 126 1 7) 126 1 0 126 2) (y := 8) (by decide) (by rw [q3]; exact q)).trans ?_) | (refine (vF_g rfl rfl).trans ?_; refine (vF_g rfl rfl).trans ?_; refine (vlt (x := vup (vup g9 126 1 7) 126 1 0 126 2) (y := 8) (by decide) (by rw [q3]; exact q)).trans ?_) | (refine (vF_g rfl rfl).trans ?_; refine (vlt (x := vup (vup g9 126 1 7) 126 1 0 126 2) (y := 8) (by decide) (by rw [q3]; exact q)).trans ?_))
      (first | (exact rfl) | (refine (vF_g rfl rfl).trans ?_; refine (vF_g rfl rfl).trans ?_; exact rfl) | (refine (vF_g rfl rfl).trans ?_; refine (vF_g rfl rfl).trans ?_; refine (vF_g rfl rfl).trans ?_; exact rfl) | (refine (vF_g rfl rfl).trans ?_; exact rfl))
    · rw [vup_eq, q3, if_pos q, Nat.mod_eq_of_lt (by omega)]
  · refine ⟨_, vup (vup g9 126 1 7) 126 1 0, ?_, hg, fun k i h => vup_ne (Or.inl h), vup_eq, ?_⟩
    · refine vM_go rfl rfl rfl rfl fun F hF => ?_
      (first | (refine (vbnd_1 e).trans ?_) | (refine (vF_g rfl rfl).trans ?_; refine (vF_g rfl rfl).trans ?_; refine (vbnd_1 e).trans ?_) | (refine (vF_g rfl rfl).trans ?_; refine (vbnd_1 e).trans ?_))
      (first | (refine (veq (x := 8) (y := 8) rfl).trans ?_) | (refine (vF_g rfl rfl).trans ?_; refine (vF_g rfl rfl).trans ?_; refine (veq (x := 8) (y := 8) rfl).trans ?_) | (refine (vF_g rfl rfl).trans ?_; refine (veq (x := 8) (y := 8) rfl).trans ?_))
      (first | (refine (vge2 (x := vup (vup g9 126 1 7) 126 1 0 126 2) (y := 8) (by rw [q3]; omega) (by rw [q3]; omega)).trans ?_) | (refine (vF_g rfl rfl).trans ?_; refine (vF_g rfl rfl).trans ?_; refine (vge2 (x := vup (vup g9 126 1 7) 126 1 0 126 2) (y := 8) (by rw [q3]; omega) (by rw [q3]; omega)).trans ?_) | (refine (vF_g rfl rfl).trans ?_; refine (vge2 (x := vup (vup g9 126 1 7) 126 1 0 126 2) (y := 8) (by rw [q3]; omega) (by rw [q3]; omega)).trans ?_))
      (first | (exact rfl) | (refine (vF_g rfl rfl).trans ?_; refine (vF_g rfl rfl).trans ?_; exact rfl) | (refine (vF_g rfl rfl).trans ?_; refine (vF_g rfl rfl).trans ?_; refine (vF_g rfl rfl).trans ?_; exact rfl) | (refine (vF_g rfl rfl).trans ?_; exact rfl))
    · rw [q3, if_neg q]
      omega
set_option maxRecDepth 100000 in
theorem v_pop_7 {D : Nat} {f0 : Vw} (hc : 1 ≤ f0 126 2) (hc8 : f0 126 2 ≤ 8) (k2 : f0 401 2 ≤ 12) (k3 : f0 401 3 ≤ 8) : ∃ g1 g, vM MT0 (D + 3) 28 [vR 126, vR 7] (vup f0 126 1 0) = some ((1, 0), vW 3, g) ∧ CpW 7 401 (vup (vup f0 126 1 0) 126 1 7) g1 ∧ (∀ k i, k ≠ 126 → g k i = g1 k i) ∧ g 126 1 = 7 ∧ g 126 2 = f0 126 2 - 1 := by
  obtain ⟨g1, e, hg⟩ := v_cp_7_401 (D := D) (f := vup (vup f0 126 1 0) 126 1 7) k2 k3
  have q1 : g1 126 1 = 7 := (hg.2.2.2 126 1 (by decide)).trans vup_eq
  have q2 : g1 126 2 = f0 126 2 := (hg.2.2.2 126 2 (by decide)).trans ((vup_ne (Or.inr (by decide))).trans (vup_ne (Or.inr (by decide))))
  refine ⟨g1, vup g1 126 2 (gB9 0 (g1 126 2) 1), ?_, hg, fun k i h => vup_ne (Or.inl h), (vup_ne (Or.inr (by decide))).trans q1, ?_⟩
  · refine vM_go rfl rfl rfl rfl fun F hF => ?_
    (first | (refine (vge2 (x := f0 126 2) (y := 1) (by omega) hc).trans ?_) | (refine (vF_g rfl rfl).trans ?_; refine (vF_g rfl rfl).trans ?_; refine (vge2 (x := f0 126 2) (y := 1) (by omega) hc).trans ?_) | (refine (vF_g rfl rfl).trans ?_; refine (vge2 (x := f0 126 2) (y := 1) (by omega) hc).trans ?_))
    (first | (refine (veq (x := 0) (y := 0) rfl).trans ?_) | (refine (vF_g rfl rfl).trans ?_; refine (vF_g rfl rfl).trans ?_; refine (veq (x := 0) (y := 0) rfl).trans ?_) | (refine (vF_g rfl rfl).trans ?_; refine (veq (x := 0) (y := 0) rfl).trans ?_))
    (first | (refine (vbnd_1 e).trans ?_) | (refine (vF_g rfl rfl).trans ?_; refine (vF_g rfl rfl).trans ?_; refine (vbnd_1 e).trans ?_) | (refine (vF_g rfl rfl).trans ?_; refine (vbnd_1 e).trans ?_))
    (first | (exact rfl) | (refine (vF_g rfl rfl).trans ?_; refine (vF_g rfl rfl).trans ?_; exact rfl) | (refine (vF_g rfl rfl).trans ?_; refine (vF_g rfl rfl).trans ?_; refine (vF_g rfl rfl).trans ?_; exact rfl) | (refine (vF_g rfl rfl).trans ?_; exact rfl))
  · rw [vup_eq, q2, gB_0]
    unfold g_sub
    omega
