/-! the program's load -/
noncomputable def nte (f : Vw) : Vw := vup (vup f 0 13 (f 446 6)) 0 14 (vup f 0 13 (f 446 6) 446 7)
theorem v_note {D : Nat} {f : Vw} : vM MT0 (D + 1) 167 [vR 0] f = some ((1, 0), vW 3, nte f) := vM_go rfl rfl rfl rfl fun F hF => (by (first | (exact rfl) | (refine (vF_g rfl rfl).trans ?_; refine (vF_g rfl rfl).trans ?_; exact rfl) | (refine (vF_g rfl rfl).trans ?_; refine (vF_g rfl rfl).trans ?_; refine (vF_g rfl rfl).trans ?_; exact rfl) | (refine (vF_g rfl rfl).trans ?_; exact rfl)))
theorem nte_o {f : Vw} {a b : Nat} (h : a ≠ 0) : nte f a b = f a b := (vup_ne (Or.inl h)).trans (vup_ne (Or.inl h))
theorem nte_13 {f : Vw} : nte f 0 13 = f 446 6 := (vup_ne (Or.inr (by decide))).trans vup_eq
theorem nte_14 {f : Vw} : nte f 0 14 = f 446 7 := vup_eq.trans (vup_ne (Or.inl (by decide)))
noncomputable def cpS (f : Vw) : Vw := cpF 5 85 2 (vcp (cpF 5 85 0 f) 86 6 0 0 12)
theorem v_cpS {D : Nat} {f : Vw} : vM MT0 (D + 1) 40 [vR 5, vR 85] f = some ((1, 0), vW 3, cpS f) := vM_go rfl rfl rfl rfl fun F hF => (by (first | (exact rfl) | (refine (vF_g rfl rfl).trans ?_; refine (vF_g rfl rfl).trans ?_; exact rfl) | (refine (vF_g rfl rfl).trans ?_; refine (vF_g rfl rfl).trans ?_; refine (vF_g rfl rfl).trans ?_; exact rfl) | (refine (vF_g rfl rfl).trans ?_; exact rfl)))
theorem cpS_o {f : Vw} {a b : Nat} (h : a ≠ 5) (h2 : a ≠ 6) : cpS f a b = f a b := (cpF_o h).trans ((vcp_o h2).trans (cpF_o h))
theorem v_adopt {D : Nat} {f : Vw} (hc : f 46 2 ≤ 12) (hd : f 46 3 ≤ 8) : ∃ g, vM MT0 (D + 3) 166 [vR 0] f = some ((1, 0), vW 3, vup (cpS g) 126 2 0) ∧ CpW 7 46 f g := by
  obtain ⟨g, e, hg⟩ := v_cp_7_46 (D := D) hc hd
  have e2 := v_cpS (D := D + 1) (f := g)
  exact ⟨g, vM_go rfl rfl rfl rfl fun F hF => (by (first | (refine (vbnd_1 e).trans ?_) | (refine (vF_g rfl rfl).trans ?_; refine (vF_g rfl rfl).trans ?_; refine (vbnd_1 e).trans ?_) | (refine (vF_g rfl rfl).trans ?_; refine (vbnd_1 e).trans ?_)); (first | (refine (vbnd_1 e2).trans ?_) | (refine (vF_g rfl rfl).trans ?_; refine (vF_g rfl rfl).trans ?_; refine (vbnd_1 e2).trans ?_) | (refine (vF_g rfl rfl).trans ?_; refine (vbnd_1 e2).trans ?_)); (first | (exact rfl) | (refine (vF_g rfl rfl).trans ?_; refine (vF_g rfl rfl).trans ?_; exact rfl) | (refine (vF_g rfl rfl).trans ?_; refine (vF_g rfl rfl).trans ?_; refine (vF_g rfl rfl).trans ?_; exact rfl) | (refine (vF_g rfl rfl).trans ?_; exact rfl))), hg⟩
theorem v_loadC {D n : Nat} {T : Nat → Nat} {f : Vw} (hx : TxC f n T) : ((oCfg T).1.1 = 0 → ∃ g, vM MT0 (D + 8) 101 [vR 0] f = some ((0, 0), vI (oCfg T).2.1.1, g) ∧ g 1 1 = 0 ∧ g 0 13 = 0 ∧ g 0 14 = 4294967295 ∧ g 126 2 = 0 ∧ g 7 2 = (oCfg T).2.1.1 ∧ g 7 3 = (oCfg T).2.1.2 ∧ (oCfg T).2.1.1 ≤ 12 ∧ (oCfg T).2.1.2 ≤ 8 ∧ (∀ j, j < (oCfg T).2.1.1 → ∀ i, i ≤ 4 → g (10 + j) i = (oCfg T).2.2.1 j i) ∧ (∀ j, j < (oCfg T).2.1.2 → ∀ i, i ≤ 4 → g (22 + 3 * j) i = (oCfg T).2.2.2 j i) ∧ (∀ k i, 87 ≤ k → k ≠ 126 → k ≠ 446 → g k i = f k i) ∧ g 0 7 = f 0 7) ∧ ((oCfg T).1.1 ≠ 0 → ∃ g, vM MT0 (D + 8) 101 [vR 0] f = some ((2, 1), vW 3, g) ∧ g 1 1 = 0 ∧ g 0 13 = (oCfg T).1.1 ∧ g 0 14 = (oCfg T).1.2 ∧ (∀ k i, (k < 46 ∨ 86 < k) → k ≠ 446 → k ≠ 0 → k ≠ 1 → g k i = f k i) ∧ g 0 7 = f 0 7) := by
  obtain ⟨w1, w2⟩ := v_parse (D := D) hx
  refine ⟨fun k => ?_, fun k => ?_⟩
  · obtain ⟨g, e, c1, d1, c9, d9, hE, hV, o1⟩ := w1 k
    have z : ∀ a b, a ≠ 0 → a ≠ 1 → vup (nte g) 1 1 0 a b = g a b := fun a b h0 h1 => (vup_ne (Or.inl h1)).trans (nte_o h0)
    obtain ⟨g2, e2, p1, p2, p3, p4⟩ := v_adopt (D := D + 4) (f := vup (nte g) 1 1 0) (by rw [z _ _ (by decide) (by decide), c1]; exact c9) (by rw [z _ _ (by decide) (by decide), d1]; exact d9)
    rw [z _ _ (by decide) (by decide), c1] at p2
    rw [z _ _ (by decide) (by decide), d1] at p3
    have o : ∀ a b, a ≠ 126 → a ≠ 5 → a ≠ 6 → vup (cpS g2) 126 2 0 a b = g2 a b := fun a b h1 h2 h3 => (vup_ne (Or.inl h1)).trans (cpS_o h2 h3)
    have a72 : vup (cpS g2) 126 2 0 7 2 = (oCfg T).2.1.1 := (o _ _ (by decide) (by decide) (by decide)).trans ((p1 2 (by decide) (by decide)).trans ((z _ _ (by decide) (by decide)).trans c1))
    have a73 : vup (cpS g2) 126 2 0 7 3 = (oCfg T).2.1.2 := (o _ _ (by decide) (by decide) (by decide)).trans ((p1 3 (by decide) (by decide)).trans ((z _ _ (by decide) (by decide)).trans d1))
    refine ⟨vup (cpS g2) 126 2 0, ?_, ?_, ?_, ?_, vup_eq, a72, a73, c9, d9, fun j hj i hi => ?_, fun j hj i hi => ?_, fun k i h1 h2 h3 => ?_, ?_⟩
    · refine vM_go rfl rfl rfl rfl fun F hF => ?_
      (first | (refine (vbnd_0 e).trans ?_) | (refine (vF_g rfl rfl).trans ?_; refine (vF_g rfl rfl).trans ?_; refine (vbnd_0 e).trans ?_) | (refine (vF_g rfl rfl).trans ?_; refine (vbnd_0 e).trans ?_))
      (first | (refine (vbnd_1 (v_note (D := D + 6))).trans ?_) | (refine (vF_g rfl rfl).trans ?_; refine (vF_g rfl rfl).trans ?_; refine (vbnd_1 (v_note (D := D + 6))).trans ?_) | (refine (vF_g rfl rfl).trans ?_; refine (vbnd_1 (v_note (D := D + 6))).trans ?_))
      (first | (refine (vgt (x := 1) (y := 0) (by decide) (by decide)).trans ?_) | (refine (vF_g rfl rfl).trans ?_; refine (vF_g rfl rfl).trans ?_; refine (vgt (x := 1) (y := 0) (by decide) (by decide)).trans ?_) | (refine (vF_g rfl rfl).trans ?_; refine (vgt (x := 1) (y := 0) (by decide) (by decide)).trans ?_))
      (first | (refine (vbnd_1 e2).trans ?_) | (refine (vF_g rfl rfl).trans ?_; refine (vF_g rfl rfl).trans ?_; refine (vbnd_1 e2).trans ?_) | (refine (vF_g rfl rfl).trans ?_; refine (vbnd_1 e2).trans ?_))
      (first | (refine Eq.trans (b := some ((0, 0), vI (vup (cpS g2) 126 2 0 7 2), vup (cpS g2) 126 2 0)) rfl ?_) | (refine (vF_g rfl rfl).trans ?_; refine (vF_g rfl rfl).trans ?_; refine Eq.trans (b := some ((0, 0), vI (vup (cpS g2) 126 2 0 7 2), vup (cpS g2) 126 2 0)) rfl ?_) | (refine (vF_g rfl rfl).trans ?_; refine Eq.trans (b := some ((0, 0), vI (vup (cpS g2) 126 2 0 7 2), vup (cpS g2) 126 2 0)) rfl ?_))
      rw [a72]
    · exact (o _ _ (by decide) (by decide) (by decide)).trans ((p4 _ _ (by decide)).trans vup_eq)
    · exact (o _ _ (by decide) (by decide) (by decide)).trans ((p4 _ _ (by decide)).trans ((vup_ne (Or.inl (by decide))).trans (nte_13.trans o1.1)))
    · exact (o _ _ (by decide) (by decide) (by decide)).trans ((p4 _ _ (by decide)).trans ((vup_ne (Or.inl (by decide))).trans (nte_14.trans o1.2.1)))
    · exact (o _ _ (by omega) (by omega) (by omega)).trans ((p2 j hj i (by omega)).trans ((z _ _ (by omega) (by omega)).trans (hE j hj i hi)))
    · exact (o _ _ (by omega) (by omega) (by omega)).trans (((p3 j hj).1 i (by omega) (by omega) (by omega)).trans ((z _ _ (by omega) (by omega)).trans (hV j hj i hi)))
    · exact (o _ _ h2 (by omega) (by omega)).trans ((p4 _ _ (by omega)).trans ((z _ _ (by omega) (by omega)).trans (o1.2.2 _ _ (by omega) h3)))
    · exact (o _ _ (by decide) (by decide) (by decide)).trans ((p4 _ _ (by decide)).trans ((vup_ne (Or.inl (by decide))).trans ((vup_ne (Or.inr (by decide))).trans ((vup_ne (Or.inr (by decide))).trans (o1.2.2 _ _ (by decide) (by decide))))))
  · obtain ⟨g, e, hg⟩ := w2 k
    refine ⟨vup (nte g) 1 1 0, ?_, vup_eq, (vup_ne (Or.inl (by decide))).trans (nte_13.trans hg.1), (vup_ne (Or.inl (by decide))).trans (nte_14.trans hg.2.1), fun a b ha h9 h1 h2 => (vup_ne (Or.inl h2)).trans ((nte_o h1).trans (hg.2.2 a b ha h9)), (vup_ne (Or.inl (by decide))).trans ((vup_ne (Or.inr (by decide))).trans ((vup_ne (Or.inr (by decide))).trans (hg.2.2 _ _ (by decide) (by decide))))⟩
    refine vM_go rfl rfl rfl rfl fun F hF => ?_
    (first | (refine (vbnd_0 e).trans ?_) | (refine (vF_g rfl rfl).trans ?_; refine (vF_g rfl rfl).trans ?_; refine (vbnd_0 e).trans ?_) | (refine (vF_g rfl rfl).trans ?_; refine (vbnd_0 e).trans ?_))
    (first | (refine (vbnd_1 (v_note (D := D + 6))).trans ?_) | (refine (vF_g rfl rfl).trans ?_; refine (vF_g rfl rfl).trans ?_; refine (vbnd_1 (v_note (D := D + 6))).trans ?_) | (refine (vF_g rfl rfl).trans ?_; refine (vbnd_1 (v_note (D := D + 6))).trans ?_))
    (first | (refine (veq (x := 0) (y := 0) rfl).trans ?_) | (refine (vF_g rfl rfl).trans ?_; refine (vF_g rfl rfl).trans ?_; refine (veq (x := 0) (y := 0) rfl).trans ?_) | (refine (vF_g rfl rfl).trans ?_; refine (veq (x := 0) (y := 0) rfl).trans ?_))
    (first | (exact rfl) | (refine (vF_g rfl rfl).trans ?_; refine (vF_g rfl rfl).trans ?_; exact rfl) | (refine (vF_g rfl rfl).trans ?_; refine (vF_g rfl rfl).trans ?_; refine (vF_g rfl rfl).trans ?_; exact rfl) | (refine (vF_g rfl rfl).trans ?_; exact rfl))
