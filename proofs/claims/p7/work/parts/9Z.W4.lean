/-! executeCommands of a text with an error, on views: the program's side -/
theorem v_execC_e {D n c d : Nat} {T N M : Nat → Nat} {f : Vw} (hB : CB f n T N c M d) (k : (oCm T N c M d 30 0).1 ≠ 0) : ∃ g, vM MT0 (D + 8) 102 [vR 0] f = some ((2, 1), vW 3, g) ∧ g 0 13 = (oCm T N c M d 30 0).1 ∧ g 0 14 = (oCm T N c M d 30 0).2 := by
  obtain ⟨g, e, hg⟩ := (v_cparse (D := D) hB).2 k
  refine ⟨vup (nte g) 1 1 0, ?_, (vup_ne (Or.inl (by decide))).trans (nte_13.trans hg.2.1), (vup_ne (Or.inl (by decide))).trans (nte_14.trans hg.2.2)⟩
  refine vM_go rfl rfl rfl rfl fun F hF => ?_
  (first | (refine (vbnd_0 e).trans ?_) | (refine (vF_g rfl rfl).trans ?_; refine (vF_g rfl rfl).trans ?_; refine (vbnd_0 e).trans ?_) | (refine (vF_g rfl rfl).trans ?_; refine (vbnd_0 e).trans ?_))
  (first | (refine (vbnd_1 (v_note (D := D + 6))).trans ?_) | (refine (vF_g rfl rfl).trans ?_; refine (vF_g rfl rfl).trans ?_; refine (vbnd_1 (v_note (D := D + 6))).trans ?_) | (refine (vF_g rfl rfl).trans ?_; refine (vbnd_1 (v_note (D := D + 6))).trans ?_))
  (first | (refine (veq (x := 0) (y := 0) rfl).trans ?_) | (refine (vF_g rfl rfl).trans ?_; refine (vF_g rfl rfl).trans ?_; refine (veq (x := 0) (y := 0) rfl).trans ?_) | (refine (vF_g rfl rfl).trans ?_; refine (veq (x := 0) (y := 0) rfl).trans ?_))
  (first | (exact rfl) | (refine (vF_g rfl rfl).trans ?_; refine (vF_g rfl rfl).trans ?_; exact rfl) | (refine (vF_g rfl rfl).trans ?_; refine (vF_g rfl rfl).trans ?_; refine (vF_g rfl rfl).trans ?_; exact rfl) | (refine (vF_g rfl rfl).trans ?_; exact rfl))
theorem v_LexecC_e {D n c d : Nat} {T N M : Nat → Nat} {f : Vw} (hB : CB f n T N c M d) (k : (oCm T N c M d 30 0).1 ≠ 0) : ∃ g, vM MT0 (D + 9) 348 [vR 0, vR 465] f = some ((0, 0), vI 1, g) ∧ g 0 13 = (oCm T N c M d 30 0).1 ∧ g 0 14 = (oCm T N c M d 30 0).2 := by
  obtain ⟨g, e, hg⟩ := v_execC_e (D := D) hB k
  exact ⟨g, vM_go rfl rfl rfl rfl fun F hF => (by (first | (refine (vbnd_2 e).trans ?_) | (refine (vF_g rfl rfl).trans ?_; refine (vF_g rfl rfl).trans ?_; refine (vbnd_2 e).trans ?_) | (refine (vF_g rfl rfl).trans ?_; refine (vbnd_2 e).trans ?_)); (first | (exact rfl) | (refine (vF_g rfl rfl).trans ?_; refine (vF_g rfl rfl).trans ?_; exact rfl) | (refine (vF_g rfl rfl).trans ?_; refine (vF_g rfl rfl).trans ?_; refine (vF_g rfl rfl).trans ?_; exact rfl) | (refine (vF_g rfl rfl).trans ?_; exact rfl))), hg⟩
