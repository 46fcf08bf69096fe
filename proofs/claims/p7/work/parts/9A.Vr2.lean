/-! the reference's end of a line goes forward, wherever it stands -/
theorem v_semiX {D α : Nat} {f : Vw} (h17 : f 452 17 = α) (hα : α ≤ 900) (he : f 452 20 = 0) (hn : f 452 16 ≤ 900) (hb : ∀ i, btR f i < 256 ∨ btR f i = 4294967295) : ∃ g, vM MT0 (D + 3) 234 [vR 452] f = some ((1, 0), vW 3, g) ∧ α + 1 ≤ g 452 17 ∧ g 452 17 ≤ 901 := by
  have main : ∀ (x s : Nat) (f1 : Vw), vM MT0 (D + 2) 229 [vR 452] f = some ((0, 0), vI x, f1) → f1 452 20 = 0 → f1 452 17 = s → α ≤ s → s ≤ 900 → x < 4294967296 → ∃ g, vM MT0 (D + 3) 234 [vR 452] f = some ((1, 0), vW 3, g) ∧ α + 1 ≤ g 452 17 ∧ g 452 17 ≤ 901 := by
    intro x s f1 e e20 e17 h1 h2 hx
    by_cases k : x = 59
    · have m : vM MT0 (D + 2) 230 [vR 452, vI 1, vI 1] f1 = some ((1, 0), vW 3, f1) := by
        rw [v_must (Or.inr rfl) (by rw [e20]; decide), if_neg (fun w => by cases w.1)]
      refine ⟨vup f1 452 17 (s + 1), ?_, by rw [vup_eq]; omega, by rw [vup_eq]; omega⟩
      refine vM_go rfl rfl rfl rfl fun F hF => ?_
      (first | (refine (veq he).trans ?_) | (refine (vF_g rfl rfl).trans ?_; refine (vF_g rfl rfl).trans ?_; refine (veq he).trans ?_) | (refine (vF_g rfl rfl).trans ?_; refine (veq he).trans ?_))
      (first | (refine (vbnd_0 e).trans ?_) | (refine (vF_g rfl rfl).trans ?_; refine (vF_g rfl rfl).trans ?_; refine (vbnd_0 e).trans ?_) | (refine (vF_g rfl rfl).trans ?_; refine (vbnd_0 e).trans ?_))
      (first | (refine (veq k).trans ?_) | (refine (vF_g rfl rfl).trans ?_; refine (vF_g rfl rfl).trans ?_; refine (veq k).trans ?_) | (refine (vF_g rfl rfl).trans ?_; refine (veq k).trans ?_))
      (first | (refine (vbnd_1 m).trans ?_) | (refine (vF_g rfl rfl).trans ?_; refine (vF_g rfl rfl).trans ?_; refine (vbnd_1 m).trans ?_) | (refine (vF_g rfl rfl).trans ?_; refine (vbnd_1 m).trans ?_))
      (first | (refine Eq.trans (b := some ((1, 0), vW 3, vup f1 452 17 ((f1 452 17 + 1) % 4294967296))) rfl ?_) | (refine (vF_g rfl rfl).trans ?_; refine (vF_g rfl rfl).trans ?_; refine Eq.trans (b := some ((1, 0), vW 3, vup f1 452 17 ((f1 452 17 + 1) % 4294967296))) rfl ?_) | (refine (vF_g rfl rfl).trans ?_; refine Eq.trans (b := some ((1, 0), vW 3, vup f1 452 17 ((f1 452 17 + 1) % 4294967296))) rfl ?_))
      rw [e17, Nat.mod_eq_of_lt (show s + 1 < 4294967296 by omega)]
    · have m : vM MT0 (D + 2) 230 [vR 452, vI 0, vI 1] f1 = some ((1, 0), vW 3, flR 1 f1) := by
        rw [v_must (Or.inl rfl) (by rw [e20]; decide), if_pos ⟨rfl, e20⟩]
      have f17 : flR 1 f1 452 17 = s := (show vup (vup f1 452 20 1) 452 21 (f1 452 18) 452 17 = s from (vup_ne (Or.inr (by decide))).trans ((vup_ne (Or.inr (by decide))).trans e17))
      refine ⟨vup (flR 1 f1) 452 17 (s + 1), ?_, by rw [vup_eq]; omega, by rw [vup_eq]; omega⟩
      refine vM_go rfl rfl rfl rfl fun F hF => ?_
      (first | (refine (veq he).trans ?_) | (refine (vF_g rfl rfl).trans ?_; refine (vF_g rfl rfl).trans ?_; refine (veq he).trans ?_) | (refine (vF_g rfl rfl).trans ?_; refine (veq he).trans ?_))
      (first | (refine (vbnd_0 e).trans ?_) | (refine (vF_g rfl rfl).trans ?_; refine (vF_g rfl rfl).trans ?_; refine (vbnd_0 e).trans ?_) | (refine (vF_g rfl rfl).trans ?_; refine (vbnd_0 e).trans ?_))
      (first | (refine (vne (x := x) (y := 59) hx (by decide) k).trans ?_) | (refine (vF_g rfl rfl).trans ?_; refine (vF_g rfl rfl).trans ?_; refine (vne (x := x) (y := 59) hx (by decide) k).trans ?_) | (refine (vF_g rfl rfl).trans ?_; refine (vne (x := x) (y := 59) hx (by decide) k).trans ?_))
      (first | (refine (vbnd_1 m).trans ?_) | (refine (vF_g rfl rfl).trans ?_; refine (vF_g rfl rfl).trans ?_; refine (vbnd_1 m).trans ?_) | (refine (vF_g rfl rfl).trans ?_; refine (vbnd_1 m).trans ?_))
      (first | (refine Eq.trans (b := some ((1, 0), vW 3, vup (flR 1 f1) 452 17 ((flR 1 f1 452 17 + 1) % 4294967296))) rfl ?_) | (refine (vF_g rfl rfl).trans ?_; refine (vF_g rfl rfl).trans ?_; refine Eq.trans (b := some ((1, 0), vW 3, vup (flR 1 f1) 452 17 ((flR 1 f1 452 17 + 1) % 4294967296))) rfl ?_) | (refine (vF_g rfl rfl).trans ?_; refine Eq.trans (b := some ((1, 0), vW 3, vup (flR 1 f1) 452 17 ((flR 1 f1 452 17 + 1) % 4294967296))) rfl ?_))
      rw [f17, Nat.mod_eq_of_lt (show s + 1 < 4294967296 by omega)]
  rcases Nat.lt_or_ge (f 452 16) α with q | q
  · have hT : btR f α = 4294967295 := if_neg (by omega)
    have f18 : vup (vup f 452 18 (f 452 17)) 452 19 0 452 18 = α := (vup_ne (Or.inr (by decide))).trans (vup_eq.trans h17)
    have f19 : vup (vup f 452 18 (f 452 17)) 452 19 0 452 19 = 0 := vup_eq
    have f17 : vup (vup f 452 18 (f 452 17)) 452 19 0 452 17 = α := (vup_ne (Or.inr (by decide))).trans ((vup_ne (Or.inr (by decide))).trans h17)
    have f16 : vup (vup f 452 18 (f 452 17)) 452 19 0 452 16 ≤ 900 := by
      rw [vup_ne (Or.inr (by decide)), vup_ne (Or.inr (by decide))]
      exact hn
    have fT : btR (vup (vup f 452 18 (f 452 17)) 452 19 0) α = 4294967295 := by
      rw [btR_up (by decide), btR_up (by decide)]
      exact hT
    have b0 : vM MT0 (D + 1) 228 [vR 452, vI (f 452 17)] f = some ((0, 0), vI 4294967295, f) := by
      rw [h17, v_byteR (by omega) hn, hT]
    have b3 : vM MT0 (D + 1) 228 [vR 452, vI ((vup (vup f 452 18 (f 452 17)) 452 19 0 452 18 + vup (vup f 452 18 (f 452 17)) 452 19 0 452 19) % 4294967296)] (vup (vup f 452 18 (f 452 17)) 452 19 0) = some ((0, 0), vI 4294967295, vup (vup f 452 18 (f 452 17)) 452 19 0) := by
      rw [f18, f19, show (α + 0) % 4294967296 = α by omega, v_byteR (by omega) f16, fT]
    have b5 : vM MT0 (D + 1) 228 [vR 452, vI (vup (vup f 452 18 (f 452 17)) 452 19 0 452 17)] (vup (vup f 452 18 (f 452 17)) 452 19 0) = some ((0, 0), vI 4294967295, vup (vup f 452 18 (f 452 17)) 452 19 0) := by
      rw [f17, v_byteR (by omega) f16, fT]
    have i0 : vM MT0 (D + 1) 174 [vJ (toNL (nI 4294967295).toInt64), vJ 97, vJ 122] (vup (vup f 452 18 (f 452 17)) 452 19 0) = some ((0, 0), vI 0, vup (vup f 452 18 (f 452 17)) 452 19 0) := by
      rw [v_in, if_neg (fun w => by have := (in_9 (Or.inr rfl) (by decide) (by decide)).mp w; omega)]
    have e : vM MT0 (D + 2) 229 [vR 452] f = some ((0, 0), vI 4294967295, vup (vup f 452 18 (f 452 17)) 452 19 0) := vM_go rfl rfl rfl rfl fun F hF => (by (first | (refine (vbnd_0 b0).trans ?_) | (refine (vF_g rfl rfl).trans ?_; refine (vF_g rfl rfl).trans ?_; refine (vbnd_0 b0).trans ?_) | (refine (vF_g rfl rfl).trans ?_; refine (vbnd_0 b0).trans ?_)); (first | (refine (vne (x := 4294967295) (y := 32) (by decide) (by decide) (by decide)).trans ?_) | (refine (vF_g rfl rfl).trans ?_; refine (vF_g rfl rfl).trans ?_; refine (vne (x := 4294967295) (y := 32) (by decide) (by decide) (by decide)).trans ?_) | (refine (vF_g rfl rfl).trans ?_; refine (vne (x := 4294967295) (y := 32) (by decide) (by decide) (by decide)).trans ?_)); (first | (refine (vbnd_0 b3).trans ?_) | (refine (vF_g rfl rfl).trans ?_; refine (vF_g rfl rfl).trans ?_; refine (vbnd_0 b3).trans ?_) | (refine (vF_g rfl rfl).trans ?_; refine (vbnd_0 b3).trans ?_)); (first | (refine (vbnd_0 i0).trans ?_) | (refine (vF_g rfl rfl).trans ?_; refine (vF_g rfl rfl).trans ?_; refine (vbnd_0 i0).trans ?_) | (refine (vF_g rfl rfl).trans ?_; refine (vbnd_0 i0).trans ?_)); (first | (refine (veq (x := 0) (y := 0) rfl).trans ?_) | (refine (vF_g rfl rfl).trans ?_; refine (vF_g rfl rfl).trans ?_; refine (veq (x := 0) (y := 0) rfl).trans ?_) | (refine (vF_g rfl rfl).trans ?_; refine (veq (x := 0) (y := 0) rfl).trans ?_)); (first | (refine (vbnd_0 b5).trans ?_) | (refine (vF_g rfl rfl).trans ?_; refine (vF_g rfl rfl).trans ?_; refine (vbnd_0 b5).trans ?_) | (refine (vF_g rfl rfl).trans ?_; refine (vbnd_0 b5).trans ?_)); (first | (exact rfl) | (refine (vF_g rfl rfl).trans ?_; refine (vF_g rfl rfl).trans ?_; exact rfl) | (refine (vF_g rfl rfl).trans ?_; refine (vF_g rfl rfl).trans ?_; refine (vF_g rfl rfl).trans ?_; exact rfl) | (refine (vF_g rfl rfl).trans ?_; exact rfl)))
    exact main _ α _ e ((vup_ne (Or.inr (by decide))).trans ((vup_ne (Or.inr (by decide))).trans he)) f17 (Nat.le_refl _) hα (by decide)
  · have hx : TxR f (f 452 16) (btR f) := ⟨hn, rfl, fun _ => rfl, hb, fun i hi => if_neg (by omega)⟩
    have e := v_nextR (D := D) hx h17 q
    have hs := tS_le hx.2.2.2.2 q
    have h9 := hb (tS (btR f) α)
    exact main _ (tS (btR f) α) _ e ((rkv_o (Or.inr ⟨by decide, by decide, by decide⟩)).trans he) rkv_17 hs.1 (by omega) (by omega)
