/-! the law's helpers, truncate, thrown on views -/
theorem v_thrown {D : Nat} {f : Vw} : vM MT0 (D + 1) 173 [vR 452] f = some ((0, 0), vI (f 452 6), f) := vM_go rfl rfl rfl rfl fun F hF => (by (first | (exact rfl) | (refine (vF_g rfl rfl).trans ?_; refine (vF_g rfl rfl).trans ?_; exact rfl) | (refine (vF_g rfl rfl).trans ?_; refine (vF_g rfl rfl).trans ?_; refine (vF_g rfl rfl).trans ?_; exact rfl) | (refine (vF_g rfl rfl).trans ?_; exact rfl)))
theorem v_truC {D x : Nat} {f : Vw} (h9 : f 1 1 ≤ 900) (hx : x < 4294967296) : (x ≤ f 1 1 → vM MT0 (D + 1) 100 [vR 0, vI x] f = some ((0, 0), vI x, vup f 1 1 x)) ∧ (¬ x ≤ f 1 1 → vM MT0 (D + 1) 100 [vR 0, vI x] f = some ((2, 1), vW 3, f)) := by
  refine ⟨fun h => ?_, fun h => ?_⟩
  · refine vM_go rfl rfl rfl rfl fun F hF => ?_
    (first | (refine (vge2 (x := x) (y := 0) (by omega) (Nat.zero_le _)).trans ?_) | (refine (vF_g rfl rfl).trans ?_; refine (vF_g rfl rfl).trans ?_; refine (vge2 (x := x) (y := 0) (by omega) (Nat.zero_le _)).trans ?_) | (refine (vF_g rfl rfl).trans ?_; refine (vge2 (x := x) (y := 0) (by omega) (Nat.zero_le _)).trans ?_))
    (first | (refine (vle2 (x := x) (y := f 1 1) (by omega) h).trans ?_) | (refine (vF_g rfl rfl).trans ?_; refine (vF_g rfl rfl).trans ?_; refine (vle2 (x := x) (y := f 1 1) (by omega) h).trans ?_) | (refine (vF_g rfl rfl).trans ?_; refine (vle2 (x := x) (y := f 1 1) (by omega) h).trans ?_))
    (first | (exact rfl) | (refine (vF_g rfl rfl).trans ?_; refine (vF_g rfl rfl).trans ?_; exact rfl) | (refine (vF_g rfl rfl).trans ?_; refine (vF_g rfl rfl).trans ?_; refine (vF_g rfl rfl).trans ?_; exact rfl) | (refine (vF_g rfl rfl).trans ?_; exact rfl))
  · by_cases q : x < 2147483648
    · refine vM_go rfl rfl rfl rfl fun F hF => ?_
      (first | (refine (vge2 (x := x) (y := 0) q (Nat.zero_le _)).trans ?_) | (refine (vF_g rfl rfl).trans ?_; refine (vF_g rfl rfl).trans ?_; refine (vge2 (x := x) (y := 0) q (Nat.zero_le _)).trans ?_) | (refine (vF_g rfl rfl).trans ?_; refine (vge2 (x := x) (y := 0) q (Nat.zero_le _)).trans ?_))
      (first | (refine (vgt (x := x) (y := f 1 1) q (by omega)).trans ?_) | (refine (vF_g rfl rfl).trans ?_; refine (vF_g rfl rfl).trans ?_; refine (vgt (x := x) (y := f 1 1) q (by omega)).trans ?_) | (refine (vF_g rfl rfl).trans ?_; refine (vgt (x := x) (y := f 1 1) q (by omega)).trans ?_))
      (first | (exact rfl) | (refine (vF_g rfl rfl).trans ?_; refine (vF_g rfl rfl).trans ?_; exact rfl) | (refine (vF_g rfl rfl).trans ?_; refine (vF_g rfl rfl).trans ?_; refine (vF_g rfl rfl).trans ?_; exact rfl) | (refine (vF_g rfl rfl).trans ?_; exact rfl))
    · refine vM_go rfl rfl rfl rfl fun F hF => ?_
      (first | (refine (vmin (x := x) (y := 0) (by omega) hx (by decide)).trans ?_) | (refine (vF_g rfl rfl).trans ?_; refine (vF_g rfl rfl).trans ?_; refine (vmin (x := x) (y := 0) (by omega) hx (by decide)).trans ?_) | (refine (vF_g rfl rfl).trans ?_; refine (vmin (x := x) (y := 0) (by omega) hx (by decide)).trans ?_))
      (first | (exact rfl) | (refine (vF_g rfl rfl).trans ?_; refine (vF_g rfl rfl).trans ?_; exact rfl) | (refine (vF_g rfl rfl).trans ?_; refine (vF_g rfl rfl).trans ?_; refine (vF_g rfl rfl).trans ?_; exact rfl) | (refine (vF_g rfl rfl).trans ?_; exact rfl))
theorem in_x {x n : Nat} (hx : x < 4294967296) (hn : n ≤ 900) : (lsg 0 ≤ lsg (toNL (nI x).toInt64) ∧ lsg (toNL (nI x).toInt64) ≤ lsg (toNL (nI n).toInt64)) ↔ x ≤ n := by
  rw [lsg_i2l, lsg_i2l, lsg_s (show 0 < 9223372036854775808 by decide), sg_eq (show n ≤ 2147483647 by omega)]
  unfold sg bi
  omega
theorem v_truR {D x : Nat} {f : Vw} (h9 : f 452 16 ≤ 900) (hx : x < 4294967296) : (x ≤ f 452 16 → vM MT0 (D + 2) 227 [vR 452, vI x] f = some ((0, 0), vI x, vup (vup f 452 6 0) 452 16 x)) ∧ (¬ x ≤ f 452 16 → vM MT0 (D + 2) 227 [vR 452, vI x] f = some ((0, 0), vI 0, vup f 452 6 1)) := by
  refine ⟨fun h => ?_, fun h => ?_⟩
  · have i := v_in1 (D := D) (x := toNL (nI x).toInt64) (a := 0) (b := toNL (nI (f 452 16)).toInt64) (f := f) ((in_x hx h9).mpr h)
    have p := v_passes (D := D) (b := 1) (f := f) (Or.inr rfl)
    refine vM_go rfl rfl rfl rfl fun F hF => ?_
    (first | (refine (vbnd_0 i).trans ?_) | (refine (vF_g rfl rfl).trans ?_; refine (vF_g rfl rfl).trans ?_; refine (vbnd_0 i).trans ?_) | (refine (vF_g rfl rfl).trans ?_; refine (vbnd_0 i).trans ?_))
    (first | (refine (vbnd_0 p).trans ?_) | (refine (vF_g rfl rfl).trans ?_; refine (vF_g rfl rfl).trans ?_; refine (vbnd_0 p).trans ?_) | (refine (vF_g rfl rfl).trans ?_; refine (vbnd_0 p).trans ?_))
    (first | (refine (vgt (x := 1) (y := 0) (by decide) (by decide)).trans ?_) | (refine (vF_g rfl rfl).trans ?_; refine (vF_g rfl rfl).trans ?_; refine (vgt (x := 1) (y := 0) (by decide) (by decide)).trans ?_) | (refine (vF_g rfl rfl).trans ?_; refine (vgt (x := 1) (y := 0) (by decide) (by decide)).trans ?_))
    (first | (exact rfl) | (refine (vF_g rfl rfl).trans ?_; refine (vF_g rfl rfl).trans ?_; exact rfl) | (refine (vF_g rfl rfl).trans ?_; refine (vF_g rfl rfl).trans ?_; refine (vF_g rfl rfl).trans ?_; exact rfl) | (refine (vF_g rfl rfl).trans ?_; exact rfl))
  · have i := v_in0 (D := D) (x := toNL (nI x).toInt64) (a := 0) (b := toNL (nI (f 452 16)).toInt64) (f := f) (fun w => h ((in_x hx h9).mp w))
    have p := v_passes (D := D) (b := 0) (f := f) (Or.inl rfl)
    refine vM_go rfl rfl rfl rfl fun F hF => ?_
    (first | (refine (vbnd_0 i).trans ?_) | (refine (vF_g rfl rfl).trans ?_; refine (vF_g rfl rfl).trans ?_; refine (vbnd_0 i).trans ?_) | (refine (vF_g rfl rfl).trans ?_; refine (vbnd_0 i).trans ?_))
    (first | (refine (vbnd_0 p).trans ?_) | (refine (vF_g rfl rfl).trans ?_; refine (vF_g rfl rfl).trans ?_; refine (vbnd_0 p).trans ?_) | (refine (vF_g rfl rfl).trans ?_; refine (vbnd_0 p).trans ?_))
    (first | (refine (veq (x := 0) (y := 0) rfl).trans ?_) | (refine (vF_g rfl rfl).trans ?_; refine (vF_g rfl rfl).trans ?_; refine (veq (x := 0) (y := 0) rfl).trans ?_) | (refine (vF_g rfl rfl).trans ?_; refine (veq (x := 0) (y := 0) rfl).trans ?_))
    (first | (exact rfl) | (refine (vF_g rfl rfl).trans ?_; refine (vF_g rfl rfl).trans ?_; exact rfl) | (refine (vF_g rfl rfl).trans ?_; refine (vF_g rfl rfl).trans ?_; refine (vF_g rfl rfl).trans ?_; exact rfl) | (refine (vF_g rfl rfl).trans ?_; exact rfl))
/-- what a helper leaves where the call answered -/
noncomputable def outV (c : Nat) (g : Vw) : Vw := vup g 465 0 (toNL (nI c).toInt64)
theorem v_LtruC {D x : Nat} {f : Vw} (h9 : f 1 1 ≤ 900) (hx : x < 4294967296) : (x ≤ f 1 1 → vM MT0 (D + 2) 346 [vR 0, vI x, vR 465] f = some ((0, 0), vI 0, outV x (vup f 1 1 x))) ∧ (¬ x ≤ f 1 1 → vM MT0 (D + 2) 346 [vR 0, vI x, vR 465] f = some ((0, 0), vI 1, f)) := by
  obtain ⟨w1, w2⟩ := v_truC (D := D) h9 hx
  refine ⟨fun h => ?_, fun h => ?_⟩
  · refine vM_go rfl rfl rfl rfl fun F hF => ?_
    (first | (refine (vbnd_0 (w1 h)).trans ?_) | (refine (vF_g rfl rfl).trans ?_; refine (vF_g rfl rfl).trans ?_; refine (vbnd_0 (w1 h)).trans ?_) | (refine (vF_g rfl rfl).trans ?_; refine (vbnd_0 (w1 h)).trans ?_))
    (first | (exact rfl) | (refine (vF_g rfl rfl).trans ?_; refine (vF_g rfl rfl).trans ?_; exact rfl) | (refine (vF_g rfl rfl).trans ?_; refine (vF_g rfl rfl).trans ?_; refine (vF_g rfl rfl).trans ?_; exact rfl) | (refine (vF_g rfl rfl).trans ?_; exact rfl))
  · refine vM_go rfl rfl rfl rfl fun F hF => ?_
    (first | (refine (vbnd_2 (w2 h)).trans ?_) | (refine (vF_g rfl rfl).trans ?_; refine (vF_g rfl rfl).trans ?_; refine (vbnd_2 (w2 h)).trans ?_) | (refine (vF_g rfl rfl).trans ?_; refine (vbnd_2 (w2 h)).trans ?_))
    (first | (exact rfl) | (refine (vF_g rfl rfl).trans ?_; refine (vF_g rfl rfl).trans ?_; exact rfl) | (refine (vF_g rfl rfl).trans ?_; refine (vF_g rfl rfl).trans ?_; refine (vF_g rfl rfl).trans ?_; exact rfl) | (refine (vF_g rfl rfl).trans ?_; exact rfl))
theorem v_LappC {D a b c d e : Nat} {f : Vw} (h9 : f 1 1 ≤ 900) : (f 1 1 + 20 ≤ 900 → vM MT0 (D + 4) 345 [vR 0, vI a, vI b, vI c, vI d, vI e, vR 465] f = some ((0, 0), vI 0, outV (f 1 1 + 20) (abL f (lc20 a b c d e)))) ∧ (¬ f 1 1 + 20 ≤ 900 → vM MT0 (D + 4) 345 [vR 0, vI a, vI b, vI c, vI d, vI e, vR 465] f = some ((0, 0), vI 1, f)) := by
  obtain ⟨w1, w2⟩ := v_appC (D := D) (a := a) (b := b) (c := c) (d := d) (e := e) h9
  refine ⟨fun h => ?_, fun h => ?_⟩
  · refine vM_go rfl rfl rfl rfl fun F hF => ?_
    (first | (refine (vbnd_0 (w1 h)).trans ?_) | (refine (vF_g rfl rfl).trans ?_; refine (vF_g rfl rfl).trans ?_; refine (vbnd_0 (w1 h)).trans ?_) | (refine (vF_g rfl rfl).trans ?_; refine (vbnd_0 (w1 h)).trans ?_))
    (first | (exact rfl) | (refine (vF_g rfl rfl).trans ?_; refine (vF_g rfl rfl).trans ?_; exact rfl) | (refine (vF_g rfl rfl).trans ?_; refine (vF_g rfl rfl).trans ?_; refine (vF_g rfl rfl).trans ?_; exact rfl) | (refine (vF_g rfl rfl).trans ?_; exact rfl))
  · refine vM_go rfl rfl rfl rfl fun F hF => ?_
    (first | (refine (vbnd_2 (w2 h)).trans ?_) | (refine (vF_g rfl rfl).trans ?_; refine (vF_g rfl rfl).trans ?_; refine (vbnd_2 (w2 h)).trans ?_) | (refine (vF_g rfl rfl).trans ?_; refine (vbnd_2 (w2 h)).trans ?_))
    (first | (exact rfl) | (refine (vF_g rfl rfl).trans ?_; refine (vF_g rfl rfl).trans ?_; exact rfl) | (refine (vF_g rfl rfl).trans ?_; refine (vF_g rfl rfl).trans ?_; refine (vF_g rfl rfl).trans ?_; exact rfl) | (refine (vF_g rfl rfl).trans ?_; exact rfl))
theorem v_LloadC {D n : Nat} {T : Nat → Nat} {f : Vw} (hx : TxC f n T) : ((oCfg T).1.1 = 0 → ∃ g, vM MT0 (D + 9) 347 [vR 0, vR 465] f = some ((0, 0), vI 0, outV (oCfg T).2.1.1 g) ∧ g 1 1 = 0 ∧ g 0 13 = 0 ∧ g 0 14 = 4294967295 ∧ g 126 2 = 0 ∧ g 7 2 = (oCfg T).2.1.1 ∧ g 7 3 = (oCfg T).2.1.2 ∧ (oCfg T).2.1.1 ≤ 12 ∧ (oCfg T).2.1.2 ≤ 8 ∧ (∀ j, j < (oCfg T).2.1.1 → ∀ i, i ≤ 4 → g (10 + j) i = (oCfg T).2.2.1 j i) ∧ (∀ j, j < (oCfg T).2.1.2 → ∀ i, i ≤ 4 → g (22 + 3 * j) i = (oCfg T).2.2.2 j i) ∧ (∀ k i, 87 ≤ k → k ≠ 126 → k ≠ 446 → g k i = f k i) ∧ g 0 7 = f 0 7) ∧ ((oCfg T).1.1 ≠ 0 → ∃ g, vM MT0 (D + 9) 347 [vR 0, vR 465] f = some ((0, 0), vI 1, g) ∧ g 1 1 = 0 ∧ g 0 13 = (oCfg T).1.1 ∧ g 0 14 = (oCfg T).1.2 ∧ (∀ k i, (k < 46 ∨ 86 < k) → k ≠ 446 → k ≠ 0 → k ≠ 1 → g k i = f k i) ∧ g 0 7 = f 0 7) := by
  obtain ⟨w1, w2⟩ := v_loadC (D := D) hx
  refine ⟨fun k => ?_, fun k => ?_⟩
  · obtain ⟨g, e, hg⟩ := w1 k
    exact ⟨g, vM_go rfl rfl rfl rfl fun F hF => (by (first | (refine (vbnd_0 e).trans ?_) | (refine (vF_g rfl rfl).trans ?_; refine (vF_g rfl rfl).trans ?_; refine (vbnd_0 e).trans ?_) | (refine (vF_g rfl rfl).trans ?_; refine (vbnd_0 e).trans ?_)); (first | (exact rfl) | (refine (vF_g rfl rfl).trans ?_; refine (vF_g rfl rfl).trans ?_; exact rfl) | (refine (vF_g rfl rfl).trans ?_; refine (vF_g rfl rfl).trans ?_; refine (vF_g rfl rfl).trans ?_; exact rfl) | (refine (vF_g rfl rfl).trans ?_; exact rfl))), hg⟩
  · obtain ⟨g, e, hg⟩ := w2 k
    exact ⟨g, vM_go rfl rfl rfl rfl fun F hF => (by (first | (refine (vbnd_2 e).trans ?_) | (refine (vF_g rfl rfl).trans ?_; refine (vF_g rfl rfl).trans ?_; refine (vbnd_2 e).trans ?_) | (refine (vF_g rfl rfl).trans ?_; refine (vbnd_2 e).trans ?_)); (first | (exact rfl) | (refine (vF_g rfl rfl).trans ?_; refine (vF_g rfl rfl).trans ?_; exact rfl) | (refine (vF_g rfl rfl).trans ?_; refine (vF_g rfl rfl).trans ?_; refine (vF_g rfl rfl).trans ?_; exact rfl) | (refine (vF_g rfl rfl).trans ?_; exact rfl))), hg⟩
