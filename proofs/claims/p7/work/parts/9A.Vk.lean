section
/-! the reference's things by name -/
theorem err_of {e q : Nat} {f g : Vw} (h : ERR e q f) (h1 : g 452 20 = f 452 20) (h2 : g 452 21 = f 452 21) : ERR e q g := ⟨h1.trans h.1, h2.trans h.2.1, h.2.2⟩
theorem v_placeE {D j : Nat} {f : Vw} (hj : j ≤ 12) : vM MT0 (D + 1) 239 [vI j, vI 0] f = some ((0, 0), vI (23 + 15 * j), f) := by
  refine vM_go rfl rfl rfl rfl fun F hF => ?_
  (first | (refine (veq (x := 0) (y := 0) rfl).trans ?_) | (refine (vF_g rfl rfl).trans ?_; refine (vF_g rfl rfl).trans ?_; refine (veq (x := 0) (y := 0) rfl).trans ?_) | (refine (vF_g rfl rfl).trans ?_; refine (veq (x := 0) (y := 0) rfl).trans ?_))
  (first | (refine Eq.trans (b := some ((0, 0), vI ((23 + g_imul 15 j) % 4294967296), f)) rfl ?_) | (refine (vF_g rfl rfl).trans ?_; refine (vF_g rfl rfl).trans ?_; refine Eq.trans (b := some ((0, 0), vI ((23 + g_imul 15 j) % 4294967296), f)) rfl ?_) | (refine (vF_g rfl rfl).trans ?_; refine Eq.trans (b := some ((0, 0), vI ((23 + g_imul 15 j) % 4294967296), f)) rfl ?_))
  rw [g_imul_s (show 15 * j < 2147483648 by omega) (by decide) (by omega), Nat.mod_eq_of_lt (show 23 + 15 * j < 4294967296 by omega)]
theorem th_loopE {D : Nat} {n c d p : Nat} {T : Nat → Nat} {E V : Nat → Nat → Nat} {f : Vw} (h : RS n T E V c d p f) {x s z : Nat} (hs : f 452 18 = s) (hz : f 452 19 = z) (hz6 : z ≤ 6) (hs9 : s ≤ 900) (hw : ∀ k, k < z → 97 ≤ T (s + k) ∧ T (s + k) ≤ 122) (hX : x = pkr (nmr T s z)) : ∀ (m j F : Nat), j + m = c → 5 * m + 5 ≤ F → vFn (vM MT0 (D + 2)) nb_X11_thingHere F 1 0 [vR 452, vI 0, vI j] [] f = some ((0, 0), vI (fidx (fun j => E j 0) x m j), f) := by
  have hc9 := h.c9
  intro m
  induction m with
  | zero =>
    intro j F hj hF
    obtain ⟨F1, rfl⟩ : ∃ F1, F = F1 + 4 := ⟨F - 4, by omega⟩
    (first | (refine (veq (x := 0) (y := 0) rfl).trans ?_) | (refine (vF_g rfl rfl).trans ?_; refine (vF_g rfl rfl).trans ?_; refine (veq (x := 0) (y := 0) rfl).trans ?_) | (refine (vF_g rfl rfl).trans ?_; refine (veq (x := 0) (y := 0) rfl).trans ?_))
    (first | (refine (vge2 (x := j) (y := f 453 0) (by omega) (by rw [h.c0]; omega)).trans ?_) | (refine (vF_g rfl rfl).trans ?_; refine (vF_g rfl rfl).trans ?_; refine (vge2 (x := j) (y := f 453 0) (by omega) (by rw [h.c0]; omega)).trans ?_) | (refine (vF_g rfl rfl).trans ?_; refine (vge2 (x := j) (y := f 453 0) (by omega) (by rw [h.c0]; omega)).trans ?_))
    (first | (exact rfl) | (refine (vF_g rfl rfl).trans ?_; refine (vF_g rfl rfl).trans ?_; exact rfl) | (refine (vF_g rfl rfl).trans ?_; refine (vF_g rfl rfl).trans ?_; refine (vF_g rfl rfl).trans ?_; exact rfl) | (refine (vF_g rfl rfl).trans ?_; exact rfl))
  | succ m ih =>
    intro j F hj hF
    obtain ⟨F1, rfl⟩ : ∃ F1, F = F1 + 5 := ⟨F - 5, by omega⟩
    have e1 := v_placeE (D := D + 1) (j := j) (f := f) (by omega)
    have e2 := v_isNamed (D := D) (a := 23 + 15 * j) h.tx hs hz hz6 hs9 (by omega) (h.nE j (by omega)).1 hw
    (first | (refine (veq (x := 0) (y := 0) rfl).trans ?_) | (refine (vF_g rfl rfl).trans ?_; refine (vF_g rfl rfl).trans ?_; refine (veq (x := 0) (y := 0) rfl).trans ?_) | (refine (vF_g rfl rfl).trans ?_; refine (veq (x := 0) (y := 0) rfl).trans ?_))
    (first | (refine (vlt (x := j) (y := f 453 0) (by rw [h.c0]; omega) (by rw [h.c0]; omega)).trans ?_) | (refine (vF_g rfl rfl).trans ?_; refine (vF_g rfl rfl).trans ?_; refine (vlt (x := j) (y := f 453 0) (by rw [h.c0]; omega) (by rw [h.c0]; omega)).trans ?_) | (refine (vF_g rfl rfl).trans ?_; refine (vlt (x := j) (y := f 453 0) (by rw [h.c0]; omega) (by rw [h.c0]; omega)).trans ?_))
    (first | (refine (vbnd_0 e1).trans ?_) | (refine (vF_g rfl rfl).trans ?_; refine (vF_g rfl rfl).trans ?_; refine (vbnd_0 e1).trans ?_) | (refine (vF_g rfl rfl).trans ?_; refine (vbnd_0 e1).trans ?_))
    (first | (refine (vbnd_0 e2).trans ?_) | (refine (vF_g rfl rfl).trans ?_; refine (vF_g rfl rfl).trans ?_; refine (vbnd_0 e2).trans ?_) | (refine (vF_g rfl rfl).trans ?_; refine (vbnd_0 e2).trans ?_))
    rw [← hX, show fidx (fun j => E j 0) x (m + 1) j = if E j 0 = x then j else fidx (fun j => E j 0) x m (j + 1) from rfl]
    by_cases q : E j 0 = x
    · rw [if_pos q, if_pos q]
      (first | (refine (vgt (x := 1) (y := 0) (by decide) (by decide)).trans ?_) | (refine (vF_g rfl rfl).trans ?_; refine (vF_g rfl rfl).trans ?_; refine (vgt (x := 1) (y := 0) (by decide) (by decide)).trans ?_) | (refine (vF_g rfl rfl).trans ?_; refine (vgt (x := 1) (y := 0) (by decide) (by decide)).trans ?_))
      (first | (exact rfl) | (refine (vF_g rfl rfl).trans ?_; refine (vF_g rfl rfl).trans ?_; exact rfl) | (refine (vF_g rfl rfl).trans ?_; refine (vF_g rfl rfl).trans ?_; refine (vF_g rfl rfl).trans ?_; exact rfl) | (refine (vF_g rfl rfl).trans ?_; exact rfl))
    · rw [if_neg q, if_neg q]
      (first | (refine (veq (x := 0) (y := 0) rfl).trans ?_) | (refine (vF_g rfl rfl).trans ?_; refine (vF_g rfl rfl).trans ?_; refine (veq (x := 0) (y := 0) rfl).trans ?_) | (refine (vF_g rfl rfl).trans ?_; refine (veq (x := 0) (y := 0) rfl).trans ?_))
      (first | (refine Eq.trans (b := vFn (vM MT0 (D + 2)) nb_X11_thingHere F1 1 0 [vR 452, vI 0, vI ((j + 1) % 4294967296)] [] f) rfl ?_) | (refine (vF_g rfl rfl).trans ?_; refine (vF_g rfl rfl).trans ?_; refine Eq.trans (b := vFn (vM MT0 (D + 2)) nb_X11_thingHere F1 1 0 [vR 452, vI 0, vI ((j + 1) % 4294967296)] [] f) rfl ?_) | (refine (vF_g rfl rfl).trans ?_; refine Eq.trans (b := vFn (vM MT0 (D + 2)) nb_X11_thingHere F1 1 0 [vR 452, vI 0, vI ((j + 1) % 4294967296)] [] f) rfl ?_))
      rw [Nat.mod_eq_of_lt (show j + 1 < 4294967296 by omega)]
      exact ih (j + 1) F1 (by omega) (by omega)
theorem v_thingE {D : Nat} {n c d p : Nat} {T : Nat → Nat} {E V : Nat → Nat → Nat} {f : Vw} (h : RS n T E V c d p f) (hk : nOK T p) : vM MT0 (D + 3) 240 [vR 452, vI 0] (rkv f T p) = some ((0, 0), vI (fidx (fun j => E j 0) (pkr (tN T p)) c 0), rkv f T p) := by
  have hz := (nOK_z.mp hk)
  have hn := h.tx.1
  have hs := tS_le h.tx.2.2.2.2 h.le
  have he := tZ_E hk.1
  have eN : pkr (tN T p) = pkr (nmr T (tS T p) (tZ T p)) := by
    unfold tN
    rw [show tE T p - tS T p = tZ T p by omega]
  exact vM_go rfl rfl rfl rfl fun F hF => (by (first | (refine Eq.trans (b := vFn (vM MT0 (D + 2)) nb_X11_thingHere (F + 59) 1 0 [vR 452, vI 0, vI 0] [] (rkv f T p)) rfl ?_) | (refine (vF_g rfl rfl).trans ?_; refine (vF_g rfl rfl).trans ?_; refine Eq.trans (b := vFn (vM MT0 (D + 2)) nb_X11_thingHere (F + 59) 1 0 [vR 452, vI 0, vI 0] [] (rkv f T p)) rfl ?_) | (refine (vF_g rfl rfl).trans ?_; refine Eq.trans (b := vFn (vM MT0 (D + 2)) nb_X11_thingHere (F + 59) 1 0 [vR 452, vI 0, vI 0] [] (rkv f T p)) rfl ?_)); (first | (exact (th_loopE (D := D) (rs_rkv h) rkv_18 rkv_19 hz.2 (by omega) (fun j hj => word_l hk.1 j (by omega)) eN c 0 (F + 59) (by omega) (by have := h.c9; omega))) | (refine (vF_g rfl rfl).trans ?_; refine (vF_g rfl rfl).trans ?_; exact (th_loopE (D := D) (rs_rkv h) rkv_18 rkv_19 hz.2 (by omega) (fun j hj => word_l hk.1 j (by omega)) eN c 0 (F + 59) (by omega) (by have := h.c9; omega))) | (refine (vF_g rfl rfl).trans ?_; exact (th_loopE (D := D) (rs_rkv h) rkv_18 rkv_19 hz.2 (by omega) (fun j hj => word_l hk.1 j (by omega)) eN c 0 (F + 59) (by omega) (by have := h.c9; omega)))))
theorem v_mustE {D : Nat} {n c d p : Nat} {T : Nat → Nat} {E V : Nat → Nat → Nat} {f : Vw} (h : RS n T E V c d p f) : (¬ nOK T p → ∃ g, vM MT0 (D + 4) 241 [vR 452, vI 0] f = some ((0, 0), vI 0, g) ∧ ERR 1 (tS T p) g) ∧ (nOK T p → fidx (fun j => E j 0) (pkr (tN T p)) c 0 = 4294967295 → ∃ g, vM MT0 (D + 4) 241 [vR 452, vI 0] f = some ((0, 0), vI 0, g) ∧ ERR 3 (tS T p) g) ∧ (nOK T p → fidx (fun j => E j 0) (pkr (tN T p)) c 0 ≠ 4294967295 → ∃ g, vM MT0 (D + 4) 241 [vR 452, vI 0] f = some ((0, 0), vI (fidx (fun j => E j 0) (pkr (tN T p)) c 0), g) ∧ RS n T E V c d (tE T p) g ∧ ∀ a b, a ≠ 452 → g a b = f a b) := by
  obtain ⟨w1, w2⟩ := v_isNameR (D := D) h
  have hr := rs_rkv h
  have e20 : rkv f T p 452 20 = 0 := hr.er.1
  have hn := h.tx.1
  have hE := tE_ge h.tx.2.2.2.2 h.le
  have hl : fidx (fun j => E j 0) (pkr (tN T p)) c 0 < 4294967296 := by
    have := h.c9
    rcases fidx_lt (g := fun j => E j 0) (x := pkr (tN T p)) c 0 with q | ⟨_, q, _⟩ <;> omega
  refine ⟨fun k => ?_, fun k k2 => ?_, fun k k2 => ?_⟩
  · obtain ⟨g, e, hg⟩ := w2 k
    exact ⟨g, vM_go rfl rfl rfl rfl fun F hF => (by (first | (refine (vbnd_0 e).trans ?_) | (refine (vF_g rfl rfl).trans ?_; refine (vF_g rfl rfl).trans ?_; refine (vbnd_0 e).trans ?_) | (refine (vF_g rfl rfl).trans ?_; refine (vbnd_0 e).trans ?_)); (first | (refine (veq (x := 0) (y := 0) rfl).trans ?_) | (refine (vF_g rfl rfl).trans ?_; refine (vF_g rfl rfl).trans ?_; refine (veq (x := 0) (y := 0) rfl).trans ?_) | (refine (vF_g rfl rfl).trans ?_; refine (veq (x := 0) (y := 0) rfl).trans ?_)); (first | (exact rfl) | (refine (vF_g rfl rfl).trans ?_; refine (vF_g rfl rfl).trans ?_; exact rfl) | (refine (vF_g rfl rfl).trans ?_; refine (vF_g rfl rfl).trans ?_; refine (vF_g rfl rfl).trans ?_; exact rfl) | (refine (vF_g rfl rfl).trans ?_; exact rfl))), hg⟩
  · have e := v_thingE (D := D) h k
    have m : vM MT0 (D + 3) 230 [vR 452, vI 0, vI 3] (rkv f T p) = some ((1, 0), vW 3, flR 3 (rkv f T p)) := by
      rw [v_must (Or.inl rfl) (by rw [e20]; decide), if_pos ⟨rfl, e20⟩]
    refine ⟨vup (flR 3 (rkv f T p)) 452 17 ((flR 3 (rkv f T p) 452 18 + flR 3 (rkv f T p) 452 19) % 4294967296), vM_go rfl rfl rfl rfl fun F hF => (by (first | (refine (vbnd_0 (w1 k)).trans ?_) | (refine (vF_g rfl rfl).trans ?_; refine (vF_g rfl rfl).trans ?_; refine (vbnd_0 (w1 k)).trans ?_) | (refine (vF_g rfl rfl).trans ?_; refine (vbnd_0 (w1 k)).trans ?_)); (first | (refine (vgt (x := 1) (y := 0) (by decide) (by decide)).trans ?_) | (refine (vF_g rfl rfl).trans ?_; refine (vF_g rfl rfl).trans ?_; refine (vgt (x := 1) (y := 0) (by decide) (by decide)).trans ?_) | (refine (vF_g rfl rfl).trans ?_; refine (vgt (x := 1) (y := 0) (by decide) (by decide)).trans ?_)); (first | (refine (vbnd_0 e).trans ?_) | (refine (vF_g rfl rfl).trans ?_; refine (vF_g rfl rfl).trans ?_; refine (vbnd_0 e).trans ?_) | (refine (vF_g rfl rfl).trans ?_; refine (vbnd_0 e).trans ?_)); (first | (refine (veq k2).trans ?_) | (refine (vF_g rfl rfl).trans ?_; refine (vF_g rfl rfl).trans ?_; refine (veq k2).trans ?_) | (refine (vF_g rfl rfl).trans ?_; refine (veq k2).trans ?_)); (first | (refine (vbnd_1 m).trans ?_) | (refine (vF_g rfl rfl).trans ?_; refine (vF_g rfl rfl).trans ?_; refine (vbnd_1 m).trans ?_) | (refine (vF_g rfl rfl).trans ?_; refine (vbnd_1 m).trans ?_)); (first | (refine (vbnd_1 v_goesPast).trans ?_) | (refine (vF_g rfl rfl).trans ?_; refine (vF_g rfl rfl).trans ?_; refine (vbnd_1 v_goesPast).trans ?_) | (refine (vF_g rfl rfl).trans ?_; refine (vbnd_1 v_goesPast).trans ?_)); (first | (refine (vne (x := vup (flR 3 (rkv f T p)) 452 17 ((flR 3 (rkv f T p) 452 18 + flR 3 (rkv f T p) 452 19) % 4294967296) 452 20) (y := 0) (by rw [vup_ne (Or.inr (by decide)), flR_20]; decide) (by decide) (by rw [vup_ne (Or.inr (by decide)), flR_20]; decide)).trans ?_) | (refine (vF_g rfl rfl).trans ?_; refine (vF_g rfl rfl).trans ?_; refine (vne (x := vup (flR 3 (rkv f T p)) 452 17 ((flR 3 (rkv f T p) 452 18 + flR 3 (rkv f T p) 452 19) % 4294967296) 452 20) (y := 0) (by rw [vup_ne (Or.inr (by decide)), flR_20]; decide) (by decide) (by rw [vup_ne (Or.inr (by decide)), flR_20]; decide)).trans ?_) | (refine (vF_g rfl rfl).trans ?_; refine (vne (x := vup (flR 3 (rkv f T p)) 452 17 ((flR 3 (rkv f T p) 452 18 + flR 3 (rkv f T p) 452 19) % 4294967296) 452 20) (y := 0) (by rw [vup_ne (Or.inr (by decide)), flR_20]; decide) (by decide) (by rw [vup_ne (Or.inr (by decide)), flR_20]; decide)).trans ?_)); (first | (exact rfl) | (refine (vF_g rfl rfl).trans ?_; refine (vF_g rfl rfl).trans ?_; exact rfl) | (refine (vF_g rfl rfl).trans ?_; refine (vF_g rfl rfl).trans ?_; refine (vF_g rfl rfl).trans ?_; exact rfl) | (refine (vF_g rfl rfl).trans ?_; exact rfl))), err_up (err_fl rkv_18 (by decide) (by decide)) (Or.inr (by decide))⟩
  · have e := v_thingE (D := D) h k
    have m : vM MT0 (D + 3) 230 [vR 452, vI 1, vI 3] (rkv f T p) = some ((1, 0), vW 3, rkv f T p) := by
      rw [v_must (Or.inr rfl) (by rw [e20]; decide), if_neg (fun w => by cases w.1)]
    have hz := tZ_E k.1
    have z : vM MT0 (D + 3) 232 [vR 452] (rkv f T p) = some ((1, 0), vW 3, vup (rkv f T p) 452 17 (tE T p)) := by
      rw [v_goesPast, rkv_18, rkv_19, hz, Nat.mod_eq_of_lt (by omega)]
    exact ⟨_, vM_go rfl rfl rfl rfl fun F hF => (by (first | (refine (vbnd_0 (w1 k)).trans ?_) | (refine (vF_g rfl rfl).trans ?_; refine (vF_g rfl rfl).trans ?_; refine (vbnd_0 (w1 k)).trans ?_) | (refine (vF_g rfl rfl).trans ?_; refine (vbnd_0 (w1 k)).trans ?_)); (first | (refine (vgt (x := 1) (y := 0) (by decide) (by decide)).trans ?_) | (refine (vF_g rfl rfl).trans ?_; refine (vF_g rfl rfl).trans ?_; refine (vgt (x := 1) (y := 0) (by decide) (by decide)).trans ?_) | (refine (vF_g rfl rfl).trans ?_; refine (vgt (x := 1) (y := 0) (by decide) (by decide)).trans ?_)); (first | (refine (vbnd_0 e).trans ?_) | (refine (vF_g rfl rfl).trans ?_; refine (vF_g rfl rfl).trans ?_; refine (vbnd_0 e).trans ?_) | (refine (vF_g rfl rfl).trans ?_; refine (vbnd_0 e).trans ?_)); (first | (refine (vne hl (by decide) k2).trans ?_) | (refine (vF_g rfl rfl).trans ?_; refine (vF_g rfl rfl).trans ?_; refine (vne hl (by decide) k2).trans ?_) | (refine (vF_g rfl rfl).trans ?_; refine (vne hl (by decide) k2).trans ?_)); (first | (refine (vbnd_1 m).trans ?_) | (refine (vF_g rfl rfl).trans ?_; refine (vF_g rfl rfl).trans ?_; refine (vbnd_1 m).trans ?_) | (refine (vF_g rfl rfl).trans ?_; refine (vbnd_1 m).trans ?_)); (first | (refine (vbnd_1 z).trans ?_) | (refine (vF_g rfl rfl).trans ?_; refine (vF_g rfl rfl).trans ?_; refine (vbnd_1 z).trans ?_) | (refine (vF_g rfl rfl).trans ?_; refine (vbnd_1 z).trans ?_)); (first | (refine (veq ((vup_ne (Or.inr (by decide))).trans e20)).trans ?_) | (refine (vF_g rfl rfl).trans ?_; refine (vF_g rfl rfl).trans ?_; refine (veq ((vup_ne (Or.inr (by decide))).trans e20)).trans ?_) | (refine (vF_g rfl rfl).trans ?_; refine (veq ((vup_ne (Or.inr (by decide))).trans e20)).trans ?_)); (first | (exact rfl) | (refine (vF_g rfl rfl).trans ?_; refine (vF_g rfl rfl).trans ?_; exact rfl) | (refine (vF_g rfl rfl).trans ?_; refine (vF_g rfl rfl).trans ?_; refine (vF_g rfl rfl).trans ?_; exact rfl) | (refine (vF_g rfl rfl).trans ?_; exact rfl))), rs_past hr hE.2, fun a b w => (vup_ne (Or.inl w)).trans (rkv_o (Or.inl w))⟩
theorem v_placeV {D j : Nat} {f : Vw} (hj : j ≤ 12) : vM MT0 (D + 1) 239 [vI j, vI 1] f = some ((0, 0), vI (203 + 17 * j), f) := by
  refine vM_go rfl rfl rfl rfl fun F hF => ?_
  (first | (refine (vgt (x := 1) (y := 0) (by decide) (by decide)).trans ?_) | (refine (vF_g rfl rfl).trans ?_; refine (vF_g rfl rfl).trans ?_; refine (vgt (x := 1) (y := 0) (by decide) (by decide)).trans ?_) | (refine (vF_g rfl rfl).trans ?_; refine (vgt (x := 1) (y := 0) (by decide) (by decide)).trans ?_))
  (first | (refine Eq.trans (b := some ((0, 0), vI ((203 + g_imul 17 j) % 4294967296), f)) rfl ?_) | (refine (vF_g rfl rfl).trans ?_; refine (vF_g rfl rfl).trans ?_; refine Eq.trans (b := some ((0, 0), vI ((203 + g_imul 17 j) % 4294967296), f)) rfl ?_) | (refine (vF_g rfl rfl).trans ?_; refine Eq.trans (b := some ((0, 0), vI ((203 + g_imul 17 j) % 4294967296), f)) rfl ?_))
  rw [g_imul_s (show 17 * j < 2147483648 by omega) (by decide) (by omega), Nat.mod_eq_of_lt (show 203 + 17 * j < 4294967296 by omega)]
theorem th_loopV {D : Nat} {n c d p : Nat} {T : Nat → Nat} {E V : Nat → Nat → Nat} {f : Vw} (h : RS n T E V c d p f) {x s z : Nat} (hs : f 452 18 = s) (hz : f 452 19 = z) (hz6 : z ≤ 6) (hs9 : s ≤ 900) (hw : ∀ k, k < z → 97 ≤ T (s + k) ∧ T (s + k) ≤ 122) (hX : x = pkr (nmr T s z)) : ∀ (m j F : Nat), j + m = d → 5 * m + 5 ≤ F → vFn (vM MT0 (D + 2)) nb_X11_thingHere F 1 0 [vR 452, vI 1, vI j] [] f = some ((0, 0), vI (fidx (fun j => V j 0) x m j), f) := by
  have hc9 := h.d9
  intro m
  induction m with
  | zero =>
    intro j F hj hF
    obtain ⟨F1, rfl⟩ : ∃ F1, F = F1 + 4 := ⟨F - 4, by omega⟩
    (first | (refine (vgt (x := 1) (y := 0) (by decide) (by decide)).trans ?_) | (refine (vF_g rfl rfl).trans ?_; refine (vF_g rfl rfl).trans ?_; refine (vgt (x := 1) (y := 0) (by decide) (by decide)).trans ?_) | (refine (vF_g rfl rfl).trans ?_; refine (vgt (x := 1) (y := 0) (by decide) (by decide)).trans ?_))
    (first | (refine (vge2 (x := j) (y := f 453 1) (by omega) (by rw [h.d0]; omega)).trans ?_) | (refine (vF_g rfl rfl).trans ?_; refine (vF_g rfl rfl).trans ?_; refine (vge2 (x := j) (y := f 453 1) (by omega) (by rw [h.d0]; omega)).trans ?_) | (refine (vF_g rfl rfl).trans ?_; refine (vge2 (x := j) (y := f 453 1) (by omega) (by rw [h.d0]; omega)).trans ?_))
    (first | (exact rfl) | (refine (vF_g rfl rfl).trans ?_; refine (vF_g rfl rfl).trans ?_; exact rfl) | (refine (vF_g rfl rfl).trans ?_; refine (vF_g rfl rfl).trans ?_; refine (vF_g rfl rfl).trans ?_; exact rfl) | (refine (vF_g rfl rfl).trans ?_; exact rfl))
  | succ m ih =>
    intro j F hj hF
    obtain ⟨F1, rfl⟩ : ∃ F1, F = F1 + 5 := ⟨F - 5, by omega⟩
    have e1 := v_placeV (D := D + 1) (j := j) (f := f) (by omega)
    have e2 := v_isNamed (D := D) (a := 203 + 17 * j) h.tx hs hz hz6 hs9 (by omega) (h.nV j (by omega)).1 hw
    (first | (refine (vgt (x := 1) (y := 0) (by decide) (by decide)).trans ?_) | (refine (vF_g rfl rfl).trans ?_; refine (vF_g rfl rfl).trans ?_; refine (vgt (x := 1) (y := 0) (by decide) (by decide)).trans ?_) | (refine (vF_g rfl rfl).trans ?_; refine (vgt (x := 1) (y := 0) (by decide) (by decide)).trans ?_))
    (first | (refine (vlt (x := j) (y := f 453 1) (by rw [h.d0]; omega) (by rw [h.d0]; omega)).trans ?_) | (refine (vF_g rfl rfl).trans ?_; refine (vF_g rfl rfl).trans ?_; refine (vlt (x := j) (y := f 453 1) (by rw [h.d0]; omega) (by rw [h.d0]; omega)).trans ?_) | (refine (vF_g rfl rfl).trans ?_; refine (vlt (x := j) (y := f 453 1) (by rw [h.d0]; omega) (by rw [h.d0]; omega)).trans ?_))
    (first | (refine (vbnd_0 e1).trans ?_) | (refine (vF_g rfl rfl).trans ?_; refine (vF_g rfl rfl).trans ?_; refine (vbnd_0 e1).trans ?_) | (refine (vF_g rfl rfl).trans ?_; refine (vbnd_0 e1).trans ?_))
    (first | (refine (vbnd_0 e2).trans ?_) | (refine (vF_g rfl rfl).trans ?_; refine (vF_g rfl rfl).trans ?_; refine (vbnd_0 e2).trans ?_) | (refine (vF_g rfl rfl).trans ?_; refine (vbnd_0 e2).trans ?_))
    rw [← hX, show fidx (fun j => V j 0) x (m + 1) j = if V j 0 = x then j else fidx (fun j => V j 0) x m (j + 1) from rfl]
    by_cases q : V j 0 = x
    · rw [if_pos q, if_pos q]
      (first | (refine (vgt (x := 1) (y := 0) (by decide) (by decide)).trans ?_) | (refine (vF_g rfl rfl).trans ?_; refine (vF_g rfl rfl).trans ?_; refine (vgt (x := 1) (y := 0) (by decide) (by decide)).trans ?_) | (refine (vF_g rfl rfl).trans ?_; refine (vgt (x := 1) (y := 0) (by decide) (by decide)).trans ?_))
      (first | (exact rfl) | (refine (vF_g rfl rfl).trans ?_; refine (vF_g rfl rfl).trans ?_; exact rfl) | (refine (vF_g rfl rfl).trans ?_; refine (vF_g rfl rfl).trans ?_; refine (vF_g rfl rfl).trans ?_; exact rfl) | (refine (vF_g rfl rfl).trans ?_; exact rfl))
    · rw [if_neg q, if_neg q]
      (first | (refine (veq (x := 0) (y := 0) rfl).trans ?_) | (refine (vF_g rfl rfl).trans ?_; refine (vF_g rfl rfl).trans ?_; refine (veq (x := 0) (y := 0) rfl).trans ?_) | (refine (vF_g rfl rfl).trans ?_; refine (veq (x := 0) (y := 0) rfl).trans ?_))
      (first | (refine Eq.trans (b := vFn (vM MT0 (D + 2)) nb_X11_thingHere F1 1 0 [vR 452, vI 1, vI ((j + 1) % 4294967296)] [] f) rfl ?_) | (refine (vF_g rfl rfl).trans ?_; refine (vF_g rfl rfl).trans ?_; refine Eq.trans (b := vFn (vM MT0 (D + 2)) nb_X11_thingHere F1 1 0 [vR 452, vI 1, vI ((j + 1) % 4294967296)] [] f) rfl ?_) | (refine (vF_g rfl rfl).trans ?_; refine Eq.trans (b := vFn (vM MT0 (D + 2)) nb_X11_thingHere F1 1 0 [vR 452, vI 1, vI ((j + 1) % 4294967296)] [] f) rfl ?_))
      rw [Nat.mod_eq_of_lt (show j + 1 < 4294967296 by omega)]
      exact ih (j + 1) F1 (by omega) (by omega)
theorem v_thingV {D : Nat} {n c d p : Nat} {T : Nat → Nat} {E V : Nat → Nat → Nat} {f : Vw} (h : RS n T E V c d p f) (hk : nOK T p) : vM MT0 (D + 3) 240 [vR 452, vI 1] (rkv f T p) = some ((0, 0), vI (fidx (fun j => V j 0) (pkr (tN T p)) d 0), rkv f T p) := by
  have hz := (nOK_z.mp hk)
  have hn := h.tx.1
  have hs := tS_le h.tx.2.2.2.2 h.le
  have he := tZ_E hk.1
  have eN : pkr (tN T p) = pkr (nmr T (tS T p) (tZ T p)) := by
    unfold tN
    rw [show tE T p - tS T p = tZ T p by omega]
  exact vM_go rfl rfl rfl rfl fun F hF => (by (first | (refine Eq.trans (b := vFn (vM MT0 (D + 2)) nb_X11_thingHere (F + 59) 1 0 [vR 452, vI 1, vI 0] [] (rkv f T p)) rfl ?_) | (refine (vF_g rfl rfl).trans ?_; refine (vF_g rfl rfl).trans ?_; refine Eq.trans (b := vFn (vM MT0 (D + 2)) nb_X11_thingHere (F + 59) 1 0 [vR 452, vI 1, vI 0] [] (rkv f T p)) rfl ?_) | (refine (vF_g rfl rfl).trans ?_; refine Eq.trans (b := vFn (vM MT0 (D + 2)) nb_X11_thingHere (F + 59) 1 0 [vR 452, vI 1, vI 0] [] (rkv f T p)) rfl ?_)); (first | (exact (th_loopV (D := D) (rs_rkv h) rkv_18 rkv_19 hz.2 (by omega) (fun j hj => word_l hk.1 j (by omega)) eN d 0 (F + 59) (by omega) (by have := h.d9; omega))) | (refine (vF_g rfl rfl).trans ?_; refine (vF_g rfl rfl).trans ?_; exact (th_loopV (D := D) (rs_rkv h) rkv_18 rkv_19 hz.2 (by omega) (fun j hj => word_l hk.1 j (by omega)) eN d 0 (F + 59) (by omega) (by have := h.d9; omega))) | (refine (vF_g rfl rfl).trans ?_; exact (th_loopV (D := D) (rs_rkv h) rkv_18 rkv_19 hz.2 (by omega) (fun j hj => word_l hk.1 j (by omega)) eN d 0 (F + 59) (by omega) (by have := h.d9; omega)))))
theorem v_mustV {D : Nat} {n c d p : Nat} {T : Nat → Nat} {E V : Nat → Nat → Nat} {f : Vw} (h : RS n T E V c d p f) : (¬ nOK T p → ∃ g, vM MT0 (D + 4) 241 [vR 452, vI 1] f = some ((0, 0), vI 0, g) ∧ ERR 1 (tS T p) g) ∧ (nOK T p → fidx (fun j => V j 0) (pkr (tN T p)) d 0 = 4294967295 → ∃ g, vM MT0 (D + 4) 241 [vR 452, vI 1] f = some ((0, 0), vI 0, g) ∧ ERR 3 (tS T p) g) ∧ (nOK T p → fidx (fun j => V j 0) (pkr (tN T p)) d 0 ≠ 4294967295 → ∃ g, vM MT0 (D + 4) 241 [vR 452, vI 1] f = some ((0, 0), vI (fidx (fun j => V j 0) (pkr (tN T p)) d 0), g) ∧ RS n T E V c d (tE T p) g ∧ ∀ a b, a ≠ 452 → g a b = f a b) := by
  obtain ⟨w1, w2⟩ := v_isNameR (D := D) h
  have hr := rs_rkv h
  have e20 : rkv f T p 452 20 = 0 := hr.er.1
  have hn := h.tx.1
  have hE := tE_ge h.tx.2.2.2.2 h.le
  have hl : fidx (fun j => V j 0) (pkr (tN T p)) d 0 < 4294967296 := by
    have := h.d9
    rcases fidx_lt (g := fun j => V j 0) (x := pkr (tN T p)) d 0 with q | ⟨_, q, _⟩ <;> omega
  refine ⟨fun k => ?_, fun k k2 => ?_, fun k k2 => ?_⟩
  · obtain ⟨g, e, hg⟩ := w2 k
    exact ⟨g, vM_go rfl rfl rfl rfl fun F hF => (by (first | (refine (vbnd_0 e).trans ?_) | (refine (vF_g rfl rfl).trans ?_; refine (vF_g rfl rfl).trans ?_; refine (vbnd_0 e).trans ?_) | (refine (vF_g rfl rfl).trans ?_; refine (vbnd_0 e).trans ?_)); (first | (refine (veq (x := 0) (y := 0) rfl).trans ?_) | (refine (vF_g rfl rfl).trans ?_; refine (vF_g rfl rfl).trans ?_; refine (veq (x := 0) (y := 0) rfl).trans ?_) | (refine (vF_g rfl rfl).trans ?_; refine (veq (x := 0) (y := 0) rfl).trans ?_)); (first | (exact rfl) | (refine (vF_g rfl rfl).trans ?_; refine (vF_g rfl rfl).trans ?_; exact rfl) | (refine (vF_g rfl rfl).trans ?_; refine (vF_g rfl rfl).trans ?_; refine (vF_g rfl rfl).trans ?_; exact rfl) | (refine (vF_g rfl rfl).trans ?_; exact rfl))), hg⟩
  · have e := v_thingV (D := D) h k
    have m : vM MT0 (D + 3) 230 [vR 452, vI 0, vI 3] (rkv f T p) = some ((1, 0), vW 3, flR 3 (rkv f T p)) := by
      rw [v_must (Or.inl rfl) (by rw [e20]; decide), if_pos ⟨rfl, e20⟩]
    refine ⟨vup (flR 3 (rkv f T p)) 452 17 ((flR 3 (rkv f T p) 452 18 + flR 3 (rkv f T p) 452 19) % 4294967296), vM_go rfl rfl rfl rfl fun F hF => (by (first | (refine (vbnd_0 (w1 k)).trans ?_) | (refine (vF_g rfl rfl).trans ?_; refine (vF_g rfl rfl).trans ?_; refine (vbnd_0 (w1 k)).trans ?_) | (refine (vF_g rfl rfl).trans ?_; refine (vbnd_0 (w1 k)).trans ?_)); (first | (refine (vgt (x := 1) (y := 0) (by decide) (by decide)).trans ?_) | (refine (vF_g rfl rfl).trans ?_; refine (vF_g rfl rfl).trans ?_; refine (vgt (x := 1) (y := 0) (by decide) (by decide)).trans ?_) | (refine (vF_g rfl rfl).trans ?_; refine (vgt (x := 1) (y := 0) (by decide) (by decide)).trans ?_)); (first | (refine (vbnd_0 e).trans ?_) | (refine (vF_g rfl rfl).trans ?_; refine (vF_g rfl rfl).trans ?_; refine (vbnd_0 e).trans ?_) | (refine (vF_g rfl rfl).trans ?_; refine (vbnd_0 e).trans ?_)); (first | (refine (veq k2).trans ?_) | (refine (vF_g rfl rfl).trans ?_; refine (vF_g rfl rfl).trans ?_; refine (veq k2).trans ?_) | (refine (vF_g rfl rfl).trans ?_; refine (veq k2).trans ?_)); (first | (refine (vbnd_1 m).trans ?_) | (refine (vF_g rfl rfl).trans ?_; refine (vF_g rfl rfl).trans ?_; refine (vbnd_1 m).trans ?_) | (refine (vF_g rfl rfl).trans ?_; refine (vbnd_1 m).trans ?_)); (first | (refine (vbnd_1 v_goesPast).trans ?_) | (refine (vF_g rfl rfl).trans ?_; refine (vF_g rfl rfl).trans ?_; refine (vbnd_1 v_goesPast).trans ?_) | (refine (vF_g rfl rfl).trans ?_; refine (vbnd_1 v_goesPast).trans ?_)); (first | (refine (vne (x := vup (flR 3 (rkv f T p)) 452 17 ((flR 3 (rkv f T p) 452 18 + flR 3 (rkv f T p) 452 19) % 4294967296) 452 20) (y := 0) (by rw [vup_ne (Or.inr (by decide)), flR_20]; decide) (by decide) (by rw [vup_ne (Or.inr (by decide)), flR_20]; decide)).trans ?_) | (refine (vF_g rfl rfl).trans ?_; refine (vF_g rfl rfl).trans ?_; refine (vne (x := vup (flR 3 (rkv f T p)) 452 17 ((flR 3 (rkv f T p) 452 18 + flR 3 (rkv f T p) 452 19) % 4294967296) 452 20) (y := 0) (by rw [vup_ne (Or.inr (by decide)), flR_20]; decide) (by decide) (by rw [vup_ne (Or.inr (by decide)), flR_20]; decide)).trans ?_) | (refine (vF_g rfl rfl).trans ?_; refine (vne (x := vup (flR 3 (rkv f T p)) 452 17 ((flR 3 (rkv f T p) 452 18 + flR 3 (rkv f T p) 452 19) % 4294967296) 452 20) (y := 0) (by rw [vup_ne (Or.inr (by decide)), flR_20]; decide) (by decide) (by rw [vup_ne (Or.inr (by decide)), flR_20]; decide)).trans ?_)); (first | (exact rfl) | (refine (vF_g rfl rfl).trans ?_; refine (vF_g rfl rfl).trans ?_; exact rfl) | (refine (vF_g rfl rfl).trans ?_; refine (vF_g rfl rfl).trans ?_; refine (vF_g rfl rfl).trans ?_; exact rfl) | (refine (vF_g rfl rfl).trans ?_; exact rfl))), err_up (err_fl rkv_18 (by decide) (by decide)) (Or.inr (by decide))⟩
  · have e := v_thingV (D := D) h k
    have m : vM MT0 (D + 3) 230 [vR 452, vI 1, vI 3] (rkv f T p) = some ((1, 0), vW 3, rkv f T p) := by
      rw [v_must (Or.inr rfl) (by rw [e20]; decide), if_neg (fun w => by cases w.1)]
    have hz := tZ_E k.1
    have z : vM MT0 (D + 3) 232 [vR 452] (rkv f T p) = some ((1, 0), vW 3, vup (rkv f T p) 452 17 (tE T p)) := by
      rw [v_goesPast, rkv_18, rkv_19, hz, Nat.mod_eq_of_lt (by omega)]
    exact ⟨_, vM_go rfl rfl rfl rfl fun F hF => (by (first | (refine (vbnd_0 (w1 k)).trans ?_) | (refine (vF_g rfl rfl).trans ?_; refine (vF_g rfl rfl).trans ?_; refine (vbnd_0 (w1 k)).trans ?_) | (refine (vF_g rfl rfl).trans ?_; refine (vbnd_0 (w1 k)).trans ?_)); (first | (refine (vgt (x := 1) (y := 0) (by decide) (by decide)).trans ?_) | (refine (vF_g rfl rfl).trans ?_; refine (vF_g rfl rfl).trans ?_; refine (vgt (x := 1) (y := 0) (by decide) (by decide)).trans ?_) | (refine (vF_g rfl rfl).trans ?_; refine (vgt (x := 1) (y := 0) (by decide) (by decide)).trans ?_)); (first | (refine (vbnd_0 e).trans ?_) | (refine (vF_g rfl rfl).trans ?_; refine (vF_g rfl rfl).trans ?_; refine (vbnd_0 e).trans ?_) | (refine (vF_g rfl rfl).trans ?_; refine (vbnd_0 e).trans ?_)); (first | (refine (vne hl (by decide) k2).trans ?_) | (refine (vF_g rfl rfl).trans ?_; refine (vF_g rfl rfl).trans ?_; refine (vne hl (by decide) k2).trans ?_) | (refine (vF_g rfl rfl).trans ?_; refine (vne hl (by decide) k2).trans ?_)); (first | (refine (vbnd_1 m).trans ?_) | (refine (vF_g rfl rfl).trans ?_; refine (vF_g rfl rfl).trans ?_; refine (vbnd_1 m).trans ?_) | (refine (vF_g rfl rfl).trans ?_; refine (vbnd_1 m).trans ?_)); (first | (refine (vbnd_1 z).trans ?_) | (refine (vF_g rfl rfl).trans ?_; refine (vF_g rfl rfl).trans ?_; refine (vbnd_1 z).trans ?_) | (refine (vF_g rfl rfl).trans ?_; refine (vbnd_1 z).trans ?_)); (first | (refine (veq ((vup_ne (Or.inr (by decide))).trans e20)).trans ?_) | (refine (vF_g rfl rfl).trans ?_; refine (vF_g rfl rfl).trans ?_; refine (veq ((vup_ne (Or.inr (by decide))).trans e20)).trans ?_) | (refine (vF_g rfl rfl).trans ?_; refine (veq ((vup_ne (Or.inr (by decide))).trans e20)).trans ?_)); (first | (exact rfl) | (refine (vF_g rfl rfl).trans ?_; refine (vF_g rfl rfl).trans ?_; exact rfl) | (refine (vF_g rfl rfl).trans ?_; refine (vF_g rfl rfl).trans ?_; refine (vF_g rfl rfl).trans ?_; exact rfl) | (refine (vF_g rfl rfl).trans ?_; exact rfl))), rs_past hr hE.2, fun a b w => (vup_ne (Or.inl w)).trans (rkv_o (Or.inl w))⟩
/-! a new name written -/
theorem nn_loop {D n a b s z : Nat} {T : Nat → Nat} (hz6 : z ≤ 6) (hs9 : s ≤ 900) (ha : a ≤ 400) : ∀ (m k F : Nat) (f : Vw), k + m = z → 2 * m + 3 ≤ F → TxR f n T → f 452 18 = s → f 452 19 = z → ∃ g, vFn (vM MT0 (D + 1)) nb_X11_newName F 8 0 [vR 452, vI a, vI b, vI k] [] f = some ((1, 0), vW 3, vup g 452 17 ((s + z) % 4294967296)) ∧ (∀ i, k ≤ i → i < z → g 453 (a + 1 + i) = T (s + i)) ∧ ∀ x y, ¬ (x = 453 ∧ a + 1 + k ≤ y ∧ y < a + 1 + z) → g x y = f x y := by
  intro m
  induction m with
  | zero =>
    intro k F f hk hF hx hs hz
    obtain ⟨F1, rfl⟩ : ∃ F1, F = F1 + 2 := ⟨F - 2, by omega⟩
    refine ⟨f, ?_, fun i _ _ => by omega, fun _ _ _ => rfl⟩
    (first | (refine (vge2 (x := k) (y := f 452 19) (by omega) (by rw [hz]; omega)).trans ?_) | (refine (vF_g rfl rfl).trans ?_; refine (vF_g rfl rfl).trans ?_; refine (vge2 (x := k) (y := f 452 19) (by omega) (by rw [hz]; omega)).trans ?_) | (refine (vF_g rfl rfl).trans ?_; refine (vge2 (x := k) (y := f 452 19) (by omega) (by rw [hz]; omega)).trans ?_))
    (first | (refine (vbnd_1 v_goesPast).trans ?_) | (refine (vF_g rfl rfl).trans ?_; refine (vF_g rfl rfl).trans ?_; refine (vbnd_1 v_goesPast).trans ?_) | (refine (vF_g rfl rfl).trans ?_; refine (vbnd_1 v_goesPast).trans ?_))
    rw [hs, hz]
    (first | (exact rfl) | (refine (vF_g rfl rfl).trans ?_; refine (vF_g rfl rfl).trans ?_; exact rfl) | (refine (vF_g rfl rfl).trans ?_; refine (vF_g rfl rfl).trans ?_; refine (vF_g rfl rfl).trans ?_; exact rfl) | (refine (vF_g rfl rfl).trans ?_; exact rfl))
  | succ m ih =>
    intro k F f hk hF hx hs hz
    obtain ⟨F1, rfl⟩ : ∃ F1, F = F1 + 2 := ⟨F - 2, by omega⟩
    have hq : (f 452 18 + k) % 4294967296 = s + k := by rw [hs, Nat.mod_eq_of_lt (by omega)]
    have ha1 : ((a + 1) % 4294967296 + k) % 4294967296 = a + 1 + k := by omega
    have b1 : vM MT0 (D + 1) 228 [vR 452, vI (s + k)] f = some ((0, 0), vI (T (s + k)), f) := by
      rw [v_byteR (by omega) (by rw [hx.2.1]; exact hx.1), hx.2.2.1]
    have hx2 : TxR (vup f 453 (a + 1 + k) (T (s + k))) n T := txR_of hx (vup_ne (Or.inl (by decide))) (fun _ => vup_ne (Or.inl (by decide)))
    obtain ⟨g, e, h1, h2⟩ := ih (k + 1) F1 (vup f 453 (a + 1 + k) (T (s + k))) (by omega) (by omega) hx2 ((vup_ne (Or.inl (by decide))).trans hs) ((vup_ne (Or.inl (by decide))).trans hz)
    refine ⟨g, ?_, fun i hi hi2 => ?_, fun x y w => ?_⟩
    · (first | (refine (vlt (x := k) (y := f 452 19) (by rw [hz]; omega) (by rw [hz]; omega)).trans ?_) | (refine (vF_g rfl rfl).trans ?_; refine (vF_g rfl rfl).trans ?_; refine (vlt (x := k) (y := f 452 19) (by rw [hz]; omega) (by rw [hz]; omega)).trans ?_) | (refine (vF_g rfl rfl).trans ?_; refine (vlt (x := k) (y := f 452 19) (by rw [hz]; omega) (by rw [hz]; omega)).trans ?_))
      (first | (refine Eq.trans (b := vbnd (vM MT0 (D + 1) 228 [vR 452, vI ((f 452 18 + k) % 4294967296)] f) (fun v g => vB (vM MT0 (D + 1)) (vFn (vM MT0 (D + 1)) nb_X11_newName F1) ((0, 8, 0, 0, 0, 0, 0), []) [(24, 0, 0, 0, 0, 0, 0), (8, 3, 1, 0, 0, 0, 0)] 0 [vR 452, vI a, vI b, vI k] (v :: [vI (((a + 1) % 4294967296 + k) % 4294967296), vR 453]) g) (fun g => vB (vM MT0 (D + 1)) (vFn (vM MT0 (D + 1)) nb_X11_newName F1) ((0, 8, 0, 0, 0, 0, 0), []) [(24, 0, 0, 0, 0, 0, 0), (8, 3, 1, 0, 0, 0, 0)] 0 [vR 452, vI a, vI b, vI k] [vI (((a + 1) % 4294967296 + k) % 4294967296), vR 453] g) (fun x g => gd false (some ((2, x), vW 3, g)))) rfl ?_) | (refine (vF_g rfl rfl).trans ?_; refine (vF_g rfl rfl).trans ?_; refine Eq.trans (b := vbnd (vM MT0 (D + 1) 228 [vR 452, vI ((f 452 18 + k) % 4294967296)] f) (fun v g => vB (vM MT0 (D + 1)) (vFn (vM MT0 (D + 1)) nb_X11_newName F1) ((0, 8, 0, 0, 0, 0, 0), []) [(24, 0, 0, 0, 0, 0, 0), (8, 3, 1, 0, 0, 0, 0)] 0 [vR 452, vI a, vI b, vI k] (v :: [vI (((a + 1) % 4294967296 + k) % 4294967296), vR 453]) g) (fun g => vB (vM MT0 (D + 1)) (vFn (vM MT0 (D + 1)) nb_X11_newName F1) ((0, 8, 0, 0, 0, 0, 0), []) [(24, 0, 0, 0, 0, 0, 0), (8, 3, 1, 0, 0, 0, 0)] 0 [vR 452, vI a, vI b, vI k] [vI (((a + 1) % 4294967296 + k) % 4294967296), vR 453] g) (fun x g => gd false (some ((2, x), vW 3, g)))) rfl ?_) | (refine (vF_g rfl rfl).trans ?_; refine Eq.trans (b := vbnd (vM MT0 (D + 1) 228 [vR 452, vI ((f 452 18 + k) % 4294967296)] f) (fun v g => vB (vM MT0 (D + 1)) (vFn (vM MT0 (D + 1)) nb_X11_newName F1) ((0, 8, 0, 0, 0, 0, 0), []) [(24, 0, 0, 0, 0, 0, 0), (8, 3, 1, 0, 0, 0, 0)] 0 [vR 452, vI a, vI b, vI k] (v :: [vI (((a + 1) % 4294967296 + k) % 4294967296), vR 453]) g) (fun g => vB (vM MT0 (D + 1)) (vFn (vM MT0 (D + 1)) nb_X11_newName F1) ((0, 8, 0, 0, 0, 0, 0), []) [(24, 0, 0, 0, 0, 0, 0), (8, 3, 1, 0, 0, 0, 0)] 0 [vR 452, vI a, vI b, vI k] [vI (((a + 1) % 4294967296 + k) % 4294967296), vR 453] g) (fun x g => gd false (some ((2, x), vW 3, g)))) rfl ?_))
      rw [hq, ha1]
      (first | (refine (vbnd_0 b1).trans ?_) | (refine (vF_g rfl rfl).trans ?_; refine (vF_g rfl rfl).trans ?_; refine (vbnd_0 b1).trans ?_) | (refine (vF_g rfl rfl).trans ?_; refine (vbnd_0 b1).trans ?_))
      (first | (refine Eq.trans (b := gd (Nat.ble (a + 1 + k + 1) 627) (vFn (vM MT0 (D + 1)) nb_X11_newName F1 8 0 [vR 452, vI a, vI b, vI ((k + 1) % 4294967296)] [] (vup f 453 (a + 1 + k) (T (s + k))))) rfl ?_) | (refine (vF_g rfl rfl).trans ?_; refine (vF_g rfl rfl).trans ?_; refine Eq.trans (b := gd (Nat.ble (a + 1 + k + 1) 627) (vFn (vM MT0 (D + 1)) nb_X11_newName F1 8 0 [vR 452, vI a, vI b, vI ((k + 1) % 4294967296)] [] (vup f 453 (a + 1 + k) (T (s + k))))) rfl ?_) | (refine (vF_g rfl rfl).trans ?_; refine Eq.trans (b := gd (Nat.ble (a + 1 + k + 1) 627) (vFn (vM MT0 (D + 1)) nb_X11_newName F1 8 0 [vR 452, vI a, vI b, vI ((k + 1) % 4294967296)] [] (vup f 453 (a + 1 + k) (T (s + k))))) rfl ?_))
      rw [Nat.ble_eq_true_of_le (show a + 1 + k + 1 ≤ 627 by omega), Nat.mod_eq_of_lt (show k + 1 < 4294967296 by omega)]
      exact e
    · by_cases r : i = k
      · subst r
        exact (h2 _ _ (by omega)).trans vup_eq
      · exact h1 i (by omega) hi2
    · exact (h2 x y (by omega)).trans (vup_ne (by omega))
theorem rs_puE {i x : Nat} {n c d p : Nat} {T : Nat → Nat} {E V : Nat → Nat → Nat} {f : Vw} (h : RS n T E V c d p f) (hi : 23 + 15 * c ≤ i) (hi2 : i < 23 + 15 * c + 15) (hj : c < 12) : RS n T E V c d p (vup f 453 i x) := by
  have h1 := h.c9
  have h2 := h.d9
  exact rs_of h (vup_ne (Or.inl (by decide))) (fun _ => vup_ne (Or.inl (by decide))) ((vup_ne (Or.inl (by decide))).trans h.at_) h.le (vup_ne (Or.inl (by decide))) (vup_ne (Or.inl (by decide))) (vup_ne (Or.inr (by omega))) (vup_ne (Or.inr (by omega))) (fun y hy hy2 => vup_ne (Or.inr (by omega))) (fun y hy hy2 => vup_ne (Or.inr (by omega)))
theorem v_newNameE {D : Nat} {n c d p : Nat} {T : Nat → Nat} {E V : Nat → Nat → Nat} {f : Vw} (h : RS n T E V c d p f) (hj : c < 12) : (¬ nOK T p → ∃ g, vM MT0 (D + 4) 242 [vR 452, vI (23 + 15 * c), vI 0] f = some ((1, 0), vW 3, g) ∧ ERR 1 (tS T p) g) ∧ (nOK T p → fidx (fun j => E j 0) (pkr (tN T p)) c 0 ≠ 4294967295 → ∃ g, vM MT0 (D + 4) 242 [vR 452, vI (23 + 15 * c), vI 0] f = some ((1, 0), vW 3, g) ∧ ERR 3 (tS T p) g) ∧ (nOK T p → fidx (fun j => E j 0) (pkr (tN T p)) c 0 = 4294967295 → ∃ g, vM MT0 (D + 4) 242 [vR 452, vI (23 + 15 * c), vI 0] f = some ((1, 0), vW 3, g) ∧ RS n T E V c d (tE T p) g ∧ nmRow g (23 + 15 * c) (pkr (tN T p))) := by
  obtain ⟨w1, w2⟩ := v_isNameR (D := D) h
  have hr := rs_rkv h
  have e20 : rkv f T p 452 20 = 0 := hr.er.1
  have hn := h.tx.1
  have hE := tE_ge h.tx.2.2.2.2 h.le
  have hS := tS_le h.tx.2.2.2.2 h.le
  have hl : fidx (fun j => E j 0) (pkr (tN T p)) c 0 < 4294967296 := by
    have := h.c9
    rcases fidx_lt (g := fun j => E j 0) (x := pkr (tN T p)) c 0 with q | ⟨_, q, _⟩ <;> omega
  refine ⟨fun k => ?_, fun k k2 => ?_, fun k k2 => ?_⟩
  · obtain ⟨g, e, hg⟩ := w2 k
    exact ⟨g, vM_go rfl rfl rfl rfl fun F hF => (by (first | (refine (vbnd_0 e).trans ?_) | (refine (vF_g rfl rfl).trans ?_; refine (vF_g rfl rfl).trans ?_; refine (vbnd_0 e).trans ?_) | (refine (vF_g rfl rfl).trans ?_; refine (vbnd_0 e).trans ?_)); (first | (refine (veq (x := 0) (y := 0) rfl).trans ?_) | (refine (vF_g rfl rfl).trans ?_; refine (vF_g rfl rfl).trans ?_; refine (veq (x := 0) (y := 0) rfl).trans ?_) | (refine (vF_g rfl rfl).trans ?_; refine (veq (x := 0) (y := 0) rfl).trans ?_)); (first | (exact rfl) | (refine (vF_g rfl rfl).trans ?_; refine (vF_g rfl rfl).trans ?_; exact rfl) | (refine (vF_g rfl rfl).trans ?_; refine (vF_g rfl rfl).trans ?_; refine (vF_g rfl rfl).trans ?_; exact rfl) | (refine (vF_g rfl rfl).trans ?_; exact rfl))), hg⟩
  · have e := v_thingE (D := D) h k
    have m : vM MT0 (D + 3) 230 [vR 452, vI 0, vI 3] (rkv f T p) = some ((1, 0), vW 3, flR 3 (rkv f T p)) := by
      rw [v_must (Or.inl rfl) (by rw [e20]; decide), if_pos ⟨rfl, e20⟩]
    exact ⟨_, vM_go rfl rfl rfl rfl fun F hF => (by (first | (refine (vbnd_0 (w1 k)).trans ?_) | (refine (vF_g rfl rfl).trans ?_; refine (vF_g rfl rfl).trans ?_; refine (vbnd_0 (w1 k)).trans ?_) | (refine (vF_g rfl rfl).trans ?_; refine (vbnd_0 (w1 k)).trans ?_)); (first | (refine (vgt (x := 1) (y := 0) (by decide) (by decide)).trans ?_) | (refine (vF_g rfl rfl).trans ?_; refine (vF_g rfl rfl).trans ?_; refine (vgt (x := 1) (y := 0) (by decide) (by decide)).trans ?_) | (refine (vF_g rfl rfl).trans ?_; refine (vgt (x := 1) (y := 0) (by decide) (by decide)).trans ?_)); (first | (refine (vbnd_0 e).trans ?_) | (refine (vF_g rfl rfl).trans ?_; refine (vF_g rfl rfl).trans ?_; refine (vbnd_0 e).trans ?_) | (refine (vF_g rfl rfl).trans ?_; refine (vbnd_0 e).trans ?_)); (first | (refine (vne hl (by decide) k2).trans ?_) | (refine (vF_g rfl rfl).trans ?_; refine (vF_g rfl rfl).trans ?_; refine (vne hl (by decide) k2).trans ?_) | (refine (vF_g rfl rfl).trans ?_; refine (vne hl (by decide) k2).trans ?_)); (first | (refine (vbnd_1 m).trans ?_) | (refine (vF_g rfl rfl).trans ?_; refine (vF_g rfl rfl).trans ?_; refine (vbnd_1 m).trans ?_) | (refine (vF_g rfl rfl).trans ?_; refine (vbnd_1 m).trans ?_)); (first | (refine (vne (x := flR 3 (rkv f T p) 452 20) (y := 0) (by rw [flR_20]; decide) (by decide) (by rw [flR_20]; decide)).trans ?_) | (refine (vF_g rfl rfl).trans ?_; refine (vF_g rfl rfl).trans ?_; refine (vne (x := flR 3 (rkv f T p) 452 20) (y := 0) (by rw [flR_20]; decide) (by decide) (by rw [flR_20]; decide)).trans ?_) | (refine (vF_g rfl rfl).trans ?_; refine (vne (x := flR 3 (rkv f T p) 452 20) (y := 0) (by rw [flR_20]; decide) (by decide) (by rw [flR_20]; decide)).trans ?_)); (first | (exact rfl) | (refine (vF_g rfl rfl).trans ?_; refine (vF_g rfl rfl).trans ?_; exact rfl) | (refine (vF_g rfl rfl).trans ?_; refine (vF_g rfl rfl).trans ?_; refine (vF_g rfl rfl).trans ?_; exact rfl) | (refine (vF_g rfl rfl).trans ?_; exact rfl))), err_fl rkv_18 (by decide) (by decide)⟩
  · have e := v_thingE (D := D) h k
    have m : vM MT0 (D + 3) 230 [vR 452, vI 1, vI 3] (rkv f T p) = some ((1, 0), vW 3, rkv f T p) := by
      rw [v_must (Or.inr rfl) (by rw [e20]; decide), if_neg (fun w => by cases w.1)]
    have hz := tZ_E k.1
    have hz6 := nOK_z.mp k
    obtain ⟨F, hF, go⟩ := vM_at (D := D + 3) (y := 242) (as := [vR 452, vI (23 + 15 * c), vI 0]) (f := f) rfl rfl rfl rfl
    have st : ∀ r, vFn (vM MT0 (D + 3)) nb_X11_newName (F + 55) 8 0 [vR 452, vI (23 + 15 * c), vI 0, vI 0] [] (vup (rkv f T p) 453 (23 + 15 * c) (tZ T p)) = r → vM MT0 (D + 4) 242 [vR 452, vI (23 + 15 * c), vI 0] f = r := by
      intro r hr
      refine go r ?_
      (first | (refine (vbnd_0 (w1 k)).trans ?_) | (refine (vF_g rfl rfl).trans ?_; refine (vF_g rfl rfl).trans ?_; refine (vbnd_0 (w1 k)).trans ?_) | (refine (vF_g rfl rfl).trans ?_; refine (vbnd_0 (w1 k)).trans ?_))
      (first | (refine (vgt (x := 1) (y := 0) (by decide) (by decide)).trans ?_) | (refine (vF_g rfl rfl).trans ?_; refine (vF_g rfl rfl).trans ?_; refine (vgt (x := 1) (y := 0) (by decide) (by decide)).trans ?_) | (refine (vF_g rfl rfl).trans ?_; refine (vgt (x := 1) (y := 0) (by decide) (by decide)).trans ?_))
      (first | (refine (vbnd_0 e).trans ?_) | (refine (vF_g rfl rfl).trans ?_; refine (vF_g rfl rfl).trans ?_; refine (vbnd_0 e).trans ?_) | (refine (vF_g rfl rfl).trans ?_; refine (vbnd_0 e).trans ?_))
      (first | (refine (veq k2).trans ?_) | (refine (vF_g rfl rfl).trans ?_; refine (vF_g rfl rfl).trans ?_; refine (veq k2).trans ?_) | (refine (vF_g rfl rfl).trans ?_; refine (veq k2).trans ?_))
      (first | (refine (vbnd_1 m).trans ?_) | (refine (vF_g rfl rfl).trans ?_; refine (vF_g rfl rfl).trans ?_; refine (vbnd_1 m).trans ?_) | (refine (vF_g rfl rfl).trans ?_; refine (vbnd_1 m).trans ?_))
      (first | (refine (veq e20).trans ?_) | (refine (vF_g rfl rfl).trans ?_; refine (vF_g rfl rfl).trans ?_; refine (veq e20).trans ?_) | (refine (vF_g rfl rfl).trans ?_; refine (veq e20).trans ?_))
      (first | (refine Eq.trans (b := gd (Nat.ble (23 + 15 * c + 1) 627) (vFn (vM MT0 (D + 3)) nb_X11_newName (F + 55) 8 0 [vR 452, vI (23 + 15 * c), vI 0, vI 0] [] (vup (rkv f T p) 453 (23 + 15 * c) (rkv f T p 452 19)))) rfl ?_) | (refine (vF_g rfl rfl).trans ?_; refine (vF_g rfl rfl).trans ?_; refine Eq.trans (b := gd (Nat.ble (23 + 15 * c + 1) 627) (vFn (vM MT0 (D + 3)) nb_X11_newName (F + 55) 8 0 [vR 452, vI (23 + 15 * c), vI 0, vI 0] [] (vup (rkv f T p) 453 (23 + 15 * c) (rkv f T p 452 19)))) rfl ?_) | (refine (vF_g rfl rfl).trans ?_; refine Eq.trans (b := gd (Nat.ble (23 + 15 * c + 1) 627) (vFn (vM MT0 (D + 3)) nb_X11_newName (F + 55) 8 0 [vR 452, vI (23 + 15 * c), vI 0, vI 0] [] (vup (rkv f T p) 453 (23 + 15 * c) (rkv f T p 452 19)))) rfl ?_))
      rw [rkv_19, Nat.ble_eq_true_of_le (show 23 + 15 * c + 1 ≤ 627 by omega)]
      exact hr
    have hr2 : RS n T E V c d (tS T p) (vup (rkv f T p) 453 (23 + 15 * c) (tZ T p)) := rs_puE hr (by omega) (by omega) hj
    obtain ⟨g, e3, g1, g2⟩ := nn_loop (D := D + 2) (a := 23 + 15 * c) (b := 0) (s := tS T p) (z := tZ T p) (T := T) (n := n) hz6.2 (by omega) (by omega) (tZ T p) 0 (F + 55) (vup (rkv f T p) 453 (23 + 15 * c) (tZ T p)) (by omega) (by omega) hr2.tx ((vup_ne (Or.inl (by decide))).trans rkv_18) ((vup_ne (Or.inl (by decide))).trans rkv_19)
    rw [hz, Nat.mod_eq_of_lt (show tE T p < 4294967296 by omega)] at e3
    have h1 := h.c9
    have h2 := h.d9
    have hg : RS n T E V c d (tS T p) g := rs_of hr2 (g2 _ _ (by omega)) (fun _ => g2 _ _ (by omega)) ((g2 _ _ (by omega)).trans hr2.at_) hS.2 (g2 _ _ (by omega)) (g2 _ _ (by omega)) (g2 _ _ (by omega)) (g2 _ _ (by omega)) (fun y hy hy2 => g2 _ _ (by omega)) (fun y hy hy2 => g2 _ _ (by omega))
    refine ⟨_, st _ e3, rs_past hg hE.2, tZ T p, fun i => T (tS T p + i), hz6.1, hz6.2, (vup_ne (Or.inl (by decide))).trans ((g2 _ _ (by omega)).trans vup_eq), fun i hi => ⟨(vup_ne (Or.inl (by decide))).trans (g1 i (Nat.zero_le _) hi), word_l k.1 i (by omega)⟩, ?_⟩
    unfold tN
    rw [show tE T p - tS T p = tZ T p by omega, (nmr_eq (U := fun i => T (tS T p + i)) (tZ T p)).mpr (fun i _ => rfl)]
theorem v_putsE {D j i x : Nat} {f : Vw} (hj : j < 12) (hi : i ≤ 14) : vM MT0 (D + 1) 182 [vR 452, vI j, vI i, vI x] f = some ((1, 0), vW 3, vup f 453 (23 + 15 * j + i) x) := by
  refine vM_go rfl rfl rfl rfl fun F hF => ?_
  (first | (refine Eq.trans (b := gd (Nat.ble (((23 + g_imul 15 j) % 4294967296 + i) % 4294967296 + 1) 627) (some ((1, 0), vW 3, vup f 453 (((23 + g_imul 15 j) % 4294967296 + i) % 4294967296) x))) rfl ?_) | (refine (vF_g rfl rfl).trans ?_; refine (vF_g rfl rfl).trans ?_; refine Eq.trans (b := gd (Nat.ble (((23 + g_imul 15 j) % 4294967296 + i) % 4294967296 + 1) 627) (some ((1, 0), vW 3, vup f 453 (((23 + g_imul 15 j) % 4294967296 + i) % 4294967296) x))) rfl ?_) | (refine (vF_g rfl rfl).trans ?_; refine Eq.trans (b := gd (Nat.ble (((23 + g_imul 15 j) % 4294967296 + i) % 4294967296 + 1) 627) (some ((1, 0), vW 3, vup f 453 (((23 + g_imul 15 j) % 4294967296 + i) % 4294967296) x))) rfl ?_))
  have e : ((23 + g_imul 15 j) % 4294967296 + i) % 4294967296 = 23 + 15 * j + i := by
    rw [g_imul_s (show 15 * j < 2147483648 by omega) (by decide) (by omega)]
    omega
  rw [e, Nat.ble_eq_true_of_le (show 23 + 15 * j + i + 1 ≤ 627 by omega)]
  (first | (exact rfl) | (refine (vF_g rfl rfl).trans ?_; refine (vF_g rfl rfl).trans ?_; exact rfl) | (refine (vF_g rfl rfl).trans ?_; refine (vF_g rfl rfl).trans ?_; refine (vF_g rfl rfl).trans ?_; exact rfl) | (refine (vF_g rfl rfl).trans ?_; exact rfl))
theorem rs_puV {i x : Nat} {n c d p : Nat} {T : Nat → Nat} {E V : Nat → Nat → Nat} {f : Vw} (h : RS n T E V c d p f) (hi : 203 + 17 * d ≤ i) (hi2 : i < 203 + 17 * d + 17) (hj : d < 8) : RS n T E V c d p (vup f 453 i x) := by
  have h1 := h.c9
  have h2 := h.d9
  exact rs_of h (vup_ne (Or.inl (by decide))) (fun _ => vup_ne (Or.inl (by decide))) ((vup_ne (Or.inl (by decide))).trans h.at_) h.le (vup_ne (Or.inl (by decide))) (vup_ne (Or.inl (by decide))) (vup_ne (Or.inr (by omega))) (vup_ne (Or.inr (by omega))) (fun y hy hy2 => vup_ne (Or.inr (by omega))) (fun y hy hy2 => vup_ne (Or.inr (by omega)))
theorem v_newNameV {D : Nat} {n c d p : Nat} {T : Nat → Nat} {E V : Nat → Nat → Nat} {f : Vw} (h : RS n T E V c d p f) (hj : d < 8) : (¬ nOK T p → ∃ g, vM MT0 (D + 4) 242 [vR 452, vI (203 + 17 * d), vI 1] f = some ((1, 0), vW 3, g) ∧ ERR 1 (tS T p) g) ∧ (nOK T p → fidx (fun j => V j 0) (pkr (tN T p)) d 0 ≠ 4294967295 → ∃ g, vM MT0 (D + 4) 242 [vR 452, vI (203 + 17 * d), vI 1] f = some ((1, 0), vW 3, g) ∧ ERR 3 (tS T p) g) ∧ (nOK T p → fidx (fun j => V j 0) (pkr (tN T p)) d 0 = 4294967295 → ∃ g, vM MT0 (D + 4) 242 [vR 452, vI (203 + 17 * d), vI 1] f = some ((1, 0), vW 3, g) ∧ RS n T E V c d (tE T p) g ∧ nmRow g (203 + 17 * d) (pkr (tN T p))) := by
  obtain ⟨w1, w2⟩ := v_isNameR (D := D) h
  have hr := rs_rkv h
  have e20 : rkv f T p 452 20 = 0 := hr.er.1
  have hn := h.tx.1
  have hE := tE_ge h.tx.2.2.2.2 h.le
  have hS := tS_le h.tx.2.2.2.2 h.le
  have hl : fidx (fun j => V j 0) (pkr (tN T p)) d 0 < 4294967296 := by
    have := h.d9
    rcases fidx_lt (g := fun j => V j 0) (x := pkr (tN T p)) d 0 with q | ⟨_, q, _⟩ <;> omega
  refine ⟨fun k => ?_, fun k k2 => ?_, fun k k2 => ?_⟩
  · obtain ⟨g, e, hg⟩ := w2 k
    exact ⟨g, vM_go rfl rfl rfl rfl fun F hF => (by (first | (refine (vbnd_0 e).trans ?_) | (refine (vF_g rfl rfl).trans ?_; refine (vF_g rfl rfl).trans ?_; refine (vbnd_0 e).trans ?_) | (refine (vF_g rfl rfl).trans ?_; refine (vbnd_0 e).trans ?_)); (first | (refine (veq (x := 0) (y := 0) rfl).trans ?_) | (refine (vF_g rfl rfl).trans ?_; refine (vF_g rfl rfl).trans ?_; refine (veq (x := 0) (y := 0) rfl).trans ?_) | (refine (vF_g rfl rfl).trans ?_; refine (veq (x := 0) (y := 0) rfl).trans ?_)); (first | (exact rfl) | (refine (vF_g rfl rfl).trans ?_; refine (vF_g rfl rfl).trans ?_; exact rfl) | (refine (vF_g rfl rfl).trans ?_; refine (vF_g rfl rfl).trans ?_; refine (vF_g rfl rfl).trans ?_; exact rfl) | (refine (vF_g rfl rfl).trans ?_; exact rfl))), hg⟩
  · have e := v_thingV (D := D) h k
    have m : vM MT0 (D + 3) 230 [vR 452, vI 0, vI 3] (rkv f T p) = some ((1, 0), vW 3, flR 3 (rkv f T p)) := by
      rw [v_must (Or.inl rfl) (by rw [e20]; decide), if_pos ⟨rfl, e20⟩]
    exact ⟨_, vM_go rfl rfl rfl rfl fun F hF => (by (first | (refine (vbnd_0 (w1 k)).trans ?_) | (refine (vF_g rfl rfl).trans ?_; refine (vF_g rfl rfl).trans ?_; refine (vbnd_0 (w1 k)).trans ?_) | (refine (vF_g rfl rfl).trans ?_; refine (vbnd_0 (w1 k)).trans ?_)); (first | (refine (vgt (x := 1) (y := 0) (by decide) (by decide)).trans ?_) | (refine (vF_g rfl rfl).trans ?_; refine (vF_g rfl rfl).trans ?_; refine (vgt (x := 1) (y := 0) (by decide) (by decide)).trans ?_) | (refine (vF_g rfl rfl).trans ?_; refine (vgt (x := 1) (y := 0) (by decide) (by decide)).trans ?_)); (first | (refine (vbnd_0 e).trans ?_) | (refine (vF_g rfl rfl).trans ?_; refine (vF_g rfl rfl).trans ?_; refine (vbnd_0 e).trans ?_) | (refine (vF_g rfl rfl).trans ?_; refine (vbnd_0 e).trans ?_)); (first | (refine (vne hl (by decide) k2).trans ?_) | (refine (vF_g rfl rfl).trans ?_; refine (vF_g rfl rfl).trans ?_; refine (vne hl (by decide) k2).trans ?_) | (refine (vF_g rfl rfl).trans ?_; refine (vne hl (by decide) k2).trans ?_)); (first | (refine (vbnd_1 m).trans ?_) | (refine (vF_g rfl rfl).trans ?_; refine (vF_g rfl rfl).trans ?_; refine (vbnd_1 m).trans ?_) | (refine (vF_g rfl rfl).trans ?_; refine (vbnd_1 m).trans ?_)); (first | (refine (vne (x := flR 3 (rkv f T p) 452 20) (y := 0) (by rw [flR_20]; decide) (by decide) (by rw [flR_20]; decide)).trans ?_) | (refine (vF_g rfl rfl).trans ?_; refine (vF_g rfl rfl).trans ?_; refine (vne (x := flR 3 (rkv f T p) 452 20) (y := 0) (by rw [flR_20]; decide) (by decide) (by rw [flR_20]; decide)).trans ?_) | (refine (vF_g rfl rfl).trans ?_; refine (vne (x := flR 3 (rkv f T p) 452 20) (y := 0) (by rw [flR_20]; decide) (by decide) (by rw [flR_20]; decide)).trans ?_)); (first | (exact rfl) | (refine (vF_g rfl rfl).trans ?_; refine (vF_g rfl rfl).trans ?_; exact rfl) | (refine (vF_g rfl rfl).trans ?_; refine (vF_g rfl rfl).trans ?_; refine (vF_g rfl rfl).trans ?_; exact rfl) | (refine (vF_g rfl rfl).trans ?_; exact rfl))), err_fl rkv_18 (by decide) (by decide)⟩
  · have e := v_thingV (D := D) h k
    have m : vM MT0 (D + 3) 230 [vR 452, vI 1, vI 3] (rkv f T p) = some ((1, 0), vW 3, rkv f T p) := by
      rw [v_must (Or.inr rfl) (by rw [e20]; decide), if_neg (fun w => by cases w.1)]
    have hz := tZ_E k.1
    have hz6 := nOK_z.mp k
    obtain ⟨F, hF, go⟩ := vM_at (D := D + 3) (y := 242) (as := [vR 452, vI (203 + 17 * d), vI 1]) (f := f) rfl rfl rfl rfl
    have st : ∀ r, vFn (vM MT0 (D + 3)) nb_X11_newName (F + 55) 8 0 [vR 452, vI (203 + 17 * d), vI 1, vI 0] [] (vup (rkv f T p) 453 (203 + 17 * d) (tZ T p)) = r → vM MT0 (D + 4) 242 [vR 452, vI (203 + 17 * d), vI 1] f = r := by
      intro r hr
      refine go r ?_
      (first | (refine (vbnd_0 (w1 k)).trans ?_) | (refine (vF_g rfl rfl).trans ?_; refine (vF_g rfl rfl).trans ?_; refine (vbnd_0 (w1 k)).trans ?_) | (refine (vF_g rfl rfl).trans ?_; refine (vbnd_0 (w1 k)).trans ?_))
      (first | (refine (vgt (x := 1) (y := 0) (by decide) (by decide)).trans ?_) | (refine (vF_g rfl rfl).trans ?_; refine (vF_g rfl rfl).trans ?_; refine (vgt (x := 1) (y := 0) (by decide) (by decide)).trans ?_) | (refine (vF_g rfl rfl).trans ?_; refine (vgt (x := 1) (y := 0) (by decide) (by decide)).trans ?_))
      (first | (refine (vbnd_0 e).trans ?_) | (refine (vF_g rfl rfl).trans ?_; refine (vF_g rfl rfl).trans ?_; refine (vbnd_0 e).trans ?_) | (refine (vF_g rfl rfl).trans ?_; refine (vbnd_0 e).trans ?_))
      (first | (refine (veq k2).trans ?_) | (refine (vF_g rfl rfl).trans ?_; refine (vF_g rfl rfl).trans ?_; refine (veq k2).trans ?_) | (refine (vF_g rfl rfl).trans ?_; refine (veq k2).trans ?_))
      (first | (refine (vbnd_1 m).trans ?_) | (refine (vF_g rfl rfl).trans ?_; refine (vF_g rfl rfl).trans ?_; refine (vbnd_1 m).trans ?_) | (refine (vF_g rfl rfl).trans ?_; refine (vbnd_1 m).trans ?_))
      (first | (refine (veq e20).trans ?_) | (refine (vF_g rfl rfl).trans ?_; refine (vF_g rfl rfl).trans ?_; refine (veq e20).trans ?_) | (refine (vF_g rfl rfl).trans ?_; refine (veq e20).trans ?_))
      (first | (refine Eq.trans (b := gd (Nat.ble (203 + 17 * d + 1) 627) (vFn (vM MT0 (D + 3)) nb_X11_newName (F + 55) 8 0 [vR 452, vI (203 + 17 * d), vI 1, vI 0] [] (vup (rkv f T p) 453 (203 + 17 * d) (rkv f T p 452 19)))) rfl ?_) | (refine (vF_g rfl rfl).trans ?_; refine (vF_g rfl rfl).trans ?_; refine Eq.trans (b := gd (Nat.ble (203 + 17 * d + 1) 627) (vFn (vM MT0 (D + 3)) nb_X11_newName (F + 55) 8 0 [vR 452, vI (203 + 17 * d), vI 1, vI 0] [] (vup (rkv f T p) 453 (203 + 17 * d) (rkv f T p 452 19)))) rfl ?_) | (refine (vF_g rfl rfl).trans ?_; refine Eq.trans (b := gd (Nat.ble (203 + 17 * d + 1) 627) (vFn (vM MT0 (D + 3)) nb_X11_newName (F + 55) 8 0 [vR 452, vI (203 + 17 * d), vI 1, vI 0] [] (vup (rkv f T p) 453 (203 + 17 * d) (rkv f T p 452 19)))) rfl ?_))
      rw [rkv_19, Nat.ble_eq_true_of_le (show 203 + 17 * d + 1 ≤ 627 by omega)]
      exact hr
    have hr2 : RS n T E V c d (tS T p) (vup (rkv f T p) 453 (203 + 17 * d) (tZ T p)) := rs_puV hr (by omega) (by omega) hj
    obtain ⟨g, e3, g1, g2⟩ := nn_loop (D := D + 2) (a := 203 + 17 * d) (b := 1) (s := tS T p) (z := tZ T p) (T := T) (n := n) hz6.2 (by omega) (by omega) (tZ T p) 0 (F + 55) (vup (rkv f T p) 453 (203 + 17 * d) (tZ T p)) (by omega) (by omega) hr2.tx ((vup_ne (Or.inl (by decide))).trans rkv_18) ((vup_ne (Or.inl (by decide))).trans rkv_19)
    rw [hz, Nat.mod_eq_of_lt (show tE T p < 4294967296 by omega)] at e3
    have h1 := h.c9
    have h2 := h.d9
    have hg : RS n T E V c d (tS T p) g := rs_of hr2 (g2 _ _ (by omega)) (fun _ => g2 _ _ (by omega)) ((g2 _ _ (by omega)).trans hr2.at_) hS.2 (g2 _ _ (by omega)) (g2 _ _ (by omega)) (g2 _ _ (by omega)) (g2 _ _ (by omega)) (fun y hy hy2 => g2 _ _ (by omega)) (fun y hy hy2 => g2 _ _ (by omega))
    refine ⟨_, st _ e3, rs_past hg hE.2, tZ T p, fun i => T (tS T p + i), hz6.1, hz6.2, (vup_ne (Or.inl (by decide))).trans ((g2 _ _ (by omega)).trans vup_eq), fun i hi => ⟨(vup_ne (Or.inl (by decide))).trans (g1 i (Nat.zero_le _) hi), word_l k.1 i (by omega)⟩, ?_⟩
    unfold tN
    rw [show tE T p - tS T p = tZ T p by omega, (nmr_eq (U := fun i => T (tS T p + i)) (tZ T p)).mpr (fun i _ => rfl)]
theorem v_putsV {D j i x : Nat} {f : Vw} (hj : j < 8) (hi : i ≤ 14) : vM MT0 (D + 1) 184 [vR 452, vI j, vI i, vI x] f = some ((1, 0), vW 3, vup f 453 (203 + 17 * j + i) x) := by
  refine vM_go rfl rfl rfl rfl fun F hF => ?_
  (first | (refine Eq.trans (b := gd (Nat.ble (((203 + g_imul 17 j) % 4294967296 + i) % 4294967296 + 1) 627) (some ((1, 0), vW 3, vup f 453 (((203 + g_imul 17 j) % 4294967296 + i) % 4294967296) x))) rfl ?_) | (refine (vF_g rfl rfl).trans ?_; refine (vF_g rfl rfl).trans ?_; refine Eq.trans (b := gd (Nat.ble (((203 + g_imul 17 j) % 4294967296 + i) % 4294967296 + 1) 627) (some ((1, 0), vW 3, vup f 453 (((203 + g_imul 17 j) % 4294967296 + i) % 4294967296) x))) rfl ?_) | (refine (vF_g rfl rfl).trans ?_; refine Eq.trans (b := gd (Nat.ble (((203 + g_imul 17 j) % 4294967296 + i) % 4294967296 + 1) 627) (some ((1, 0), vW 3, vup f 453 (((203 + g_imul 17 j) % 4294967296 + i) % 4294967296) x))) rfl ?_))
  have e : ((203 + g_imul 17 j) % 4294967296 + i) % 4294967296 = 203 + 17 * j + i := by
    rw [g_imul_s (show 17 * j < 2147483648 by omega) (by decide) (by omega)]
    omega
  rw [e, Nat.ble_eq_true_of_le (show 203 + 17 * j + i + 1 ≤ 627 by omega)]
  (first | (exact rfl) | (refine (vF_g rfl rfl).trans ?_; refine (vF_g rfl rfl).trans ?_; exact rfl) | (refine (vF_g rfl rfl).trans ?_; refine (vF_g rfl rfl).trans ?_; refine (vF_g rfl rfl).trans ?_; exact rfl) | (refine (vF_g rfl rfl).trans ?_; exact rfl))
theorem rs_addE {n c d p : Nat} {T : Nat → Nat} {E V : Nat → Nat → Nat} {f : Vw} {r : Nat → Nat} (h : RS n T E V c d p f) (hj : c < 12) (h0 : nmRow f (23 + 15 * c) (r 0)) (h1 : ∀ i, 1 ≤ i → i ≤ 4 → f 453 (29 + 15 * c + i) = r i) : RS n T (ad E c r) V (c + 1) d p (vup f 453 0 (c + 1)) := by
  have o : ∀ i, i ≠ 0 → vup f 453 0 (c + 1) 453 i = f 453 i := fun i hi => vup_ne (Or.inr hi)
  refine ⟨txR_of h.tx (vup_ne (Or.inl (by decide))) (fun _ => vup_ne (Or.inl (by decide))), (vup_ne (Or.inl (by decide))).trans h.at_, h.le, ⟨(vup_ne (Or.inl (by decide))).trans h.er.1, (vup_ne (Or.inl (by decide))).trans h.er.2⟩, vup_eq, by omega, (o 1 (by decide)).trans h.d0, h.d9, fun j hj2 => ?_, fun j hj2 => ⟨nmRow_of (h.nV j hj2).1 (fun k _ => o _ (by omega)), fun i hi hi2 => (o _ (by omega)).trans ((h.nV j hj2).2 i hi hi2)⟩⟩
  by_cases q : j = c
  · subst q
    rw [ad_e]
    exact ⟨nmRow_of h0 (fun k _ => o _ (by omega)), fun i hi hi2 => (o _ (by omega)).trans (h1 i hi hi2)⟩
  · rw [ad_n q]
    exact ⟨nmRow_of (h.nE j (by omega)).1 (fun k _ => o _ (by omega)), fun i hi hi2 => (o _ (by omega)).trans ((h.nE j (by omega)).2 i hi hi2)⟩
theorem rs_addV {n c d p : Nat} {T : Nat → Nat} {E V : Nat → Nat → Nat} {f : Vw} {r : Nat → Nat} (h : RS n T E V c d p f) (hj : d < 8) (h0 : nmRow f (203 + 17 * d) (r 0)) (h1 : ∀ i, 1 ≤ i → i ≤ 4 → f 453 (209 + 17 * d + i) = r i) : RS n T E (ad V d r) c (d + 1) p (vup f 453 1 (d + 1)) := by
  have o : ∀ i, i ≠ 1 → vup f 453 1 (d + 1) 453 i = f 453 i := fun i hi => vup_ne (Or.inr hi)
  refine ⟨txR_of h.tx (vup_ne (Or.inl (by decide))) (fun _ => vup_ne (Or.inl (by decide))), (vup_ne (Or.inl (by decide))).trans h.at_, h.le, ⟨(vup_ne (Or.inl (by decide))).trans h.er.1, (vup_ne (Or.inl (by decide))).trans h.er.2⟩, (o 0 (by decide)).trans h.c0, h.c9, vup_eq, by omega, fun j hj2 => ⟨nmRow_of (h.nE j hj2).1 (fun k _ => o _ (by omega)), fun i hi hi2 => (o _ (by omega)).trans ((h.nE j hj2).2 i hi hi2)⟩, fun j hj2 => ?_⟩
  by_cases q : j = d
  · subst q
    rw [ad_e]
    exact ⟨nmRow_of h0 (fun k _ => o _ (by omega)), fun i hi hi2 => (o _ (by omega)).trans (h1 i hi hi2)⟩
  · rw [ad_n q]
    exact ⟨nmRow_of (h.nV j (by omega)).1 (fun k _ => o _ (by omega)), fun i hi hi2 => (o _ (by omega)).trans ((h.nV j (by omega)).2 i hi hi2)⟩
end
section
/-! the reference's lines -/
theorem sk_st {T : Nat → Nat} {n : Nat} (hn : ∀ i, n ≤ i → T i = 4294967295) : ∀ m p, p ≤ n → n < p + m → T (sk T m p) ≠ 32 := by
  intro m
  induction m with
  | zero => intro p h1 h2; omega
  | succ m ih =>
    intro p h1 h2
    by_cases q : T p = 32
    · have hp : p < n := by
        rcases Nat.lt_or_ge p n with w | w
        · exact w
        · rw [hn p w] at q
          cases q
      rw [show sk T (m + 1) p = sk T m (p + 1) from if_pos q]
      exact ih (p + 1) hp (by omega)
    · rw [show sk T (m + 1) p = p from if_neg q]
      exact q
theorem tS_i {T : Nat → Nat} {n p : Nat} (hn9 : n ≤ 900) (hT : ∀ i, n ≤ i → T i = 4294967295) (hp : p ≤ n) : tS T (tS T p) = tS T p := if_neg (sk_st hT 901 p hp (by omega))
theorem tK_i {T : Nat → Nat} {p q : Nat} (h : tS T p = tS T q) : tK T p = tK T q := by
  unfold tK
  rw [h]
theorem tE_i {T : Nat → Nat} {p q : Nat} (h : tS T p = tS T q) : tE T p = tE T q := by
  unfold tE
  rw [tK_i h, h]
theorem tV_i {T : Nat → Nat} {p q : Nat} (h : tS T p = tS T q) : tV T p = tV T q := by
  unfold tV
  rw [tK_i h, h]
theorem tZ_i {T : Nat → Nat} {p q : Nat} (h : tS T p = tS T q) : tZ T p = tZ T q := by
  unfold tZ
  rw [h]
theorem w_i {T : Nat → Nat} {w p q : Nat} (h : tS T p = tS T q) : wOKc T w p ↔ wOKc T w q := by
  unfold wOKc
  rw [tK_i h, tE_i h, h]
theorem nu_i {T : Nat → Nat} {p q lo hi : Nat} (h : tS T p = tS T q) : nuC T p lo hi = nuC T q lo hi := by
  unfold nuC
  rw [tK_i h, tE_i h, tV_i h, h]
theorem lnE_5 {D F c a2 a3 a4 a5 : Nat} {f g0 g1 g2 g3 g4 g5 : Vw} {r : Option VR} (e0 : vM MT0 D 232 [vR 452] f = some ((1, 0), vW 3, g0)) (hg : g0 453 0 = c) (ep : vM MT0 D 239 [vI c, vI 0] g0 = some ((0, 0), vI (23 + 15 * c), g0)) (e1 : vM MT0 D 242 [vR 452, vI (23 + 15 * c), vI 0] g0 = some ((1, 0), vW 3, g1)) (e2 : vM MT0 D 235 [vR 452, vI 1, vI 9] g1 = some ((0, 0), vI a2, g2)) (e3 : vM MT0 D 235 [vR 452, vI 1, vI 9] g2 = some ((0, 0), vI a3, g3)) (e4 : vM MT0 D 235 [vR 452, vI 1, vI 99] g3 = some ((0, 0), vI a4, g4)) (e5 : vM MT0 D 235 [vR 452, vI 0, vI 9] g4 = some ((0, 0), vI a5, g5)) (e6 : vc3 (bv (g5 452 20)) (bv 0) (vFn (vM MT0 D) nb_X11_echoLine F 6 0 [vR 452, vI c, vI a2, vI a3, vI a4, vI a5] [] g5) (vFn (vM MT0 D) nb_X11_echoLine F 7 0 [vR 452, vI c, vI a2, vI a3, vI a4, vI a5] [] g5) (vFn (vM MT0 D) nb_X11_echoLine F 6 0 [vR 452, vI c, vI a2, vI a3, vI a4, vI a5] [] g5) = r) : vFn (vM MT0 D) nb_X11_echoLine (F + 1) 5 0 [vR 452, vW 3, vW 3, vW 3, vW 3, vW 3] [] f = r := by
  obtain ⟨g00, rfl⟩ : ∃ g00, g0 = vup g00 453 0 c := ⟨g0, (vup_id hg).symm⟩
  (first | (refine (vbnd_1 e0).trans ?_) | (refine (vF_g rfl rfl).trans ?_; refine (vF_g rfl rfl).trans ?_; refine (vbnd_1 e0).trans ?_) | (refine (vF_g rfl rfl).trans ?_; refine (vbnd_1 e0).trans ?_))
  (first | (refine (vbnd_0 ep).trans ?_) | (refine (vF_g rfl rfl).trans ?_; refine (vF_g rfl rfl).trans ?_; refine (vbnd_0 ep).trans ?_) | (refine (vF_g rfl rfl).trans ?_; refine (vbnd_0 ep).trans ?_))
  (first | (refine (vbnd_1 e1).trans ?_) | (refine (vF_g rfl rfl).trans ?_; refine (vF_g rfl rfl).trans ?_; refine (vbnd_1 e1).trans ?_) | (refine (vF_g rfl rfl).trans ?_; refine (vbnd_1 e1).trans ?_))
  (first | (refine (vbnd_0 e2).trans ?_) | (refine (vF_g rfl rfl).trans ?_; refine (vF_g rfl rfl).trans ?_; refine (vbnd_0 e2).trans ?_) | (refine (vF_g rfl rfl).trans ?_; refine (vbnd_0 e2).trans ?_))
  (first | (refine (vbnd_0 e3).trans ?_) | (refine (vF_g rfl rfl).trans ?_; refine (vF_g rfl rfl).trans ?_; refine (vbnd_0 e3).trans ?_) | (refine (vF_g rfl rfl).trans ?_; refine (vbnd_0 e3).trans ?_))
  (first | (refine (vbnd_0 e4).trans ?_) | (refine (vF_g rfl rfl).trans ?_; refine (vF_g rfl rfl).trans ?_; refine (vbnd_0 e4).trans ?_) | (refine (vF_g rfl rfl).trans ?_; refine (vbnd_0 e4).trans ?_))
  (first | (refine (vbnd_0 e5).trans ?_) | (refine (vF_g rfl rfl).trans ?_; refine (vF_g rfl rfl).trans ?_; refine (vbnd_0 e5).trans ?_) | (refine (vF_g rfl rfl).trans ?_; refine (vbnd_0 e5).trans ?_))
  (first | (exact e6) | (refine (vF_g rfl rfl).trans ?_; refine (vF_g rfl rfl).trans ?_; exact e6) | (refine (vF_g rfl rfl).trans ?_; exact e6))
noncomputable def prE (c a2 a3 a4 a5 : Nat) (f : Vw) : Vw := vup (vup (vup (vup f 453 (23 + 15 * c + 7) a2) 453 (23 + 15 * c + 8) a3) 453 (23 + 15 * c + 9) a4) 453 (23 + 15 * c + 10) a5
theorem lnE_7 {D F c a2 a3 a4 a5 : Nat} {f : Vw} (hj : c < 12) : vFn (vM MT0 (D + 1)) nb_X11_echoLine (F + 1) 7 0 [vR 452, vI c, vI a2, vI a3, vI a4, vI a5] [] f = some ((1, 0), vW 3, vup (prE c a2 a3 a4 a5 f) 453 0 (((prE c a2 a3 a4 a5 f) 453 0 + 1) % 4294967296)) :=
  (by (first | (refine (vbnd_1 (v_putsE hj (by decide))).trans ?_) | (refine (vF_g rfl rfl).trans ?_; refine (vF_g rfl rfl).trans ?_; refine (vbnd_1 (v_putsE hj (by decide))).trans ?_) | (refine (vF_g rfl rfl).trans ?_; refine (vbnd_1 (v_putsE hj (by decide))).trans ?_)); (first | (refine (vbnd_1 (v_putsE hj (by decide))).trans ?_) | (refine (vF_g rfl rfl).trans ?_; refine (vF_g rfl rfl).trans ?_; refine (vbnd_1 (v_putsE hj (by decide))).trans ?_) | (refine (vF_g rfl rfl).trans ?_; refine (vbnd_1 (v_putsE hj (by decide))).trans ?_)); (first | (refine (vbnd_1 (v_putsE hj (by decide))).trans ?_) | (refine (vF_g rfl rfl).trans ?_; refine (vF_g rfl rfl).trans ?_; refine (vbnd_1 (v_putsE hj (by decide))).trans ?_) | (refine (vF_g rfl rfl).trans ?_; refine (vbnd_1 (v_putsE hj (by decide))).trans ?_)); (first | (refine (vbnd_1 (v_putsE hj (by decide))).trans ?_) | (refine (vF_g rfl rfl).trans ?_; refine (vF_g rfl rfl).trans ?_; refine (vbnd_1 (v_putsE hj (by decide))).trans ?_) | (refine (vF_g rfl rfl).trans ?_; refine (vbnd_1 (v_putsE hj (by decide))).trans ?_)); (first | (exact rfl) | (refine (vF_g rfl rfl).trans ?_; refine (vF_g rfl rfl).trans ?_; exact rfl) | (refine (vF_g rfl rfl).trans ?_; refine (vF_g rfl rfl).trans ?_; refine (vF_g rfl rfl).trans ?_; exact rfl) | (refine (vF_g rfl rfl).trans ?_; exact rfl)))
theorem v_lineE {D : Nat} {n c d p : Nat} {T : Nat → Nat} {E V : Nat → Nat → Nat} {f : Vw} (h : RS n T E V c d p f) (hk : tK T p = 1) : (∃ g p5, vM MT0 (D + 5) 248 [vR 452] (rkv f T p) = some ((1, 0), vW 3, g) ∧ RS n T (ad E c (rwE T (tE T p))) V (c + 1) d p5 g ∧ oEcho T (fun j => E j 0) c (tS T p) (tE T p) = oS T p5 fun p => (0, p)) ∨ (∃ g e q, vM MT0 (D + 5) 248 [vR 452] (rkv f T p) = some ((1, 0), vW 3, g) ∧ ERR e q g ∧ oEcho T (fun j => E j 0) c (tS T p) (tE T p) = (e, q)) := by
  have hr := rs_rkv h
  have e20 : rkv f T p 452 20 = 0 := hr.er.1
  have hn := h.tx.1
  have hE := tE_ge h.tx.2.2.2.2 h.le
  have hz := tZ_E hk
  unfold oEcho
  by_cases hc : 12 ≤ c
  · rw [if_pos hc]
    have hc9 := h.c9
    have m : vM MT0 (D + 4) 230 [vR 452, vI 0, vI 4] (rkv f T p) = some ((1, 0), vW 3, flR 4 (rkv f T p)) := by
      rw [v_must (Or.inl rfl) (by rw [e20]; decide), if_pos ⟨rfl, e20⟩]
    exact Or.inr ⟨_, 4, tS T p, vM_go rfl rfl rfl rfl fun F hF => (by (first | (refine (vge2 (x := rkv f T p 453 0) (y := 12) (by rw [hr.c0]; omega) (by rw [hr.c0]; exact hc)).trans ?_) | (refine (vF_g rfl rfl).trans ?_; refine (vF_g rfl rfl).trans ?_; refine (vge2 (x := rkv f T p 453 0) (y := 12) (by rw [hr.c0]; omega) (by rw [hr.c0]; exact hc)).trans ?_) | (refine (vF_g rfl rfl).trans ?_; refine (vge2 (x := rkv f T p 453 0) (y := 12) (by rw [hr.c0]; omega) (by rw [hr.c0]; exact hc)).trans ?_)); (first | (refine (vbnd_1 m).trans ?_) | (refine (vF_g rfl rfl).trans ?_; refine (vF_g rfl rfl).trans ?_; refine (vbnd_1 m).trans ?_) | (refine (vF_g rfl rfl).trans ?_; refine (vbnd_1 m).trans ?_)); (first | (refine (vne (x := flR 4 (rkv f T p) 452 20) (y := 0) (by rw [flR_20]; decide) (by decide) (by rw [flR_20]; decide)).trans ?_) | (refine (vF_g rfl rfl).trans ?_; refine (vF_g rfl rfl).trans ?_; refine (vne (x := flR 4 (rkv f T p) 452 20) (y := 0) (by rw [flR_20]; decide) (by decide) (by rw [flR_20]; decide)).trans ?_) | (refine (vF_g rfl rfl).trans ?_; refine (vne (x := flR 4 (rkv f T p) 452 20) (y := 0) (by rw [flR_20]; decide) (by decide) (by rw [flR_20]; decide)).trans ?_)); (first | (exact rfl) | (refine (vF_g rfl rfl).trans ?_; refine (vF_g rfl rfl).trans ?_; exact rfl) | (refine (vF_g rfl rfl).trans ?_; refine (vF_g rfl rfl).trans ?_; refine (vF_g rfl rfl).trans ?_; exact rfl) | (refine (vF_g rfl rfl).trans ?_; exact rfl))), err_fl rkv_18 (by decide) (by decide), rfl⟩
  rw [if_neg hc]
  have hj : c < 12 := by omega
  have m : vM MT0 (D + 4) 230 [vR 452, vI 1, vI 4] (rkv f T p) = some ((1, 0), vW 3, rkv f T p) := by
    rw [v_must (Or.inr rfl) (by rw [e20]; decide), if_neg (fun w => by cases w.1)]
  have s0 : ∀ r, (∀ F, vFn (vM MT0 (D + 4)) nb_X11_echoLine (F + 57) 5 0 [vR 452, vW 3, vW 3, vW 3, vW 3, vW 3] [] (rkv f T p) = r) → vM MT0 (D + 5) 248 [vR 452] (rkv f T p) = r := fun r hr9 => vM_go rfl rfl rfl rfl fun F hF => (by (first | (refine (vlt (x := rkv f T p 453 0) (y := 12) (by decide) (by rw [hr.c0]; exact hj)).trans ?_) | (refine (vF_g rfl rfl).trans ?_; refine (vF_g rfl rfl).trans ?_; refine (vlt (x := rkv f T p 453 0) (y := 12) (by decide) (by rw [hr.c0]; exact hj)).trans ?_) | (refine (vF_g rfl rfl).trans ?_; refine (vlt (x := rkv f T p 453 0) (y := 12) (by decide) (by rw [hr.c0]; exact hj)).trans ?_)); (first | (refine (vbnd_1 m).trans ?_) | (refine (vF_g rfl rfl).trans ?_; refine (vF_g rfl rfl).trans ?_; refine (vbnd_1 m).trans ?_) | (refine (vF_g rfl rfl).trans ?_; refine (vbnd_1 m).trans ?_)); (first | (refine (veq e20).trans ?_) | (refine (vF_g rfl rfl).trans ?_; refine (vF_g rfl rfl).trans ?_; refine (veq e20).trans ?_) | (refine (vF_g rfl rfl).trans ?_; refine (veq e20).trans ?_)); (first | (exact (hr9 F)) | (refine (vF_g rfl rfl).trans ?_; refine (vF_g rfl rfl).trans ?_; exact (hr9 F)) | (refine (vF_g rfl rfl).trans ?_; exact (hr9 F))))
  have e0 : vM MT0 (D + 4) 232 [vR 452] (rkv f T p) = some ((1, 0), vW 3, vup (rkv f T p) 452 17 (tE T p)) := by
    rw [v_goesPast, rkv_18, rkv_19, hz, Nat.mod_eq_of_lt (by omega)]
  have r0 : RS n T E V c d (tE T p) (vup (rkv f T p) 452 17 (tE T p)) := rs_past hr hE.2
  generalize vup (rkv f T p) 452 17 (tE T p) = g0 at e0 r0
  have ep := v_placeE (D := D + 3) (j := c) (f := g0) (by omega)
  obtain ⟨w1, w2, w3⟩ := v_newNameE (D := D) r0 hj
  by_cases k1 : nOK T (tE T p)
  rotate_left
  · rw [oNew_2 k1]
    obtain ⟨g, e, hg⟩ := w1 k1
    exact Or.inr ⟨g, 1, _, s0 _ (fun F => lnE_5 e0 r0.c0 ep e (e_number hg) (e_number hg) (e_number hg) (e_number hg) ((by (first | (refine (vne (x := g 452 20) (y := 0) (by rw [hg.1]; exact hg.2.2.2) (by decide) (by rw [hg.1]; exact hg.2.2.1)).trans ?_) | (refine (vF_g rfl rfl).trans ?_; refine (vF_g rfl rfl).trans ?_; refine (vne (x := g 452 20) (y := 0) (by rw [hg.1]; exact hg.2.2.2) (by decide) (by rw [hg.1]; exact hg.2.2.1)).trans ?_) | (refine (vF_g rfl rfl).trans ?_; refine (vne (x := g 452 20) (y := 0) (by rw [hg.1]; exact hg.2.2.2) (by decide) (by rw [hg.1]; exact hg.2.2.1)).trans ?_)); (first | (exact rfl) | (refine (vF_g rfl rfl).trans ?_; refine (vF_g rfl rfl).trans ?_; exact rfl) | (refine (vF_g rfl rfl).trans ?_; refine (vF_g rfl rfl).trans ?_; refine (vF_g rfl rfl).trans ?_; exact rfl) | (refine (vF_g rfl rfl).trans ?_; exact rfl))))), hg, rfl⟩
  by_cases k2 : fidx (fun j => E j 0) (pkr (tN T (tE T p))) c 0 = 4294967295
  rotate_left
  · rw [oNew_1 k1 k2]
    obtain ⟨g, e, hg⟩ := w2 k1 k2
    exact Or.inr ⟨g, 3, _, s0 _ (fun F => lnE_5 e0 r0.c0 ep e (e_number hg) (e_number hg) (e_number hg) (e_number hg) ((by (first | (refine (vne (x := g 452 20) (y := 0) (by rw [hg.1]; exact hg.2.2.2) (by decide) (by rw [hg.1]; exact hg.2.2.1)).trans ?_) | (refine (vF_g rfl rfl).trans ?_; refine (vF_g rfl rfl).trans ?_; refine (vne (x := g 452 20) (y := 0) (by rw [hg.1]; exact hg.2.2.2) (by decide) (by rw [hg.1]; exact hg.2.2.1)).trans ?_) | (refine (vF_g rfl rfl).trans ?_; refine (vne (x := g 452 20) (y := 0) (by rw [hg.1]; exact hg.2.2.2) (by decide) (by rw [hg.1]; exact hg.2.2.1)).trans ?_)); (first | (exact rfl) | (refine (vF_g rfl rfl).trans ?_; refine (vF_g rfl rfl).trans ?_; exact rfl) | (refine (vF_g rfl rfl).trans ?_; refine (vF_g rfl rfl).trans ?_; refine (vF_g rfl rfl).trans ?_; exact rfl) | (refine (vF_g rfl rfl).trans ?_; exact rfl))))), hg, rfl⟩
  rw [oNew_0 k1 k2]
  obtain ⟨g1, e1, r1, nm1⟩ := w3 k1 k2
  obtain ⟨u1, u2⟩ := v_numR (D := D + 1) (lo := 1) (hi := 9) r1 (by decide) (by decide)
  by_cases k3 : nuC T (tE T (tE T p)) 1 9 = 0
  rotate_left
  · rw [oN_1 k3]
    obtain ⟨g, e, hg⟩ := u2 k3
    exact Or.inr ⟨g, _, _, s0 _ (fun F => lnE_5 e0 r0.c0 ep e1 e (e_number hg) (e_number hg) (e_number hg) ((by (first | (refine (vne (x := g 452 20) (y := 0) (by rw [hg.1]; exact hg.2.2.2) (by decide) (by rw [hg.1]; exact hg.2.2.1)).trans ?_) | (refine (vF_g rfl rfl).trans ?_; refine (vF_g rfl rfl).trans ?_; refine (vne (x := g 452 20) (y := 0) (by rw [hg.1]; exact hg.2.2.2) (by decide) (by rw [hg.1]; exact hg.2.2.1)).trans ?_) | (refine (vF_g rfl rfl).trans ?_; refine (vne (x := g 452 20) (y := 0) (by rw [hg.1]; exact hg.2.2.2) (by decide) (by rw [hg.1]; exact hg.2.2.1)).trans ?_)); (first | (exact rfl) | (refine (vF_g rfl rfl).trans ?_; refine (vF_g rfl rfl).trans ?_; exact rfl) | (refine (vF_g rfl rfl).trans ?_; refine (vF_g rfl rfl).trans ?_; refine (vF_g rfl rfl).trans ?_; exact rfl) | (refine (vF_g rfl rfl).trans ?_; exact rfl))))), hg, rfl⟩
  rw [oN_0 k3]
  obtain ⟨g2, e2, r2, f2, v2⟩ := u1 k3
  clear u1 u2
  obtain ⟨u1, u2⟩ := v_numR (D := D + 1) (lo := 1) (hi := 9) r2 (by decide) (by decide)
  by_cases k4 : nuC T (tE T (tE T (tE T p))) 1 9 = 0
  rotate_left
  · rw [oN_1 k4]
    obtain ⟨g, e, hg⟩ := u2 k4
    exact Or.inr ⟨g, _, _, s0 _ (fun F => lnE_5 e0 r0.c0 ep e1 e2 e (e_number hg) (e_number hg) ((by (first | (refine (vne (x := g 452 20) (y := 0) (by rw [hg.1]; exact hg.2.2.2) (by decide) (by rw [hg.1]; exact hg.2.2.1)).trans ?_) | (refine (vF_g rfl rfl).trans ?_; refine (vF_g rfl rfl).trans ?_; refine (vne (x := g 452 20) (y := 0) (by rw [hg.1]; exact hg.2.2.2) (by decide) (by rw [hg.1]; exact hg.2.2.1)).trans ?_) | (refine (vF_g rfl rfl).trans ?_; refine (vne (x := g 452 20) (y := 0) (by rw [hg.1]; exact hg.2.2.2) (by decide) (by rw [hg.1]; exact hg.2.2.1)).trans ?_)); (first | (exact rfl) | (refine (vF_g rfl rfl).trans ?_; refine (vF_g rfl rfl).trans ?_; exact rfl) | (refine (vF_g rfl rfl).trans ?_; refine (vF_g rfl rfl).trans ?_; refine (vF_g rfl rfl).trans ?_; exact rfl) | (refine (vF_g rfl rfl).trans ?_; exact rfl))))), hg, rfl⟩
  rw [oN_0 k4]
  obtain ⟨g3, e3, r3, f3, v3⟩ := u1 k4
  clear u1 u2
  obtain ⟨u1, u2⟩ := v_numR (D := D + 1) (lo := 1) (hi := 99) r3 (by decide) (by decide)
  by_cases k5 : nuC T (tE T (tE T (tE T (tE T p)))) 1 99 = 0
  rotate_left
  · rw [oN_1 k5]
    obtain ⟨g, e, hg⟩ := u2 k5
    exact Or.inr ⟨g, _, _, s0 _ (fun F => lnE_5 e0 r0.c0 ep e1 e2 e3 e (e_number hg) ((by (first | (refine (vne (x := g 452 20) (y := 0) (by rw [hg.1]; exact hg.2.2.2) (by decide) (by rw [hg.1]; exact hg.2.2.1)).trans ?_) | (refine (vF_g rfl rfl).trans ?_; refine (vF_g rfl rfl).trans ?_; refine (vne (x := g 452 20) (y := 0) (by rw [hg.1]; exact hg.2.2.2) (by decide) (by rw [hg.1]; exact hg.2.2.1)).trans ?_) | (refine (vF_g rfl rfl).trans ?_; refine (vne (x := g 452 20) (y := 0) (by rw [hg.1]; exact hg.2.2.2) (by decide) (by rw [hg.1]; exact hg.2.2.1)).trans ?_)); (first | (exact rfl) | (refine (vF_g rfl rfl).trans ?_; refine (vF_g rfl rfl).trans ?_; exact rfl) | (refine (vF_g rfl rfl).trans ?_; refine (vF_g rfl rfl).trans ?_; refine (vF_g rfl rfl).trans ?_; exact rfl) | (refine (vF_g rfl rfl).trans ?_; exact rfl))))), hg, rfl⟩
  rw [oN_0 k5]
  obtain ⟨g4, e4, r4, f4, v4⟩ := u1 k5
  clear u1 u2
  obtain ⟨u1, u2⟩ := v_numR (D := D + 1) (lo := 0) (hi := 9) r4 (by decide) (by decide)
  by_cases k6 : nuC T (tE T (tE T (tE T (tE T (tE T p))))) 0 9 = 0
  rotate_left
  · rw [oN_1 k6]
    obtain ⟨g, e, hg⟩ := u2 k6
    exact Or.inr ⟨g, _, _, s0 _ (fun F => lnE_5 e0 r0.c0 ep e1 e2 e3 e4 e  ((by (first | (refine (vne (x := g 452 20) (y := 0) (by rw [hg.1]; exact hg.2.2.2) (by decide) (by rw [hg.1]; exact hg.2.2.1)).trans ?_) | (refine (vF_g rfl rfl).trans ?_; refine (vF_g rfl rfl).trans ?_; refine (vne (x := g 452 20) (y := 0) (by rw [hg.1]; exact hg.2.2.2) (by decide) (by rw [hg.1]; exact hg.2.2.1)).trans ?_) | (refine (vF_g rfl rfl).trans ?_; refine (vne (x := g 452 20) (y := 0) (by rw [hg.1]; exact hg.2.2.2) (by decide) (by rw [hg.1]; exact hg.2.2.1)).trans ?_)); (first | (exact rfl) | (refine (vF_g rfl rfl).trans ?_; refine (vF_g rfl rfl).trans ?_; exact rfl) | (refine (vF_g rfl rfl).trans ?_; refine (vF_g rfl rfl).trans ?_; refine (vF_g rfl rfl).trans ?_; exact rfl) | (refine (vF_g rfl rfl).trans ?_; exact rfl))))), hg, rfl⟩
  rw [oN_0 k6]
  obtain ⟨g5, e5, r5, f5, v5⟩ := u1 k6
  clear u1 u2
  have fr : ∀ b, g5 453 b = g1 453 b := fun b => (f5 _ _ (by decide)).trans ((f4 _ _ (by decide)).trans ((f3 _ _ (by decide)).trans (f2 _ _ (by decide))))
  have e9 := fun F => lnE_7 (D := D + 3) (F := F + 55) (c := c) (a2 := rwE T (tE T p) 1) (a3 := rwE T (tE T p) 2) (a4 := rwE T (tE T p) 3) (a5 := rwE T (tE T p) 4) (f := g5) hj
  have rp : RS n T E V c d (tE T (tE T (tE T (tE T (tE T (tE T p)))))) (prE c (rwE T (tE T p) 1) (rwE T (tE T p) 2) (rwE T (tE T p) 3) (rwE T (tE T p) 4) g5) := rs_puE (rs_puE (rs_puE (rs_puE r5 (by omega) (by omega) hj) (by omega) (by omega) hj) (by omega) (by omega) hj) (by omega) (by omega) hj
  have nm : nmRow (prE c (rwE T (tE T p) 1) (rwE T (tE T p) 2) (rwE T (tE T p) 3) (rwE T (tE T p) 4) g5) (23 + 15 * c) (rwE T (tE T p) 0) := nmRow_of nm1 (fun y hy => (vup_ne (Or.inr (by omega))).trans ((vup_ne (Or.inr (by omega))).trans ((vup_ne (Or.inr (by omega))).trans ((vup_ne (Or.inr (by omega))).trans (fr _)))))
  have vs : ∀ i, 1 ≤ i → i ≤ 4 → prE c (rwE T (tE T p) 1) (rwE T (tE T p) 2) (rwE T (tE T p) 3) (rwE T (tE T p) 4) g5 453 (29 + 15 * c + i) = rwE T (tE T p) i := by
    intro i hi hi2
    rcases (show i = 1 ∨ i = 2 ∨ i = 3 ∨ i = 4 by omega) with rfl | rfl | rfl | rfl
    · rw [show 29 + 15 * c + 1 = 23 + 15 * c + 7 by omega]
      exact (vup_ne (Or.inr (by omega))).trans ((vup_ne (Or.inr (by omega))).trans ((vup_ne (Or.inr (by omega))).trans vup_eq))
    · rw [show 29 + 15 * c + 2 = 23 + 15 * c + 8 by omega]
      exact (vup_ne (Or.inr (by omega))).trans ((vup_ne (Or.inr (by omega))).trans vup_eq)
    · rw [show 29 + 15 * c + 3 = 23 + 15 * c + 9 by omega]
      exact (vup_ne (Or.inr (by omega))).trans vup_eq
    · rw [show 29 + 15 * c + 4 = 23 + 15 * c + 10 by omega]
      exact vup_eq
  generalize prE c (rwE T (tE T p) 1) (rwE T (tE T p) 2) (rwE T (tE T p) 3) (rwE T (tE T p) 4) g5 = gg at e9 rp nm vs
  rw [rp.c0, Nat.mod_eq_of_lt (show c + 1 < 4294967296 by omega)] at e9
  exact Or.inl ⟨_, _, s0 _ (fun F => lnE_5 e0 r0.c0 ep e1 e2 e3 e4 e5 ((by (first | (refine (veq r5.er.1).trans ?_) | (refine (vF_g rfl rfl).trans ?_; refine (vF_g rfl rfl).trans ?_; refine (veq r5.er.1).trans ?_) | (refine (vF_g rfl rfl).trans ?_; refine (veq r5.er.1).trans ?_)); (first | (exact (e9 F)) | (refine (vF_g rfl rfl).trans ?_; refine (vF_g rfl rfl).trans ?_; exact (e9 F)) | (refine (vF_g rfl rfl).trans ?_; exact (e9 F)))))), rs_addE rp hj nm vs, rfl⟩
theorem lnV_5 {D F c a2 a3 a4 a5 : Nat} {f g0 g1 g2 g3 g4 g5 : Vw} {r : Option VR} (e0 : vM MT0 D 232 [vR 452] f = some ((1, 0), vW 3, g0)) (hg : g0 453 1 = c) (ep : vM MT0 D 239 [vI c, vI 1] g0 = some ((0, 0), vI (203 + 17 * c), g0)) (e1 : vM MT0 D 242 [vR 452, vI (203 + 17 * c), vI 1] g0 = some ((1, 0), vW 3, g1)) (e2 : vM MT0 D 235 [vR 452, vI 1, vI 9] g1 = some ((0, 0), vI a2, g2)) (e3 : vM MT0 D 235 [vR 452, vI 1, vI 3] g2 = some ((0, 0), vI a3, g3)) (e4 : vM MT0 D 235 [vR 452, vI 1, vI 99] g3 = some ((0, 0), vI a4, g4)) (e5 : vM MT0 D 235 [vR 452, vI 0, vI 9999] g4 = some ((0, 0), vI a5, g5)) (e6 : vc3 (bv (g5 452 20)) (bv 0) (vFn (vM MT0 D) nb_X11_valleyLine F 6 0 [vR 452, vI c, vI a2, vI a3, vI a4, vI a5] [] g5) (vFn (vM MT0 D) nb_X11_valleyLine F 7 0 [vR 452, vI c, vI a2, vI a3, vI a4, vI a5] [] g5) (vFn (vM MT0 D) nb_X11_valleyLine F 6 0 [vR 452, vI c, vI a2, vI a3, vI a4, vI a5] [] g5) = r) : vFn (vM MT0 D) nb_X11_valleyLine (F + 1) 5 0 [vR 452, vW 3, vW 3, vW 3, vW 3, vW 3] [] f = r := by
  obtain ⟨g00, rfl⟩ : ∃ g00, g0 = vup g00 453 1 c := ⟨g0, (vup_id hg).symm⟩
  (first | (refine (vbnd_1 e0).trans ?_) | (refine (vF_g rfl rfl).trans ?_; refine (vF_g rfl rfl).trans ?_; refine (vbnd_1 e0).trans ?_) | (refine (vF_g rfl rfl).trans ?_; refine (vbnd_1 e0).trans ?_))
  (first | (refine (vbnd_0 ep).trans ?_) | (refine (vF_g rfl rfl).trans ?_; refine (vF_g rfl rfl).trans ?_; refine (vbnd_0 ep).trans ?_) | (refine (vF_g rfl rfl).trans ?_; refine (vbnd_0 ep).trans ?_))
  (first | (refine (vbnd_1 e1).trans ?_) | (refine (vF_g rfl rfl).trans ?_; refine (vF_g rfl rfl).trans ?_; refine (vbnd_1 e1).trans ?_) | (refine (vF_g rfl rfl).trans ?_; refine (vbnd_1 e1).trans ?_))
  (first | (refine (vbnd_0 e2).trans ?_) | (refine (vF_g rfl rfl).trans ?_; refine (vF_g rfl rfl).trans ?_; refine (vbnd_0 e2).trans ?_) | (refine (vF_g rfl rfl).trans ?_; refine (vbnd_0 e2).trans ?_))
  (first | (refine (vbnd_0 e3).trans ?_) | (refine (vF_g rfl rfl).trans ?_; refine (vF_g rfl rfl).trans ?_; refine (vbnd_0 e3).trans ?_) | (refine (vF_g rfl rfl).trans ?_; refine (vbnd_0 e3).trans ?_))
  (first | (refine (vbnd_0 e4).trans ?_) | (refine (vF_g rfl rfl).trans ?_; refine (vF_g rfl rfl).trans ?_; refine (vbnd_0 e4).trans ?_) | (refine (vF_g rfl rfl).trans ?_; refine (vbnd_0 e4).trans ?_))
  (first | (refine (vbnd_0 e5).trans ?_) | (refine (vF_g rfl rfl).trans ?_; refine (vF_g rfl rfl).trans ?_; refine (vbnd_0 e5).trans ?_) | (refine (vF_g rfl rfl).trans ?_; refine (vbnd_0 e5).trans ?_))
  (first | (exact e6) | (refine (vF_g rfl rfl).trans ?_; refine (vF_g rfl rfl).trans ?_; exact e6) | (refine (vF_g rfl rfl).trans ?_; exact e6))
noncomputable def prV (c a2 a3 a4 a5 : Nat) (f : Vw) : Vw := vup (vup (vup (vup f 453 (203 + 17 * c + 7) a2) 453 (203 + 17 * c + 8) a3) 453 (203 + 17 * c + 9) a4) 453 (203 + 17 * c + 10) a5
theorem lnV_7 {D F c a2 a3 a4 a5 : Nat} {f : Vw} (hj : c < 8) : vFn (vM MT0 (D + 1)) nb_X11_valleyLine (F + 1) 7 0 [vR 452, vI c, vI a2, vI a3, vI a4, vI a5] [] f = some ((1, 0), vW 3, vup (vup (prV c a2 a3 a4 a5 f) 453 7 (((prV c a2 a3 a4 a5 f) 453 7 + a5) % 4294967296)) 453 1 ((vup (prV c a2 a3 a4 a5 f) 453 7 (((prV c a2 a3 a4 a5 f) 453 7 + a5) % 4294967296) 453 1 + 1) % 4294967296)) :=
  (by (first | (refine (vbnd_1 (v_putsV hj (by decide))).trans ?_) | (refine (vF_g rfl rfl).trans ?_; refine (vF_g rfl rfl).trans ?_; refine (vbnd_1 (v_putsV hj (by decide))).trans ?_) | (refine (vF_g rfl rfl).trans ?_; refine (vbnd_1 (v_putsV hj (by decide))).trans ?_)); (first | (refine (vbnd_1 (v_putsV hj (by decide))).trans ?_) | (refine (vF_g rfl rfl).trans ?_; refine (vF_g rfl rfl).trans ?_; refine (vbnd_1 (v_putsV hj (by decide))).trans ?_) | (refine (vF_g rfl rfl).trans ?_; refine (vbnd_1 (v_putsV hj (by decide))).trans ?_)); (first | (refine (vbnd_1 (v_putsV hj (by decide))).trans ?_) | (refine (vF_g rfl rfl).trans ?_; refine (vF_g rfl rfl).trans ?_; refine (vbnd_1 (v_putsV hj (by decide))).trans ?_) | (refine (vF_g rfl rfl).trans ?_; refine (vbnd_1 (v_putsV hj (by decide))).trans ?_)); (first | (refine (vbnd_1 (v_putsV hj (by decide))).trans ?_) | (refine (vF_g rfl rfl).trans ?_; refine (vF_g rfl rfl).trans ?_; refine (vbnd_1 (v_putsV hj (by decide))).trans ?_) | (refine (vF_g rfl rfl).trans ?_; refine (vbnd_1 (v_putsV hj (by decide))).trans ?_)); (first | (exact rfl) | (refine (vF_g rfl rfl).trans ?_; refine (vF_g rfl rfl).trans ?_; exact rfl) | (refine (vF_g rfl rfl).trans ?_; refine (vF_g rfl rfl).trans ?_; refine (vF_g rfl rfl).trans ?_; exact rfl) | (refine (vF_g rfl rfl).trans ?_; exact rfl)))
theorem v_lineV {D : Nat} {n c d p : Nat} {T : Nat → Nat} {E V : Nat → Nat → Nat} {f : Vw} (h : RS n T E V c d p f) (hk : tK T p = 1) : (∃ g p5, vM MT0 (D + 5) 249 [vR 452] (rkv f T p) = some ((1, 0), vW 3, g) ∧ RS n T E (ad V d (rwE T (tE T p))) c (d + 1) p5 g ∧ oValley T (fun j => V j 0) d (tS T p) (tE T p) = oS T p5 fun p => (0, p)) ∨ (∃ g e q, vM MT0 (D + 5) 249 [vR 452] (rkv f T p) = some ((1, 0), vW 3, g) ∧ ERR e q g ∧ oValley T (fun j => V j 0) d (tS T p) (tE T p) = (e, q)) := by
  have hr := rs_rkv h
  have e20 : rkv f T p 452 20 = 0 := hr.er.1
  have hn := h.tx.1
  have hE := tE_ge h.tx.2.2.2.2 h.le
  have hz := tZ_E hk
  unfold oValley
  by_cases hc : 8 ≤ d
  · rw [if_pos hc]
    have hc9 := h.d9
    have m : vM MT0 (D + 4) 230 [vR 452, vI 0, vI 4] (rkv f T p) = some ((1, 0), vW 3, flR 4 (rkv f T p)) := by
      rw [v_must (Or.inl rfl) (by rw [e20]; decide), if_pos ⟨rfl, e20⟩]
    exact Or.inr ⟨_, 4, tS T p, vM_go rfl rfl rfl rfl fun F hF => (by (first | (refine (vge2 (x := rkv f T p 453 1) (y := 8) (by rw [hr.d0]; omega) (by rw [hr.d0]; exact hc)).trans ?_) | (refine (vF_g rfl rfl).trans ?_; refine (vF_g rfl rfl).trans ?_; refine (vge2 (x := rkv f T p 453 1) (y := 8) (by rw [hr.d0]; omega) (by rw [hr.d0]; exact hc)).trans ?_) | (refine (vF_g rfl rfl).trans ?_; refine (vge2 (x := rkv f T p 453 1) (y := 8) (by rw [hr.d0]; omega) (by rw [hr.d0]; exact hc)).trans ?_)); (first | (refine (vbnd_1 m).trans ?_) | (refine (vF_g rfl rfl).trans ?_; refine (vF_g rfl rfl).trans ?_; refine (vbnd_1 m).trans ?_) | (refine (vF_g rfl rfl).trans ?_; refine (vbnd_1 m).trans ?_)); (first | (refine (vne (x := flR 4 (rkv f T p) 452 20) (y := 0) (by rw [flR_20]; decide) (by decide) (by rw [flR_20]; decide)).trans ?_) | (refine (vF_g rfl rfl).trans ?_; refine (vF_g rfl rfl).trans ?_; refine (vne (x := flR 4 (rkv f T p) 452 20) (y := 0) (by rw [flR_20]; decide) (by decide) (by rw [flR_20]; decide)).trans ?_) | (refine (vF_g rfl rfl).trans ?_; refine (vne (x := flR 4 (rkv f T p) 452 20) (y := 0) (by rw [flR_20]; decide) (by decide) (by rw [flR_20]; decide)).trans ?_)); (first | (exact rfl) | (refine (vF_g rfl rfl).trans ?_; refine (vF_g rfl rfl).trans ?_; exact rfl) | (refine (vF_g rfl rfl).trans ?_; refine (vF_g rfl rfl).trans ?_; refine (vF_g rfl rfl).trans ?_; exact rfl) | (refine (vF_g rfl rfl).trans ?_; exact rfl))), err_fl rkv_18 (by decide) (by decide), rfl⟩
  rw [if_neg hc]
  have hj : d < 8 := by omega
  have m : vM MT0 (D + 4) 230 [vR 452, vI 1, vI 4] (rkv f T p) = some ((1, 0), vW 3, rkv f T p) := by
    rw [v_must (Or.inr rfl) (by rw [e20]; decide), if_neg (fun w => by cases w.1)]
  have s0 : ∀ r, (∀ F, vFn (vM MT0 (D + 4)) nb_X11_valleyLine (F + 57) 5 0 [vR 452, vW 3, vW 3, vW 3, vW 3, vW 3] [] (rkv f T p) = r) → vM MT0 (D + 5) 249 [vR 452] (rkv f T p) = r := fun r hr9 => vM_go rfl rfl rfl rfl fun F hF => (by (first | (refine (vlt (x := rkv f T p 453 1) (y := 8) (by decide) (by rw [hr.d0]; exact hj)).trans ?_) | (refine (vF_g rfl rfl).trans ?_; refine (vF_g rfl rfl).trans ?_; refine (vlt (x := rkv f T p 453 1) (y := 8) (by decide) (by rw [hr.d0]; exact hj)).trans ?_) | (refine (vF_g rfl rfl).trans ?_; refine (vlt (x := rkv f T p 453 1) (y := 8) (by decide) (by rw [hr.d0]; exact hj)).trans ?_)); (first | (refine (vbnd_1 m).trans ?_) | (refine (vF_g rfl rfl).trans ?_; refine (vF_g rfl rfl).trans ?_; refine (vbnd_1 m).trans ?_) | (refine (vF_g rfl rfl).trans ?_; refine (vbnd_1 m).trans ?_)); (first | (refine (veq e20).trans ?_) | (refine (vF_g rfl rfl).trans ?_; refine (vF_g rfl rfl).trans ?_; refine (veq e20).trans ?_) | (refine (vF_g rfl rfl).trans ?_; refine (veq e20).trans ?_)); (first | (exact (hr9 F)) | (refine (vF_g rfl rfl).trans ?_; refine (vF_g rfl rfl).trans ?_; exact (hr9 F)) | (refine (vF_g rfl rfl).trans ?_; exact (hr9 F))))
  have e0 : vM MT0 (D + 4) 232 [vR 452] (rkv f T p) = some ((1, 0), vW 3, vup (rkv f T p) 452 17 (tE T p)) := by
    rw [v_goesPast, rkv_18, rkv_19, hz, Nat.mod_eq_of_lt (by omega)]
  have r0 : RS n T E V c d (tE T p) (vup (rkv f T p) 452 17 (tE T p)) := rs_past hr hE.2
  generalize vup (rkv f T p) 452 17 (tE T p) = g0 at e0 r0
  have ep := v_placeV (D := D + 3) (j := d) (f := g0) (by omega)
  obtain ⟨w1, w2, w3⟩ := v_newNameV (D := D) r0 hj
  by_cases k1 : nOK T (tE T p)
  rotate_left
  · rw [oNew_2 k1]
    obtain ⟨g, e, hg⟩ := w1 k1
    exact Or.inr ⟨g, 1, _, s0 _ (fun F => lnV_5 e0 r0.d0 ep e (e_number hg) (e_number hg) (e_number hg) (e_number hg) ((by (first | (refine (vne (x := g 452 20) (y := 0) (by rw [hg.1]; exact hg.2.2.2) (by decide) (by rw [hg.1]; exact hg.2.2.1)).trans ?_) | (refine (vF_g rfl rfl).trans ?_; refine (vF_g rfl rfl).trans ?_; refine (vne (x := g 452 20) (y := 0) (by rw [hg.1]; exact hg.2.2.2) (by decide) (by rw [hg.1]; exact hg.2.2.1)).trans ?_) | (refine (vF_g rfl rfl).trans ?_; refine (vne (x := g 452 20) (y := 0) (by rw [hg.1]; exact hg.2.2.2) (by decide) (by rw [hg.1]; exact hg.2.2.1)).trans ?_)); (first | (exact rfl) | (refine (vF_g rfl rfl).trans ?_; refine (vF_g rfl rfl).trans ?_; exact rfl) | (refine (vF_g rfl rfl).trans ?_; refine (vF_g rfl rfl).trans ?_; refine (vF_g rfl rfl).trans ?_; exact rfl) | (refine (vF_g rfl rfl).trans ?_; exact rfl))))), hg, rfl⟩
  by_cases k2 : fidx (fun j => V j 0) (pkr (tN T (tE T p))) d 0 = 4294967295
  rotate_left
  · rw [oNew_1 k1 k2]
    obtain ⟨g, e, hg⟩ := w2 k1 k2
    exact Or.inr ⟨g, 3, _, s0 _ (fun F => lnV_5 e0 r0.d0 ep e (e_number hg) (e_number hg) (e_number hg) (e_number hg) ((by (first | (refine (vne (x := g 452 20) (y := 0) (by rw [hg.1]; exact hg.2.2.2) (by decide) (by rw [hg.1]; exact hg.2.2.1)).trans ?_) | (refine (vF_g rfl rfl).trans ?_; refine (vF_g rfl rfl).trans ?_; refine (vne (x := g 452 20) (y := 0) (by rw [hg.1]; exact hg.2.2.2) (by decide) (by rw [hg.1]; exact hg.2.2.1)).trans ?_) | (refine (vF_g rfl rfl).trans ?_; refine (vne (x := g 452 20) (y := 0) (by rw [hg.1]; exact hg.2.2.2) (by decide) (by rw [hg.1]; exact hg.2.2.1)).trans ?_)); (first | (exact rfl) | (refine (vF_g rfl rfl).trans ?_; refine (vF_g rfl rfl).trans ?_; exact rfl) | (refine (vF_g rfl rfl).trans ?_; refine (vF_g rfl rfl).trans ?_; refine (vF_g rfl rfl).trans ?_; exact rfl) | (refine (vF_g rfl rfl).trans ?_; exact rfl))))), hg, rfl⟩
  rw [oNew_0 k1 k2]
  obtain ⟨g1, e1, r1, nm1⟩ := w3 k1 k2
  obtain ⟨u1, u2⟩ := v_numR (D := D + 1) (lo := 1) (hi := 9) r1 (by decide) (by decide)
  by_cases k3 : nuC T (tE T (tE T p)) 1 9 = 0
  rotate_left
  · rw [oN_1 k3]
    obtain ⟨g, e, hg⟩ := u2 k3
    exact Or.inr ⟨g, _, _, s0 _ (fun F => lnV_5 e0 r0.d0 ep e1 e (e_number hg) (e_number hg) (e_number hg) ((by (first | (refine (vne (x := g 452 20) (y := 0) (by rw [hg.1]; exact hg.2.2.2) (by decide) (by rw [hg.1]; exact hg.2.2.1)).trans ?_) | (refine (vF_g rfl rfl).trans ?_; refine (vF_g rfl rfl).trans ?_; refine (vne (x := g 452 20) (y := 0) (by rw [hg.1]; exact hg.2.2.2) (by decide) (by rw [hg.1]; exact hg.2.2.1)).trans ?_) | (refine (vF_g rfl rfl).trans ?_; refine (vne (x := g 452 20) (y := 0) (by rw [hg.1]; exact hg.2.2.2) (by decide) (by rw [hg.1]; exact hg.2.2.1)).trans ?_)); (first | (exact rfl) | (refine (vF_g rfl rfl).trans ?_; refine (vF_g rfl rfl).trans ?_; exact rfl) | (refine (vF_g rfl rfl).trans ?_; refine (vF_g rfl rfl).trans ?_; refine (vF_g rfl rfl).trans ?_; exact rfl) | (refine (vF_g rfl rfl).trans ?_; exact rfl))))), hg, rfl⟩
  rw [oN_0 k3]
  obtain ⟨g2, e2, r2, f2, v2⟩ := u1 k3
  clear u1 u2
  obtain ⟨u1, u2⟩ := v_numR (D := D + 1) (lo := 1) (hi := 3) r2 (by decide) (by decide)
  by_cases k4 : nuC T (tE T (tE T (tE T p))) 1 3 = 0
  rotate_left
  · rw [oN_1 k4]
    obtain ⟨g, e, hg⟩ := u2 k4
    exact Or.inr ⟨g, _, _, s0 _ (fun F => lnV_5 e0 r0.d0 ep e1 e2 e (e_number hg) (e_number hg) ((by (first | (refine (vne (x := g 452 20) (y := 0) (by rw [hg.1]; exact hg.2.2.2) (by decide) (by rw [hg.1]; exact hg.2.2.1)).trans ?_) | (refine (vF_g rfl rfl).trans ?_; refine (vF_g rfl rfl).trans ?_; refine (vne (x := g 452 20) (y := 0) (by rw [hg.1]; exact hg.2.2.2) (by decide) (by rw [hg.1]; exact hg.2.2.1)).trans ?_) | (refine (vF_g rfl rfl).trans ?_; refine (vne (x := g 452 20) (y := 0) (by rw [hg.1]; exact hg.2.2.2) (by decide) (by rw [hg.1]; exact hg.2.2.1)).trans ?_)); (first | (exact rfl) | (refine (vF_g rfl rfl).trans ?_; refine (vF_g rfl rfl).trans ?_; exact rfl) | (refine (vF_g rfl rfl).trans ?_; refine (vF_g rfl rfl).trans ?_; refine (vF_g rfl rfl).trans ?_; exact rfl) | (refine (vF_g rfl rfl).trans ?_; exact rfl))))), hg, rfl⟩
  rw [oN_0 k4]
  obtain ⟨g3, e3, r3, f3, v3⟩ := u1 k4
  clear u1 u2
  obtain ⟨u1, u2⟩ := v_numR (D := D + 1) (lo := 1) (hi := 99) r3 (by decide) (by decide)
  by_cases k5 : nuC T (tE T (tE T (tE T (tE T p)))) 1 99 = 0
  rotate_left
  · rw [oN_1 k5]
    obtain ⟨g, e, hg⟩ := u2 k5
    exact Or.inr ⟨g, _, _, s0 _ (fun F => lnV_5 e0 r0.d0 ep e1 e2 e3 e (e_number hg) ((by (first | (refine (vne (x := g 452 20) (y := 0) (by rw [hg.1]; exact hg.2.2.2) (by decide) (by rw [hg.1]; exact hg.2.2.1)).trans ?_) | (refine (vF_g rfl rfl).trans ?_; refine (vF_g rfl rfl).trans ?_; refine (vne (x := g 452 20) (y := 0) (by rw [hg.1]; exact hg.2.2.2) (by decide) (by rw [hg.1]; exact hg.2.2.1)).trans ?_) | (refine (vF_g rfl rfl).trans ?_; refine (vne (x := g 452 20) (y := 0) (by rw [hg.1]; exact hg.2.2.2) (by decide) (by rw [hg.1]; exact hg.2.2.1)).trans ?_)); (first | (exact rfl) | (refine (vF_g rfl rfl).trans ?_; refine (vF_g rfl rfl).trans ?_; exact rfl) | (refine (vF_g rfl rfl).trans ?_; refine (vF_g rfl rfl).trans ?_; refine (vF_g rfl rfl).trans ?_; exact rfl) | (refine (vF_g rfl rfl).trans ?_; exact rfl))))), hg, rfl⟩
  rw [oN_0 k5]
  obtain ⟨g4, e4, r4, f4, v4⟩ := u1 k5
  clear u1 u2
  obtain ⟨u1, u2⟩ := v_numR (D := D + 1) (lo := 0) (hi := 9999) r4 (by decide) (by decide)
  by_cases k6 : nuC T (tE T (tE T (tE T (tE T (tE T p))))) 0 9999 = 0
  rotate_left
  · rw [oN_1 k6]
    obtain ⟨g, e, hg⟩ := u2 k6
    exact Or.inr ⟨g, _, _, s0 _ (fun F => lnV_5 e0 r0.d0 ep e1 e2 e3 e4 e  ((by (first | (refine (vne (x := g 452 20) (y := 0) (by rw [hg.1]; exact hg.2.2.2) (by decide) (by rw [hg.1]; exact hg.2.2.1)).trans ?_) | (refine (vF_g rfl rfl).trans ?_; refine (vF_g rfl rfl).trans ?_; refine (vne (x := g 452 20) (y := 0) (by rw [hg.1]; exact hg.2.2.2) (by decide) (by rw [hg.1]; exact hg.2.2.1)).trans ?_) | (refine (vF_g rfl rfl).trans ?_; refine (vne (x := g 452 20) (y := 0) (by rw [hg.1]; exact hg.2.2.2) (by decide) (by rw [hg.1]; exact hg.2.2.1)).trans ?_)); (first | (exact rfl) | (refine (vF_g rfl rfl).trans ?_; refine (vF_g rfl rfl).trans ?_; exact rfl) | (refine (vF_g rfl rfl).trans ?_; refine (vF_g rfl rfl).trans ?_; refine (vF_g rfl rfl).trans ?_; exact rfl) | (refine (vF_g rfl rfl).trans ?_; exact rfl))))), hg, rfl⟩
  rw [oN_0 k6]
  obtain ⟨g5, e5, r5, f5, v5⟩ := u1 k6
  clear u1 u2
  have fr : ∀ b, g5 453 b = g1 453 b := fun b => (f5 _ _ (by decide)).trans ((f4 _ _ (by decide)).trans ((f3 _ _ (by decide)).trans (f2 _ _ (by decide))))
  have e9 := fun F => lnV_7 (D := D + 3) (F := F + 55) (c := d) (a2 := rwE T (tE T p) 1) (a3 := rwE T (tE T p) 2) (a4 := rwE T (tE T p) 3) (a5 := rwE T (tE T p) 4) (f := g5) hj
  have rp : RS n T E V c d (tE T (tE T (tE T (tE T (tE T (tE T p)))))) (prV d (rwE T (tE T p) 1) (rwE T (tE T p) 2) (rwE T (tE T p) 3) (rwE T (tE T p) 4) g5) := rs_puV (rs_puV (rs_puV (rs_puV r5 (by omega) (by omega) hj) (by omega) (by omega) hj) (by omega) (by omega) hj) (by omega) (by omega) hj
  have nm : nmRow (prV d (rwE T (tE T p) 1) (rwE T (tE T p) 2) (rwE T (tE T p) 3) (rwE T (tE T p) 4) g5) (203 + 17 * d) (rwE T (tE T p) 0) := nmRow_of nm1 (fun y hy => (vup_ne (Or.inr (by omega))).trans ((vup_ne (Or.inr (by omega))).trans ((vup_ne (Or.inr (by omega))).trans ((vup_ne (Or.inr (by omega))).trans (fr _)))))
  have vs : ∀ i, 1 ≤ i → i ≤ 4 → prV d (rwE T (tE T p) 1) (rwE T (tE T p) 2) (rwE T (tE T p) 3) (rwE T (tE T p) 4) g5 453 (209 + 17 * d + i) = rwE T (tE T p) i := by
    intro i hi hi2
    rcases (show i = 1 ∨ i = 2 ∨ i = 3 ∨ i = 4 by omega) with rfl | rfl | rfl | rfl
    · rw [show 209 + 17 * d + 1 = 203 + 17 * d + 7 by omega]
      exact (vup_ne (Or.inr (by omega))).trans ((vup_ne (Or.inr (by omega))).trans ((vup_ne (Or.inr (by omega))).trans vup_eq))
    · rw [show 209 + 17 * d + 2 = 203 + 17 * d + 8 by omega]
      exact (vup_ne (Or.inr (by omega))).trans ((vup_ne (Or.inr (by omega))).trans vup_eq)
    · rw [show 209 + 17 * d + 3 = 203 + 17 * d + 9 by omega]
      exact (vup_ne (Or.inr (by omega))).trans vup_eq
    · rw [show 209 + 17 * d + 4 = 203 + 17 * d + 10 by omega]
      exact vup_eq
  generalize prV d (rwE T (tE T p) 1) (rwE T (tE T p) 2) (rwE T (tE T p) 3) (rwE T (tE T p) 4) g5 = gg at e9 rp nm vs
  have q7 : ∀ y, RS n T E V c d (tE T (tE T (tE T (tE T (tE T (tE T p)))))) (vup gg 453 7 y) := fun y => rs_of rp (vup_ne (Or.inl (by decide))) (fun _ => vup_ne (Or.inl (by decide))) ((vup_ne (Or.inl (by decide))).trans rp.at_) rp.le (vup_ne (Or.inl (by decide))) (vup_ne (Or.inl (by decide))) (vup_ne (Or.inr (by decide))) (vup_ne (Or.inr (by decide))) (fun y hy hy2 => vup_ne (Or.inr (by omega))) (fun y hy hy2 => vup_ne (Or.inr (by omega)))
  rw [(q7 _).d0, Nat.mod_eq_of_lt (show d + 1 < 4294967296 by omega)] at e9
  exact Or.inl ⟨_, _, s0 _ (fun F => lnV_5 e0 r0.d0 ep e1 e2 e3 e4 e5 ((by (first | (refine (veq r5.er.1).trans ?_) | (refine (vF_g rfl rfl).trans ?_; refine (vF_g rfl rfl).trans ?_; refine (veq r5.er.1).trans ?_) | (refine (vF_g rfl rfl).trans ?_; refine (veq r5.er.1).trans ?_)); (first | (exact (e9 F)) | (refine (vF_g rfl rfl).trans ?_; refine (vF_g rfl rfl).trans ?_; exact (e9 F)) | (refine (vF_g rfl rfl).trans ?_; exact (e9 F)))))), rs_addV (q7 _) hj (nmRow_of nm (fun y hy => vup_ne (Or.inr (by omega)))) (fun i hi hi2 => (vup_ne (Or.inr (by omega))).trans (vs i hi hi2)), rfl⟩
/-! a test, a statement -/
theorem v_pair {D a b : Nat} {f : Vw} (ha : a < 8) (hb : b < 12) : vM MT0 (D + 1) 185 [vI a, vI b, vI 0] f = some ((0, 0), vI (339 + 3 * (12 * a + b)), f) := by
  refine vM_go rfl rfl rfl rfl fun F hF => ?_
  (first | (refine Eq.trans (b := some ((0, 0), vI (((339 + g_imul 3 ((g_imul 12 a + b) % 4294967296)) % 4294967296 + 0) % 4294967296), f)) rfl ?_) | (refine (vF_g rfl rfl).trans ?_; refine (vF_g rfl rfl).trans ?_; refine Eq.trans (b := some ((0, 0), vI (((339 + g_imul 3 ((g_imul 12 a + b) % 4294967296)) % 4294967296 + 0) % 4294967296), f)) rfl ?_) | (refine (vF_g rfl rfl).trans ?_; refine Eq.trans (b := some ((0, 0), vI (((339 + g_imul 3 ((g_imul 12 a + b) % 4294967296)) % 4294967296 + 0) % 4294967296), f)) rfl ?_))
  rw [g_imul_s (show 12 * a < 2147483648 by omega) (by decide) (by omega), Nat.mod_eq_of_lt (show 12 * a + b < 4294967296 by omega), g_imul_s (show 3 * (12 * a + b) < 2147483648 by omega) (by decide) (by omega), Nat.add_zero, Nat.mod_eq_of_lt (show 339 + 3 * (12 * a + b) < 4294967296 by omega), Nat.mod_eq_of_lt (show 339 + 3 * (12 * a + b) < 4294967296 by omega)]
theorem tsl_0 {D F a b : Nat} {f g0 g1 g2 : Vw} {r : Option VR} (e0 : vM MT0 D 232 [vR 452] f = some ((1, 0), vW 3, g0)) (e1 : vM MT0 D 241 [vR 452, vI 1] g0 = some ((0, 0), vI a, g1)) (e2 : vM MT0 D 241 [vR 452, vI 0] g1 = some ((0, 0), vI b, g2)) (e3 : vc3 (bv (g2 452 20)) (bv 0) (vFn (vM MT0 D) nb_X11_testedLine F 2 0 [vR 452, vI a, vI b] [] g2) (vFn (vM MT0 D) nb_X11_testedLine F 1 0 [vR 452, vI a, vI b] [] g2) (vFn (vM MT0 D) nb_X11_testedLine F 2 0 [vR 452, vI a, vI b] [] g2) = r) : vFn (vM MT0 D) nb_X11_testedLine (F + 1) 0 0 [vR 452, vW 3, vW 3] [] f = r := (by (first | (refine (vbnd_1 e0).trans ?_) | (refine (vF_g rfl rfl).trans ?_; refine (vF_g rfl rfl).trans ?_; refine (vbnd_1 e0).trans ?_) | (refine (vF_g rfl rfl).trans ?_; refine (vbnd_1 e0).trans ?_)); (first | (refine (vbnd_0 e1).trans ?_) | (refine (vF_g rfl rfl).trans ?_; refine (vF_g rfl rfl).trans ?_; refine (vbnd_0 e1).trans ?_) | (refine (vF_g rfl rfl).trans ?_; refine (vbnd_0 e1).trans ?_)); (first | (refine (vbnd_0 e2).trans ?_) | (refine (vF_g rfl rfl).trans ?_; refine (vF_g rfl rfl).trans ?_; refine (vbnd_0 e2).trans ?_) | (refine (vF_g rfl rfl).trans ?_; refine (vbnd_0 e2).trans ?_)); (first | (exact e3) | (refine (vF_g rfl rfl).trans ?_; refine (vF_g rfl rfl).trans ?_; exact e3) | (refine (vF_g rfl rfl).trans ?_; exact e3)))
theorem tsl_1 {D F a b : Nat} {f : Vw} (ha : a < 8) (hb : b < 12) : vFn (vM MT0 (D + 1)) nb_X11_testedLine (F + 2) 1 0 [vR 452, vI a, vI b] [] f = some ((1, 0), vW 3, vup f 453 (339 + 3 * (12 * a + b)) 1) := by
  (first | (refine (vbnd_0 (v_pair ha hb)).trans ?_) | (refine (vF_g rfl rfl).trans ?_; refine (vF_g rfl rfl).trans ?_; refine (vbnd_0 (v_pair ha hb)).trans ?_) | (refine (vF_g rfl rfl).trans ?_; refine (vbnd_0 (v_pair ha hb)).trans ?_))
  (first | (refine Eq.trans (b := gd (Nat.ble (339 + 3 * (12 * a + b) + 1) 627) (vFn (vM MT0 (D + 1)) nb_X11_testedLine (F + 1) 2 0 [vR 452, vI a, vI b] [] (vup f 453 (339 + 3 * (12 * a + b)) 1))) rfl ?_) | (refine (vF_g rfl rfl).trans ?_; refine (vF_g rfl rfl).trans ?_; refine Eq.trans (b := gd (Nat.ble (339 + 3 * (12 * a + b) + 1) 627) (vFn (vM MT0 (D + 1)) nb_X11_testedLine (F + 1) 2 0 [vR 452, vI a, vI b] [] (vup f 453 (339 + 3 * (12 * a + b)) 1))) rfl ?_) | (refine (vF_g rfl rfl).trans ?_; refine Eq.trans (b := gd (Nat.ble (339 + 3 * (12 * a + b) + 1) 627) (vFn (vM MT0 (D + 1)) nb_X11_testedLine (F + 1) 2 0 [vR 452, vI a, vI b] [] (vup f 453 (339 + 3 * (12 * a + b)) 1))) rfl ?_))
  rw [Nat.ble_eq_true_of_le (show 339 + 3 * (12 * a + b) + 1 ≤ 627 by omega)]
  (first | (exact rfl) | (refine (vF_g rfl rfl).trans ?_; refine (vF_g rfl rfl).trans ?_; exact rfl) | (refine (vF_g rfl rfl).trans ?_; refine (vF_g rfl rfl).trans ?_; refine (vF_g rfl rfl).trans ?_; exact rfl) | (refine (vF_g rfl rfl).trans ?_; exact rfl))
theorem v_lineT {D : Nat} {n c d p : Nat} {T : Nat → Nat} {E V : Nat → Nat → Nat} {f : Vw} (h : RS n T E V c d p f) (hk : tK T p = 1) : (∃ g p5, vM MT0 (D + 5) 250 [vR 452] (rkv f T p) = some ((1, 0), vW 3, g) ∧ RS n T E V c d p5 g ∧ oTest T (fun j => E j 0) (fun j => V j 0) c d (tE T p) = oS T p5 fun p => (0, p)) ∨ (∃ g e q, vM MT0 (D + 5) 250 [vR 452] (rkv f T p) = some ((1, 0), vW 3, g) ∧ ERR e q g ∧ oTest T (fun j => E j 0) (fun j => V j 0) c d (tE T p) = (e, q)) := by
  have hr := rs_rkv h
  have hn := h.tx.1
  have hc9 := h.c9
  have hd9 := h.d9
  have hE := tE_ge h.tx.2.2.2.2 h.le
  have hz := tZ_E hk
  have e0 : vM MT0 (D + 4) 232 [vR 452] (rkv f T p) = some ((1, 0), vW 3, vup (rkv f T p) 452 17 (tE T p)) := by
    rw [v_goesPast, rkv_18, rkv_19, hz, Nat.mod_eq_of_lt (by omega)]
  have r0 : RS n T E V c d (tE T p) (vup (rkv f T p) 452 17 (tE T p)) := rs_past hr hE.2
  generalize vup (rkv f T p) 452 17 (tE T p) = g0 at e0 r0
  unfold oTest
  obtain ⟨w1, w2, w3⟩ := v_mustV (D := D) r0
  by_cases k1 : nOK T (tE T p)
  rotate_left
  · rw [oIt_2 k1]
    obtain ⟨g, e, hg⟩ := w1 k1
    exact Or.inr ⟨g, 1, _, vM_go rfl rfl rfl rfl fun F hF => tsl_0 (F := F + 59) e0 e (e_mustBe hg) ((by (first | (refine (vne (x := g 452 20) (y := 0) (by rw [hg.1]; exact hg.2.2.2) (by decide) (by rw [hg.1]; exact hg.2.2.1)).trans ?_) | (refine (vF_g rfl rfl).trans ?_; refine (vF_g rfl rfl).trans ?_; refine (vne (x := g 452 20) (y := 0) (by rw [hg.1]; exact hg.2.2.2) (by decide) (by rw [hg.1]; exact hg.2.2.1)).trans ?_) | (refine (vF_g rfl rfl).trans ?_; refine (vne (x := g 452 20) (y := 0) (by rw [hg.1]; exact hg.2.2.2) (by decide) (by rw [hg.1]; exact hg.2.2.1)).trans ?_)); (first | (exact rfl) | (refine (vF_g rfl rfl).trans ?_; refine (vF_g rfl rfl).trans ?_; exact rfl) | (refine (vF_g rfl rfl).trans ?_; refine (vF_g rfl rfl).trans ?_; refine (vF_g rfl rfl).trans ?_; exact rfl) | (refine (vF_g rfl rfl).trans ?_; exact rfl)))), hg, rfl⟩
  by_cases k2 : fidx (fun j => V j 0) (pkr (tN T (tE T p))) d 0 = 4294967295
  · rw [oIt_1 k1 k2]
    obtain ⟨g, e, hg⟩ := w2 k1 k2
    exact Or.inr ⟨g, 3, _, vM_go rfl rfl rfl rfl fun F hF => tsl_0 (F := F + 59) e0 e (e_mustBe hg) ((by (first | (refine (vne (x := g 452 20) (y := 0) (by rw [hg.1]; exact hg.2.2.2) (by decide) (by rw [hg.1]; exact hg.2.2.1)).trans ?_) | (refine (vF_g rfl rfl).trans ?_; refine (vF_g rfl rfl).trans ?_; refine (vne (x := g 452 20) (y := 0) (by rw [hg.1]; exact hg.2.2.2) (by decide) (by rw [hg.1]; exact hg.2.2.1)).trans ?_) | (refine (vF_g rfl rfl).trans ?_; refine (vne (x := g 452 20) (y := 0) (by rw [hg.1]; exact hg.2.2.2) (by decide) (by rw [hg.1]; exact hg.2.2.1)).trans ?_)); (first | (exact rfl) | (refine (vF_g rfl rfl).trans ?_; refine (vF_g rfl rfl).trans ?_; exact rfl) | (refine (vF_g rfl rfl).trans ?_; refine (vF_g rfl rfl).trans ?_; refine (vF_g rfl rfl).trans ?_; exact rfl) | (refine (vF_g rfl rfl).trans ?_; exact rfl)))), hg, rfl⟩
  rw [oIt_0 k1 k2]
  obtain ⟨g1, e1, r1, _⟩ := w3 k1 k2
  have ha : fidx (fun j => V j 0) (pkr (tN T (tE T p))) d 0 < 8 := by
    rcases fidx_lt (g := fun j => V j 0) (x := pkr (tN T (tE T p))) d 0 with q | ⟨_, q, _⟩
    · exact absurd q k2
    · omega
  obtain ⟨y1, y2, y3⟩ := v_mustE (D := D) r1
  by_cases k3 : nOK T (tE T (tE T p))
  rotate_left
  · rw [oIt_2 k3]
    obtain ⟨g, e, hg⟩ := y1 k3
    exact Or.inr ⟨g, 1, _, vM_go rfl rfl rfl rfl fun F hF => tsl_0 (F := F + 59) e0 e1 e ((by (first | (refine (vne (x := g 452 20) (y := 0) (by rw [hg.1]; exact hg.2.2.2) (by decide) (by rw [hg.1]; exact hg.2.2.1)).trans ?_) | (refine (vF_g rfl rfl).trans ?_; refine (vF_g rfl rfl).trans ?_; refine (vne (x := g 452 20) (y := 0) (by rw [hg.1]; exact hg.2.2.2) (by decide) (by rw [hg.1]; exact hg.2.2.1)).trans ?_) | (refine (vF_g rfl rfl).trans ?_; refine (vne (x := g 452 20) (y := 0) (by rw [hg.1]; exact hg.2.2.2) (by decide) (by rw [hg.1]; exact hg.2.2.1)).trans ?_)); (first | (exact rfl) | (refine (vF_g rfl rfl).trans ?_; refine (vF_g rfl rfl).trans ?_; exact rfl) | (refine (vF_g rfl rfl).trans ?_; refine (vF_g rfl rfl).trans ?_; refine (vF_g rfl rfl).trans ?_; exact rfl) | (refine (vF_g rfl rfl).trans ?_; exact rfl)))), hg, rfl⟩
  by_cases k4 : fidx (fun j => E j 0) (pkr (tN T (tE T (tE T p)))) c 0 = 4294967295
  · rw [oIt_1 k3 k4]
    obtain ⟨g, e, hg⟩ := y2 k3 k4
    exact Or.inr ⟨g, 3, _, vM_go rfl rfl rfl rfl fun F hF => tsl_0 (F := F + 59) e0 e1 e ((by (first | (refine (vne (x := g 452 20) (y := 0) (by rw [hg.1]; exact hg.2.2.2) (by decide) (by rw [hg.1]; exact hg.2.2.1)).trans ?_) | (refine (vF_g rfl rfl).trans ?_; refine (vF_g rfl rfl).trans ?_; refine (vne (x := g 452 20) (y := 0) (by rw [hg.1]; exact hg.2.2.2) (by decide) (by rw [hg.1]; exact hg.2.2.1)).trans ?_) | (refine (vF_g rfl rfl).trans ?_; refine (vne (x := g 452 20) (y := 0) (by rw [hg.1]; exact hg.2.2.2) (by decide) (by rw [hg.1]; exact hg.2.2.1)).trans ?_)); (first | (exact rfl) | (refine (vF_g rfl rfl).trans ?_; refine (vF_g rfl rfl).trans ?_; exact rfl) | (refine (vF_g rfl rfl).trans ?_; refine (vF_g rfl rfl).trans ?_; refine (vF_g rfl rfl).trans ?_; exact rfl) | (refine (vF_g rfl rfl).trans ?_; exact rfl)))), hg, rfl⟩
  rw [oIt_0 k3 k4]
  obtain ⟨g2, e2, r2, _⟩ := y3 k3 k4
  have hb : fidx (fun j => E j 0) (pkr (tN T (tE T (tE T p)))) c 0 < 12 := by
    rcases fidx_lt (g := fun j => E j 0) (x := pkr (tN T (tE T (tE T p)))) c 0 with q | ⟨_, q, _⟩
    · exact absurd q k4
    · omega
  refine Or.inl ⟨_, _, vM_go rfl rfl rfl rfl fun F hF => tsl_0 (F := F + 59) e0 e1 e2 ((by (first | (refine (veq r2.er.1).trans ?_) | (refine (vF_g rfl rfl).trans ?_; refine (vF_g rfl rfl).trans ?_; refine (veq r2.er.1).trans ?_) | (refine (vF_g rfl rfl).trans ?_; refine (veq r2.er.1).trans ?_)); (first | (exact (tsl_1 ha hb)) | (refine (vF_g rfl rfl).trans ?_; refine (vF_g rfl rfl).trans ?_; exact (tsl_1 ha hb)) | (refine (vF_g rfl rfl).trans ?_; exact (tsl_1 ha hb))))), ?_, rfl⟩
  exact rs_of r2 (vup_ne (Or.inl (by decide))) (fun _ => vup_ne (Or.inl (by decide))) ((vup_ne (Or.inl (by decide))).trans r2.at_) r2.le (vup_ne (Or.inl (by decide))) (vup_ne (Or.inl (by decide))) (vup_ne (Or.inr (by omega))) (vup_ne (Or.inr (by omega))) (fun y hy hy2 => vup_ne (Or.inr (by omega))) (fun y hy hy2 => vup_ne (Or.inr (by omega)))
end
section
/-! the reference's statements, its fog, its load -/
theorem semi_end {D F n c d p : Nat} {T : Nat → Nat} {E V : Nat → Nat → Nat} {g : Vw} (h : RS n T E V c d p g) : (tK T p = 3 → ∃ g', vFn (vM MT0 (D + 3)) nb_X11_statement (F + 1) 7 0 [vR 452, vW 3] [] g = some ((1, 0), vW 3, g') ∧ RS n T E V c d (tE T p) g') ∧ (tK T p ≠ 3 → ∃ g', vFn (vM MT0 (D + 3)) nb_X11_statement (F + 1) 7 0 [vR 452, vW 3] [] g = some ((1, 0), vW 3, g') ∧ ERR 1 (tS T p) g') := by
  obtain ⟨w1, w2⟩ := v_semiR (D := D) h
  refine ⟨fun k => ?_, fun k => ?_⟩
  · obtain ⟨g', e, hg, _⟩ := w1 k
    exact ⟨g', (by (first | (refine (vbnd_1 e).trans ?_) | (refine (vF_g rfl rfl).trans ?_; refine (vF_g rfl rfl).trans ?_; refine (vbnd_1 e).trans ?_) | (refine (vF_g rfl rfl).trans ?_; refine (vbnd_1 e).trans ?_)); (first | (exact rfl) | (refine (vF_g rfl rfl).trans ?_; refine (vF_g rfl rfl).trans ?_; exact rfl) | (refine (vF_g rfl rfl).trans ?_; refine (vF_g rfl rfl).trans ?_; refine (vF_g rfl rfl).trans ?_; exact rfl) | (refine (vF_g rfl rfl).trans ?_; exact rfl))), hg⟩
  · obtain ⟨g', e, hg⟩ := w2 k
    exact ⟨g', (by (first | (refine (vbnd_1 e).trans ?_) | (refine (vF_g rfl rfl).trans ?_; refine (vF_g rfl rfl).trans ?_; refine (vbnd_1 e).trans ?_) | (refine (vF_g rfl rfl).trans ?_; refine (vbnd_1 e).trans ?_)); (first | (exact rfl) | (refine (vF_g rfl rfl).trans ?_; refine (vF_g rfl rfl).trans ?_; exact rfl) | (refine (vF_g rfl rfl).trans ?_; refine (vF_g rfl rfl).trans ?_; refine (vF_g rfl rfl).trans ?_; exact rfl) | (refine (vF_g rfl rfl).trans ?_; exact rfl))), hg⟩
theorem semi_err {D F e q : Nat} {g : Vw} (h : ERR e q g) : vFn (vM MT0 (D + 1)) nb_X11_statement (F + 1) 7 0 [vR 452, vW 3] [] g = some ((1, 0), vW 3, g) := (by (first | (refine (vbnd_1 (e_semi h)).trans ?_) | (refine (vF_g rfl rfl).trans ?_; refine (vF_g rfl rfl).trans ?_; refine (vbnd_1 (e_semi h)).trans ?_) | (refine (vF_g rfl rfl).trans ?_; refine (vbnd_1 (e_semi h)).trans ?_)); (first | (exact rfl) | (refine (vF_g rfl rfl).trans ?_; refine (vF_g rfl rfl).trans ?_; exact rfl) | (refine (vF_g rfl rfl).trans ?_; refine (vF_g rfl rfl).trans ?_; refine (vF_g rfl rfl).trans ?_; exact rfl) | (refine (vF_g rfl rfl).trans ?_; exact rfl)))
/-- a line and its semicolon -/
theorem stm_of {D F n c d : Nat} {T : Nat → Nat} {E V : Nat → Nat → Nat} {o : Nat × Nat} {r : Option VR} {Z : Option VR} (hZ : ∀ g, r = some ((1, 0), vW 3, g) → Z = vFn (vM MT0 (D + 3)) nb_X11_statement (F + 1) 7 0 [vR 452, vW 3] [] g) (h : (∃ g p5, r = some ((1, 0), vW 3, g) ∧ RS n T E V c d p5 g ∧ o = oS T p5 fun p => (0, p)) ∨ (∃ g e q, r = some ((1, 0), vW 3, g) ∧ ERR e q g ∧ o = (e, q))) : (o.1 = 0 → ∃ g, Z = some ((1, 0), vW 3, g) ∧ RS n T E V c d o.2 g) ∧ (o.1 ≠ 0 → ∃ g, Z = some ((1, 0), vW 3, g) ∧ ERR o.1 o.2 g) := by
  rcases h with ⟨g, p5, h1, h2, h3⟩ | ⟨g, e, q, h1, h2, h3⟩
  · rw [hZ g h1, h3]
    obtain ⟨w1, w2⟩ := semi_end (D := D) (F := F) h2
    by_cases k : tK T p5 = 3
    · rw [oS_0 k]
      exact ⟨fun _ => w1 k, fun w => absurd rfl w⟩
    · rw [oS_1 k]
      exact ⟨fun w => absurd w n01, fun _ => w2 k⟩
  · rw [hZ g h1, h3]
    exact ⟨fun w => absurd w h2.2.2.1, fun _ => ⟨g, semi_err h2, h2⟩⟩
theorem v_stmR {D n c d p : Nat} {T : Nat → Nat} {E V : Nat → Nat → Nat} {f : Vw} (h : RS n T E V c d p f) : ((oStm T c d E V p).1.1 = 0 → ∃ g, vM MT0 (D + 6) 251 [vR 452] f = some ((1, 0), vW 3, g) ∧ RS n T (oStm T c d E V p).2.2.1 (oStm T c d E V p).2.2.2 (oStm T c d E V p).2.1.1 (oStm T c d E V p).2.1.2 (oStm T c d E V p).1.2 g) ∧ ((oStm T c d E V p).1.1 ≠ 0 → ∃ g, vM MT0 (D + 6) 251 [vR 452] f = some ((1, 0), vW 3, g) ∧ ERR (oStm T c d E V p).1.1 (oStm T c d E V p).1.2 g) := by
  obtain ⟨F, hF, go⟩ := vM_at (D := D + 5) (y := 251) (as := [vR 452]) (f := f) rfl rfl rfl rfl
  have hi := tS_i h.tx.1 h.tx.2.2.2.2 h.le
  have a := v_sees (D := D + 2) (w := 28) (by decide) (by decide) h.tx h.at_ h.le h.er.1
  have h1 := rs_rkv h
  generalize hp1 : tS T p = p1 at h1 hi
  have hi1 : tS T p1 = tS T p := hi.trans hp1.symm
  have b := v_sees (D := D + 2) (w := 29) (by decide) (by decide) h1.tx h1.at_ h1.le h1.er.1
  have h2 := rs_rkv h1
  rw [hi] at h2
  have e := v_sees (D := D + 2) (w := 30) (by decide) (by decide) h2.tx h2.at_ h2.le h2.er.1
  have h3 := rs_rkv h2
  by_cases k1 : wOKc T 28 p
  · rw [oStm_e k1]
    rw [if_pos ((wOK_c (by decide)).mp k1)] at a
    exact stm_of (D := D + 2) (F := F + 57) (fun g hg => go _ <| (by (first | (refine (vbnd_0 a).trans ?_) | (refine (vF_g rfl rfl).trans ?_; refine (vF_g rfl rfl).trans ?_; refine (vbnd_0 a).trans ?_) | (refine (vF_g rfl rfl).trans ?_; refine (vbnd_0 a).trans ?_)); (first | (refine (vgt (x := 1) (y := 0) (by decide) (by decide)).trans ?_) | (refine (vF_g rfl rfl).trans ?_; refine (vF_g rfl rfl).trans ?_; refine (vgt (x := 1) (y := 0) (by decide) (by decide)).trans ?_) | (refine (vF_g rfl rfl).trans ?_; refine (vgt (x := 1) (y := 0) (by decide) (by decide)).trans ?_)); (first | (refine (vbnd_1 hg).trans ?_) | (refine (vF_g rfl rfl).trans ?_; refine (vF_g rfl rfl).trans ?_; refine (vbnd_1 hg).trans ?_) | (refine (vF_g rfl rfl).trans ?_; refine (vbnd_1 hg).trans ?_)); (first | (exact rfl) | (refine (vF_g rfl rfl).trans ?_; refine (vF_g rfl rfl).trans ?_; exact rfl) | (refine (vF_g rfl rfl).trans ?_; refine (vF_g rfl rfl).trans ?_; refine (vF_g rfl rfl).trans ?_; exact rfl) | (refine (vF_g rfl rfl).trans ?_; exact rfl)))) (v_lineE (D := D) h k1.1)
  · rw [if_neg (fun w => k1 ((wOK_c (by decide)).mpr w))] at a
    have n1 : ¬ wOKc T 28 p1 := fun w => k1 ((w_i hi1).mp w)
    by_cases k2 : wOKc T 29 p
    · have k2' := (w_i hi1).mpr k2
      rw [oStm_v k1 k2, ← tE_i hi1, ← hi1]
      rw [if_pos ((wOK_c (by decide)).mp k2')] at b
      exact stm_of (D := D + 2) (F := F + 56) (fun g hg => go _ <| (by (first | (refine (vbnd_0 a).trans ?_) | (refine (vF_g rfl rfl).trans ?_; refine (vF_g rfl rfl).trans ?_; refine (vbnd_0 a).trans ?_) | (refine (vF_g rfl rfl).trans ?_; refine (vbnd_0 a).trans ?_)); (first | (refine (veq (x := 0) (y := 0) rfl).trans ?_) | (refine (vF_g rfl rfl).trans ?_; refine (vF_g rfl rfl).trans ?_; refine (veq (x := 0) (y := 0) rfl).trans ?_) | (refine (vF_g rfl rfl).trans ?_; refine (veq (x := 0) (y := 0) rfl).trans ?_)); (first | (refine (vbnd_0 b).trans ?_) | (refine (vF_g rfl rfl).trans ?_; refine (vF_g rfl rfl).trans ?_; refine (vbnd_0 b).trans ?_) | (refine (vF_g rfl rfl).trans ?_; refine (vbnd_0 b).trans ?_)); (first | (refine (vgt (x := 1) (y := 0) (by decide) (by decide)).trans ?_) | (refine (vF_g rfl rfl).trans ?_; refine (vF_g rfl rfl).trans ?_; refine (vgt (x := 1) (y := 0) (by decide) (by decide)).trans ?_) | (refine (vF_g rfl rfl).trans ?_; refine (vgt (x := 1) (y := 0) (by decide) (by decide)).trans ?_)); (first | (refine (vbnd_1 hg).trans ?_) | (refine (vF_g rfl rfl).trans ?_; refine (vF_g rfl rfl).trans ?_; refine (vbnd_1 hg).trans ?_) | (refine (vF_g rfl rfl).trans ?_; refine (vbnd_1 hg).trans ?_)); (first | (exact rfl) | (refine (vF_g rfl rfl).trans ?_; refine (vF_g rfl rfl).trans ?_; exact rfl) | (refine (vF_g rfl rfl).trans ?_; refine (vF_g rfl rfl).trans ?_; refine (vF_g rfl rfl).trans ?_; exact rfl) | (refine (vF_g rfl rfl).trans ?_; exact rfl)))) (v_lineV (D := D) h1 k2'.1)
    · have n2 : ¬ wOKc T 29 p1 := fun w => k2 ((w_i hi1).mp w)
      rw [if_neg (fun w => n2 ((wOK_c (by decide)).mpr w))] at b
      by_cases k3 : wOKc T 30 p
      · have k3' := (w_i hi1).mpr k3
        rw [oStm_t k1 k2 k3, ← tE_i hi1]
        rw [if_pos ((wOK_c (by decide)).mp k3')] at e
        exact stm_of (D := D + 2) (F := F + 55) (fun g hg => go _ <| (by (first | (refine (vbnd_0 a).trans ?_) | (refine (vF_g rfl rfl).trans ?_; refine (vF_g rfl rfl).trans ?_; refine (vbnd_0 a).trans ?_) | (refine (vF_g rfl rfl).trans ?_; refine (vbnd_0 a).trans ?_)); (first | (refine (veq (x := 0) (y := 0) rfl).trans ?_) | (refine (vF_g rfl rfl).trans ?_; refine (vF_g rfl rfl).trans ?_; refine (veq (x := 0) (y := 0) rfl).trans ?_) | (refine (vF_g rfl rfl).trans ?_; refine (veq (x := 0) (y := 0) rfl).trans ?_)); (first | (refine (vbnd_0 b).trans ?_) | (refine (vF_g rfl rfl).trans ?_; refine (vF_g rfl rfl).trans ?_; refine (vbnd_0 b).trans ?_) | (refine (vF_g rfl rfl).trans ?_; refine (vbnd_0 b).trans ?_)); (first | (refine (veq (x := 0) (y := 0) rfl).trans ?_) | (refine (vF_g rfl rfl).trans ?_; refine (vF_g rfl rfl).trans ?_; refine (veq (x := 0) (y := 0) rfl).trans ?_) | (refine (vF_g rfl rfl).trans ?_; refine (veq (x := 0) (y := 0) rfl).trans ?_)); (first | (refine (vbnd_0 e).trans ?_) | (refine (vF_g rfl rfl).trans ?_; refine (vF_g rfl rfl).trans ?_; refine (vbnd_0 e).trans ?_) | (refine (vF_g rfl rfl).trans ?_; refine (vbnd_0 e).trans ?_)); (first | (refine (vgt (x := 1) (y := 0) (by decide) (by decide)).trans ?_) | (refine (vF_g rfl rfl).trans ?_; refine (vF_g rfl rfl).trans ?_; refine (vgt (x := 1) (y := 0) (by decide) (by decide)).trans ?_) | (refine (vF_g rfl rfl).trans ?_; refine (vgt (x := 1) (y := 0) (by decide) (by decide)).trans ?_)); (first | (refine (vbnd_1 hg).trans ?_) | (refine (vF_g rfl rfl).trans ?_; refine (vF_g rfl rfl).trans ?_; refine (vbnd_1 hg).trans ?_) | (refine (vF_g rfl rfl).trans ?_; refine (vbnd_1 hg).trans ?_)); (first | (exact rfl) | (refine (vF_g rfl rfl).trans ?_; refine (vF_g rfl rfl).trans ?_; exact rfl) | (refine (vF_g rfl rfl).trans ?_; refine (vF_g rfl rfl).trans ?_; refine (vF_g rfl rfl).trans ?_; exact rfl) | (refine (vF_g rfl rfl).trans ?_; exact rfl)))) (v_lineT (D := D) h2 k3'.1)
      · have n3 : ¬ wOKc T 30 p1 := fun w => k3 ((w_i hi1).mp w)
        rw [if_neg (fun w => n3 ((wOK_c (by decide)).mpr w))] at e
        rw [oStm_n k1 k2 k3, hp1]
        have x := v_nextR (D := D + 3) h3.tx h3.at_ h3.le
        have h4 := rs_rkv h3
        have e20 := h4.er.1
        have m : vM MT0 (D + 5) 230 [vR 452, vI 0, vI 1] (rkv (rkv (rkv (rkv f T p) T p1) T p1) T (tS T p1)) = some ((1, 0), vW 3, flR 1 (rkv (rkv (rkv (rkv f T p) T p1) T p1) T (tS T p1))) := by
          rw [v_must (Or.inl rfl) (by rw [e20]; decide), if_pos ⟨rfl, e20⟩]
        have he : ERR 1 p1 (flR 1 (rkv (rkv (rkv (rkv f T p) T p1) T p1) T (tS T p1))) := err_fl (by rw [rkv_18, hi, hi]) (by decide) (by decide)
        exact ⟨fun w => absurd w n01, fun _ => ⟨_, go _ <| (by (first | (refine (vbnd_0 a).trans ?_) | (refine (vF_g rfl rfl).trans ?_; refine (vF_g rfl rfl).trans ?_; refine (vbnd_0 a).trans ?_) | (refine (vF_g rfl rfl).trans ?_; refine (vbnd_0 a).trans ?_)); (first | (refine (veq (x := 0) (y := 0) rfl).trans ?_) | (refine (vF_g rfl rfl).trans ?_; refine (vF_g rfl rfl).trans ?_; refine (veq (x := 0) (y := 0) rfl).trans ?_) | (refine (vF_g rfl rfl).trans ?_; refine (veq (x := 0) (y := 0) rfl).trans ?_)); (first | (refine (vbnd_0 b).trans ?_) | (refine (vF_g rfl rfl).trans ?_; refine (vF_g rfl rfl).trans ?_; refine (vbnd_0 b).trans ?_) | (refine (vF_g rfl rfl).trans ?_; refine (vbnd_0 b).trans ?_)); (first | (refine (veq (x := 0) (y := 0) rfl).trans ?_) | (refine (vF_g rfl rfl).trans ?_; refine (vF_g rfl rfl).trans ?_; refine (veq (x := 0) (y := 0) rfl).trans ?_) | (refine (vF_g rfl rfl).trans ?_; refine (veq (x := 0) (y := 0) rfl).trans ?_)); (first | (refine (vbnd_0 e).trans ?_) | (refine (vF_g rfl rfl).trans ?_; refine (vF_g rfl rfl).trans ?_; refine (vbnd_0 e).trans ?_) | (refine (vF_g rfl rfl).trans ?_; refine (vbnd_0 e).trans ?_)); (first | (refine (veq (x := 0) (y := 0) rfl).trans ?_) | (refine (vF_g rfl rfl).trans ?_; refine (vF_g rfl rfl).trans ?_; refine (veq (x := 0) (y := 0) rfl).trans ?_) | (refine (vF_g rfl rfl).trans ?_; refine (veq (x := 0) (y := 0) rfl).trans ?_)); (first | (refine (vbnd_0 x).trans ?_) | (refine (vF_g rfl rfl).trans ?_; refine (vF_g rfl rfl).trans ?_; refine (vbnd_0 x).trans ?_) | (refine (vF_g rfl rfl).trans ?_; refine (vbnd_0 x).trans ?_)); (first | (refine (vbnd_1 m).trans ?_) | (refine (vF_g rfl rfl).trans ?_; refine (vF_g rfl rfl).trans ?_; refine (vbnd_1 m).trans ?_) | (refine (vF_g rfl rfl).trans ?_; refine (vbnd_1 m).trans ?_)); (first | (refine (vbnd_1 (e_semi he)).trans ?_) | (refine (vF_g rfl rfl).trans ?_; refine (vF_g rfl rfl).trans ?_; refine (vbnd_1 (e_semi he)).trans ?_) | (refine (vF_g rfl rfl).trans ?_; refine (vbnd_1 (e_semi he)).trans ?_)); (first | (exact rfl) | (refine (vF_g rfl rfl).trans ?_; refine (vF_g rfl rfl).trans ?_; exact rfl) | (refine (vF_g rfl rfl).trans ?_; refine (vF_g rfl rfl).trans ?_; refine (vF_g rfl rfl).trans ?_; exact rfl) | (refine (vF_g rfl rfl).trans ?_; exact rfl))), he⟩⟩
/-! the fog -/
theorem rk17 {T : Nat → Nat} {p y : Nat} {f : Vw} : vup (rkv f T p) 452 17 y 452 18 = tS T p := (vup_ne (Or.inr (by decide))).trans rkv_18
theorem nuR_18 {T : Nat → Nat} {p lo hi : Nat} {f : Vw} : (nuR f T p lo hi).2 452 18 = tS T p := by
  have a : ∀ c, flR c (vup (rkv f T p) 452 17 (nE T p)) 452 18 = tS T p := fun c => (flR_o (Or.inr (by decide))).trans (rk17 (f := f) (y := nE T p))
  have b : flR 1 (rkv f T p) 452 18 = tS T p := (flR_o (Or.inr (by decide))).trans rkv_18
  unfold nuR
  split
  · split
    · split
      · exact rk17 (f := f) (y := nE T p)
      · exact a 2
    · exact a 1
  · exact b
theorem nuR_o {T : Nat → Nat} {p lo hi a b : Nat} {f : Vw} (h : a ≠ 452) : (nuR f T p lo hi).2 a b = f a b := by
  unfold nuR
  split
  · split
    · split
      · exact (vup_ne (Or.inl h)).trans (rkv_o (Or.inl h))
      · exact (flR_o (Or.inl h)).trans ((vup_ne (Or.inl h)).trans (rkv_o (Or.inl h)))
    · exact (flR_o (Or.inl h)).trans ((vup_ne (Or.inl h)).trans (rkv_o (Or.inl h)))
  · exact (flR_o (Or.inl h)).trans (rkv_o (Or.inl h))
theorem nuR_453 {D n c d p a : Nat} {T : Nat → Nat} {E V : Nat → Nat → Nat} {f g : Vw} (h : RS n T E V c d p f) (e : vM MT0 (D + 4) 235 [vR 452, vI 0, vI 9] f = some ((0, 0), vI a, g)) : g 453 4 = f 453 4 := by
  have hn := v_number (D := D + 1) h.tx h.at_ h.le h.er.1 (lo := 0) (hi := 9) (by decide) (by decide)
  have e2 : (some ((0, 0), vI a, g) : Option VR) = some ((0, 0), vI (nuR f T p 0 9).1, (nuR f T p 0 9).2) := e.symm.trans hn
  have hg2 : g = (nuR f T p 0 9).2 := congrArg (fun o : Option VR => match o with | some r => r.2.2 | none => f) e2
  rw [hg2]
  exact nuR_o (by decide)
theorem fg_1 {D F a : Nat} {f g h : Vw} {x : AV} {r : Option VR} (hx : x = vW 3 ∨ ∃ y, x = vI y) (e : vM MT0 D 235 [vR 452, vI 0, vI 9] f = some ((0, 0), vI a, g)) {is : Nat} (hs : (is = 1 ∧ g 453 4 < 12) ∨ (is = 0 ∧ g 453 4 = 12)) (m : vM MT0 D 230 [vR 452, vI is, vI 4] g = some ((1, 0), vW 3, h)) (e2 : vc3 (bv (h 452 20)) (bv 0) (vFn (vM MT0 D) nb_X11_fogLine F 5 0 [vR 452, vI a] [] h) (vFn (vM MT0 D) nb_X11_fogLine F 6 0 [vR 452, vI a] [] h) (vFn (vM MT0 D) nb_X11_fogLine F 5 0 [vR 452, vI a] [] h) = r) : vFn (vM MT0 D) nb_X11_fogLine (F + 3) 1 0 [vR 452, x] [] f = r := by
  rcases hs with ⟨rfl, hs⟩ | ⟨rfl, hs⟩
  · rcases hx with rfl | ⟨y, rfl⟩
    · (first | (refine (vbnd_0 e).trans ?_) | (refine (vF_g rfl rfl).trans ?_; refine (vF_g rfl rfl).trans ?_; refine (vbnd_0 e).trans ?_) | (refine (vF_g rfl rfl).trans ?_; refine (vbnd_0 e).trans ?_))
      (first | (refine (vlt (x := g 453 4) (y := 12) (by decide) hs).trans ?_) | (refine (vF_g rfl rfl).trans ?_; refine (vF_g rfl rfl).trans ?_; refine (vlt (x := g 453 4) (y := 12) (by decide) hs).trans ?_) | (refine (vF_g rfl rfl).trans ?_; refine (vlt (x := g 453 4) (y := 12) (by decide) hs).trans ?_))
      (first | (refine (vbnd_1 m).trans ?_) | (refine (vF_g rfl rfl).trans ?_; refine (vF_g rfl rfl).trans ?_; refine (vbnd_1 m).trans ?_) | (refine (vF_g rfl rfl).trans ?_; refine (vbnd_1 m).trans ?_))
      (first | (exact e2) | (refine (vF_g rfl rfl).trans ?_; refine (vF_g rfl rfl).trans ?_; exact e2) | (refine (vF_g rfl rfl).trans ?_; exact e2))
    · (first | (refine (vbnd_0 e).trans ?_) | (refine (vF_g rfl rfl).trans ?_; refine (vF_g rfl rfl).trans ?_; refine (vbnd_0 e).trans ?_) | (refine (vF_g rfl rfl).trans ?_; refine (vbnd_0 e).trans ?_))
      (first | (refine (vlt (x := g 453 4) (y := 12) (by decide) hs).trans ?_) | (refine (vF_g rfl rfl).trans ?_; refine (vF_g rfl rfl).trans ?_; refine (vlt (x := g 453 4) (y := 12) (by decide) hs).trans ?_) | (refine (vF_g rfl rfl).trans ?_; refine (vlt (x := g 453 4) (y := 12) (by decide) hs).trans ?_))
      (first | (refine (vbnd_1 m).trans ?_) | (refine (vF_g rfl rfl).trans ?_; refine (vF_g rfl rfl).trans ?_; refine (vbnd_1 m).trans ?_) | (refine (vF_g rfl rfl).trans ?_; refine (vbnd_1 m).trans ?_))
      (first | (exact e2) | (refine (vF_g rfl rfl).trans ?_; refine (vF_g rfl rfl).trans ?_; exact e2) | (refine (vF_g rfl rfl).trans ?_; exact e2))
  · rcases hx with rfl | ⟨y, rfl⟩
    · (first | (refine (vbnd_0 e).trans ?_) | (refine (vF_g rfl rfl).trans ?_; refine (vF_g rfl rfl).trans ?_; refine (vbnd_0 e).trans ?_) | (refine (vF_g rfl rfl).trans ?_; refine (vbnd_0 e).trans ?_))
      (first | (refine (veq hs).trans ?_) | (refine (vF_g rfl rfl).trans ?_; refine (vF_g rfl rfl).trans ?_; refine (veq hs).trans ?_) | (refine (vF_g rfl rfl).trans ?_; refine (veq hs).trans ?_))
      (first | (refine (vbnd_1 m).trans ?_) | (refine (vF_g rfl rfl).trans ?_; refine (vF_g rfl rfl).trans ?_; refine (vbnd_1 m).trans ?_) | (refine (vF_g rfl rfl).trans ?_; refine (vbnd_1 m).trans ?_))
      (first | (exact e2) | (refine (vF_g rfl rfl).trans ?_; refine (vF_g rfl rfl).trans ?_; exact e2) | (refine (vF_g rfl rfl).trans ?_; exact e2))
    · (first | (refine (vbnd_0 e).trans ?_) | (refine (vF_g rfl rfl).trans ?_; refine (vF_g rfl rfl).trans ?_; refine (vbnd_0 e).trans ?_) | (refine (vF_g rfl rfl).trans ?_; refine (vbnd_0 e).trans ?_))
      (first | (refine (veq hs).trans ?_) | (refine (vF_g rfl rfl).trans ?_; refine (vF_g rfl rfl).trans ?_; refine (veq hs).trans ?_) | (refine (vF_g rfl rfl).trans ?_; refine (veq hs).trans ?_))
      (first | (refine (vbnd_1 m).trans ?_) | (refine (vF_g rfl rfl).trans ?_; refine (vF_g rfl rfl).trans ?_; refine (vbnd_1 m).trans ?_) | (refine (vF_g rfl rfl).trans ?_; refine (vbnd_1 m).trans ?_))
      (first | (exact e2) | (refine (vF_g rfl rfl).trans ?_; refine (vF_g rfl rfl).trans ?_; exact e2) | (refine (vF_g rfl rfl).trans ?_; exact e2))
theorem fg_6 {D F a i b : Nat} {g h : Vw} {r : Option VR} (hi : g 453 4 = i) (h12 : i < 12) (e : vM MT0 D 236 [vR 452] (vup (vup g 453 (11 + i) a) 453 4 (i + 1)) = some ((0, 0), vI b, h)) (e2 : vc3 (bv b) (bv 0) (vFn (vM MT0 D) nb_X11_fogLine F 1 0 [vR 452, vI a] [] h) (vFn (vM MT0 D) nb_X11_fogLine F 7 0 [vR 452, vI a] [] h) (vFn (vM MT0 D) nb_X11_fogLine F 1 0 [vR 452, vI a] [] h) = r) : vFn (vM MT0 D) nb_X11_fogLine (F + 1) 6 0 [vR 452, vI a] [] g = r := by
  (first | (refine Eq.trans (b := gd (Nat.ble ((11 + g 453 4) % 4294967296 + 1) 627) (vB (vM MT0 D) (vFn (vM MT0 D) nb_X11_fogLine F) ((2, 1, 7, 1, 0, 0, 0), []) [(5, 2, 0, 0, 0, 0, 0), (21, 11, 0, 0, 0, 0, 0), (0, 4, 0, 0, 0, 0, 0), (13, 0, 0, 0, 0, 0, 0), (23, 0, 0, 0, 0, 0, 0), (0, 1, 0, 0, 0, 0, 0), (9, 0, 0, 0, 0, 0, 0), (24, 0, 0, 0, 0, 0, 0), (5, 2, 0, 0, 0, 0, 0), (31, 14, 236, 1, 0, 0, 0)] 0 [vR 452, vI a] [] (vup g 453 ((11 + g 453 4) % 4294967296) a))) rfl ?_) | (refine (vF_g rfl rfl).trans ?_; refine (vF_g rfl rfl).trans ?_; refine Eq.trans (b := gd (Nat.ble ((11 + g 453 4) % 4294967296 + 1) 627) (vB (vM MT0 D) (vFn (vM MT0 D) nb_X11_fogLine F) ((2, 1, 7, 1, 0, 0, 0), []) [(5, 2, 0, 0, 0, 0, 0), (21, 11, 0, 0, 0, 0, 0), (0, 4, 0, 0, 0, 0, 0), (13, 0, 0, 0, 0, 0, 0), (23, 0, 0, 0, 0, 0, 0), (0, 1, 0, 0, 0, 0, 0), (9, 0, 0, 0, 0, 0, 0), (24, 0, 0, 0, 0, 0, 0), (5, 2, 0, 0, 0, 0, 0), (31, 14, 236, 1, 0, 0, 0)] 0 [vR 452, vI a] [] (vup g 453 ((11 + g 453 4) % 4294967296) a))) rfl ?_) | (refine (vF_g rfl rfl).trans ?_; refine Eq.trans (b := gd (Nat.ble ((11 + g 453 4) % 4294967296 + 1) 627) (vB (vM MT0 D) (vFn (vM MT0 D) nb_X11_fogLine F) ((2, 1, 7, 1, 0, 0, 0), []) [(5, 2, 0, 0, 0, 0, 0), (21, 11, 0, 0, 0, 0, 0), (0, 4, 0, 0, 0, 0, 0), (13, 0, 0, 0, 0, 0, 0), (23, 0, 0, 0, 0, 0, 0), (0, 1, 0, 0, 0, 0, 0), (9, 0, 0, 0, 0, 0, 0), (24, 0, 0, 0, 0, 0, 0), (5, 2, 0, 0, 0, 0, 0), (31, 14, 236, 1, 0, 0, 0)] 0 [vR 452, vI a] [] (vup g 453 ((11 + g 453 4) % 4294967296) a))) rfl ?_))
  have hG : vup g 453 (11 + i) a 453 4 = i := (vup_ne (Or.inr (by omega))).trans hi
  rw [hi, Nat.mod_eq_of_lt (show 11 + i < 4294967296 by omega), Nat.ble_eq_true_of_le (show 11 + i + 1 ≤ 627 by omega)]
  generalize vup g 453 (11 + i) a = G at e hG
  (first | (refine Eq.trans (b := vbnd (vM MT0 D 236 [vR 452] (vup G 453 4 ((G 453 4 + 1) % 4294967296))) (fun v g => vB (vM MT0 D) (vFn (vM MT0 D) nb_X11_fogLine F) ((2, 1, 7, 1, 0, 0, 0), []) [] 0 [vR 452, vI a] (v :: []) g) (fun g => vB (vM MT0 D) (vFn (vM MT0 D) nb_X11_fogLine F) ((2, 1, 7, 1, 0, 0, 0), []) [] 0 [vR 452, vI a] [] g) (fun x g => gd false (some ((2, x), vW 3, g)))) rfl ?_) | (refine (vF_g rfl rfl).trans ?_; refine (vF_g rfl rfl).trans ?_; refine Eq.trans (b := vbnd (vM MT0 D 236 [vR 452] (vup G 453 4 ((G 453 4 + 1) % 4294967296))) (fun v g => vB (vM MT0 D) (vFn (vM MT0 D) nb_X11_fogLine F) ((2, 1, 7, 1, 0, 0, 0), []) [] 0 [vR 452, vI a] (v :: []) g) (fun g => vB (vM MT0 D) (vFn (vM MT0 D) nb_X11_fogLine F) ((2, 1, 7, 1, 0, 0, 0), []) [] 0 [vR 452, vI a] [] g) (fun x g => gd false (some ((2, x), vW 3, g)))) rfl ?_) | (refine (vF_g rfl rfl).trans ?_; refine Eq.trans (b := vbnd (vM MT0 D 236 [vR 452] (vup G 453 4 ((G 453 4 + 1) % 4294967296))) (fun v g => vB (vM MT0 D) (vFn (vM MT0 D) nb_X11_fogLine F) ((2, 1, 7, 1, 0, 0, 0), []) [] 0 [vR 452, vI a] (v :: []) g) (fun g => vB (vM MT0 D) (vFn (vM MT0 D) nb_X11_fogLine F) ((2, 1, 7, 1, 0, 0, 0), []) [] 0 [vR 452, vI a] [] g) (fun x g => gd false (some ((2, x), vW 3, g)))) rfl ?_))
  rw [hG, Nat.mod_eq_of_lt (show i + 1 < 4294967296 by omega)]
  (first | (refine (vbnd_0 e).trans ?_) | (refine (vF_g rfl rfl).trans ?_; refine (vF_g rfl rfl).trans ?_; refine (vbnd_0 e).trans ?_) | (refine (vF_g rfl rfl).trans ?_; refine (vbnd_0 e).trans ?_))
  (first | (exact e2) | (refine (vF_g rfl rfl).trans ?_; refine (vF_g rfl rfl).trans ?_; exact e2) | (refine (vF_g rfl rfl).trans ?_; exact e2))
theorem rs_lo {n c d p i x : Nat} {T : Nat → Nat} {E V : Nat → Nat → Nat} {f : Vw} (h : RS n T E V c d p f) (h1 : 2 ≤ i) (h2 : i < 23) : RS n T E V c d p (vup f 453 i x) := rs_of h (vup_ne (Or.inl (by decide))) (fun _ => vup_ne (Or.inl (by decide))) ((vup_ne (Or.inl (by decide))).trans h.at_) h.le (vup_ne (Or.inl (by decide))) (vup_ne (Or.inl (by decide))) (vup_ne (Or.inr (by omega))) (vup_ne (Or.inr (by omega))) (fun y hy hy2 => vup_ne (Or.inr (by omega))) (fun y hy hy2 => vup_ne (Or.inr (by omega)))
theorem v_fogLR {D n c d : Nat} {T : Nat → Nat} {E V : Nat → Nat → Nat} : ∀ (m i p q F : Nat) (f : Vw) (x : AV), (x = vW 3 ∨ ∃ y, x = vI y) → i + m = 12 → 4 * m + 6 ≤ F → RS n T E V c d p f → (i = 0 ∨ tK T p = 2) → f 453 4 = i → ((oFogL T (m + 1) i q p).1 = 0 → ∃ g, vFn (vM MT0 (D + 4)) nb_X11_fogLine F 1 0 [vR 452, x] [] f = some ((1, 0), vW 3, g) ∧ RS n T E V c d (oFogL T (m + 1) i q p).2 g) ∧ ((oFogL T (m + 1) i q p).1 ≠ 0 → ∃ g, vFn (vM MT0 (D + 4)) nb_X11_fogLine F 1 0 [vR 452, x] [] f = some ((1, 0), vW 3, g) ∧ ERR (oFogL T (m + 1) i q p).1 (oFogL T (m + 1) i q p).2 g) := by
  intro m
  induction m with
  | zero =>
    intro i p q F f x hx hi hF h hk hf
    obtain ⟨F1, rfl⟩ : ∃ F1, F = F1 + 3 + 3 := ⟨F - 6, by omega⟩
    have k0 : ¬ (0 < i ∧ tK T p = 3) := by omega
    obtain ⟨w1, w2⟩ := v_numR (D := D + 1) (lo := 0) (hi := 9) h (by decide) (by decide)
    by_cases k1 : nuC T p 0 9 = 0
    · rw [show oFogL T (0 + 1) i q p = (4, tS T p) from (if_neg k0).trans (if_pos k1)]
      have hn := v_number (D := D + 1) h.tx h.at_ h.le h.er.1 (lo := 0) (hi := 9) (by decide) (by decide)
      obtain ⟨g, e, hg, fr, _⟩ := w1 k1
      have g4 : g 453 4 = 12 := (fr _ _ (by decide)).trans (hf.trans (by omega))
      have g18 : g 452 18 = tS T p := by
        have e2 : (some ((0, 0), vI (tV T p), g) : Option VR) = some ((0, 0), vI (nuR f T p 0 9).1, (nuR f T p 0 9).2) := e.symm.trans hn
        have hg2 : g = (nuR f T p 0 9).2 := congrArg (fun o : Option VR => match o with | some r => r.2.2 | none => f) e2
        rw [hg2]
        exact nuR_18
      have m1 : vM MT0 (D + 4) 230 [vR 452, vI 0, vI 4] g = some ((1, 0), vW 3, flR 4 g) := by
        rw [v_must (Or.inl rfl) (by rw [hg.er.1]; decide), if_pos ⟨rfl, hg.er.1⟩]
      exact ⟨fun w => absurd w n41, fun _ => ⟨_, fg_1 hx e (Or.inr ⟨rfl, g4⟩) m1 ((by (first | (refine (vne (x := flR 4 g 452 20) (y := 0) (by rw [flR_20]; decide) (by decide) (by rw [flR_20]; decide)).trans ?_) | (refine (vF_g rfl rfl).trans ?_; refine (vF_g rfl rfl).trans ?_; refine (vne (x := flR 4 g 452 20) (y := 0) (by rw [flR_20]; decide) (by decide) (by rw [flR_20]; decide)).trans ?_) | (refine (vF_g rfl rfl).trans ?_; refine (vne (x := flR 4 g 452 20) (y := 0) (by rw [flR_20]; decide) (by decide) (by rw [flR_20]; decide)).trans ?_)); (first | (exact rfl) | (refine (vF_g rfl rfl).trans ?_; refine (vF_g rfl rfl).trans ?_; exact rfl) | (refine (vF_g rfl rfl).trans ?_; refine (vF_g rfl rfl).trans ?_; refine (vF_g rfl rfl).trans ?_; exact rfl) | (refine (vF_g rfl rfl).trans ?_; exact rfl)))), err_fl (e := 4) g18 (show (4 : Nat) ≠ 0 by decide) (show (4 : Nat) < 4294967296 by decide)⟩⟩
    · rw [show oFogL T (0 + 1) i q p = (nuC T p 0 9, tS T p) from (if_neg k0).trans (if_neg k1)]
      obtain ⟨g, e, hg⟩ := w2 k1
      have hs : ∃ is, ((is = 1 ∧ g 453 4 < 12) ∨ (is = 0 ∧ g 453 4 = 12)) ∧ (is = 0 ∨ is = 1) := ⟨0, Or.inr ⟨rfl, (nuR_453 h e).trans (hf.trans (by omega))⟩, Or.inl rfl⟩
      obtain ⟨is, hs1, hs2⟩ := hs
      have m1 : vM MT0 (D + 4) 230 [vR 452, vI is, vI 4] g = some ((1, 0), vW 3, g) := by
        rw [v_must hs2 (by rw [hg.1]; exact hg.2.2.2), if_neg (fun w => hg.2.2.1 (hg.1.symm.trans w.2))]
      exact ⟨fun w => absurd w k1, fun _ => ⟨g, fg_1 hx e hs1 m1 ((by (first | (refine (vne (x := g 452 20) (y := 0) (by rw [hg.1]; exact hg.2.2.2) (by decide) (by rw [hg.1]; exact hg.2.2.1)).trans ?_) | (refine (vF_g rfl rfl).trans ?_; refine (vF_g rfl rfl).trans ?_; refine (vne (x := g 452 20) (y := 0) (by rw [hg.1]; exact hg.2.2.2) (by decide) (by rw [hg.1]; exact hg.2.2.1)).trans ?_) | (refine (vF_g rfl rfl).trans ?_; refine (vne (x := g 452 20) (y := 0) (by rw [hg.1]; exact hg.2.2.2) (by decide) (by rw [hg.1]; exact hg.2.2.1)).trans ?_)); (first | (exact rfl) | (refine (vF_g rfl rfl).trans ?_; refine (vF_g rfl rfl).trans ?_; exact rfl) | (refine (vF_g rfl rfl).trans ?_; refine (vF_g rfl rfl).trans ?_; refine (vF_g rfl rfl).trans ?_; exact rfl) | (refine (vF_g rfl rfl).trans ?_; exact rfl)))), hg⟩⟩
  | succ m ih =>
    intro i p q F f x hx hi hF h hk hf
    obtain ⟨F1, rfl⟩ : ∃ F1, F = F1 + 1 + 3 := ⟨F - 4, by omega⟩
    have k0 : ¬ (0 < i ∧ tK T p = 3) := by omega
    obtain ⟨w1, w2⟩ := v_numR (D := D + 1) (lo := 0) (hi := 9) h (by decide) (by decide)
    by_cases k1 : nuC T p 0 9 = 0
    · rw [show oFogL T (m + 1 + 1) i q p = oFogL T (m + 1) (i + 1) (tS T p) (tE T p) from (if_neg k0).trans (if_pos k1)]
      obtain ⟨g, e, hg, fr, _⟩ := w1 k1
      have g4 : g 453 4 = i := (fr _ _ (by decide)).trans hf
      have m1 : vM MT0 (D + 4) 230 [vR 452, vI 1, vI 4] g = some ((1, 0), vW 3, g) := by
        rw [v_must (Or.inr rfl) (by rw [hg.er.1]; decide), if_neg (fun w => by cases w.1)]
      have hG : RS n T E V c d (tE T p) (vup (vup g 453 (11 + i) (tV T p)) 453 4 (i + 1)) := rs_lo (rs_lo hg (by omega) (by omega)) (by decide) (by decide)
      have en := v_isNumberNext (D := D + 1) hG
      have hG2 := rs_rkv hG
      have hid := tS_i hG.tx.1 hG.tx.2.2.2.2 hG.le
      have h4 : rkv (vup (vup g 453 (11 + i) (tV T p)) 453 4 (i + 1)) T (tE T p) 453 4 = i + 1 := (rkv_o (Or.inl (by decide))).trans vup_eq
      by_cases k2 : tK T (tE T p) = 2
      · rw [if_pos k2] at en
        have eo : oFogL T (m + 1) (i + 1) (tS T p) (tE T p) = oFogL T (m + 1) (i + 1) (tS T p) (tS T (tE T p)) := by
          show (if 0 < i + 1 ∧ tK T (tE T p) = 3 then (0, tE T (tE T p)) else if nuC T (tE T p) 0 9 = 0 then oFogL T m (i + 1 + 1) (tS T (tE T p)) (tE T (tE T p)) else (nuC T (tE T p) 0 9, tS T (tE T p))) = (if 0 < i + 1 ∧ tK T (tS T (tE T p)) = 3 then (0, tE T (tS T (tE T p))) else if nuC T (tS T (tE T p)) 0 9 = 0 then oFogL T m (i + 1 + 1) (tS T (tS T (tE T p))) (tE T (tS T (tE T p))) else (nuC T (tS T (tE T p)) 0 9, tS T (tS T (tE T p))))
          rw [tK_i hid, tE_i hid, nu_i hid, hid]
        rw [eo]
        have k3 : tK T (tS T (tE T p)) = 2 := (tK_i hid).trans k2
        obtain ⟨t1, t2⟩ := ih (i + 1) (tS T (tE T p)) (tS T p) F1 _ (vI (tV T p)) (Or.inr ⟨_, rfl⟩) (by omega) (by omega) hG2 (Or.inr k3) h4
        have st : ∀ r, vFn (vM MT0 (D + 4)) nb_X11_fogLine F1 1 0 [vR 452, vI (tV T p)] [] (rkv (vup (vup g 453 (11 + i) (tV T p)) 453 4 (i + 1)) T (tE T p)) = r → vFn (vM MT0 (D + 4)) nb_X11_fogLine (F1 + 1 + 3) 1 0 [vR 452, x] [] f = r := fun r hr => fg_1 hx e (Or.inl ⟨rfl, by rw [g4]; omega⟩) m1 ((by (first | (refine (veq hg.er.1).trans ?_) | (refine (vF_g rfl rfl).trans ?_; refine (vF_g rfl rfl).trans ?_; refine (veq hg.er.1).trans ?_) | (refine (vF_g rfl rfl).trans ?_; refine (veq hg.er.1).trans ?_)); (first | (exact (fg_6 g4 (by omega) en ((by (first | (refine (vgt (x := 1) (y := 0) (by decide) (by decide)).trans ?_) | (refine (vF_g rfl rfl).trans ?_; refine (vF_g rfl rfl).trans ?_; refine (vgt (x := 1) (y := 0) (by decide) (by decide)).trans ?_) | (refine (vF_g rfl rfl).trans ?_; refine (vgt (x := 1) (y := 0) (by decide) (by decide)).trans ?_)); (first | (exact hr) | (refine (vF_g rfl rfl).trans ?_; refine (vF_g rfl rfl).trans ?_; exact hr) | (refine (vF_g rfl rfl).trans ?_; exact hr)))))) | (refine (vF_g rfl rfl).trans ?_; refine (vF_g rfl rfl).trans ?_; exact (fg_6 g4 (by omega) en ((by (first | (refine (vgt (x := 1) (y := 0) (by decide) (by decide)).trans ?_) | (refine (vF_g rfl rfl).trans ?_; refine (vF_g rfl rfl).trans ?_; refine (vgt (x := 1) (y := 0) (by decide) (by decide)).trans ?_) | (refine (vF_g rfl rfl).trans ?_; refine (vgt (x := 1) (y := 0) (by decide) (by decide)).trans ?_)); (first | (exact hr) | (refine (vF_g rfl rfl).trans ?_; refine (vF_g rfl rfl).trans ?_; exact hr) | (refine (vF_g rfl rfl).trans ?_; exact hr)))))) | (refine (vF_g rfl rfl).trans ?_; exact (fg_6 g4 (by omega) en ((by (first | (refine (vgt (x := 1) (y := 0) (by decide) (by decide)).trans ?_) | (refine (vF_g rfl rfl).trans ?_; refine (vF_g rfl rfl).trans ?_; refine (vgt (x := 1) (y := 0) (by decide) (by decide)).trans ?_) | (refine (vF_g rfl rfl).trans ?_; refine (vgt (x := 1) (y := 0) (by decide) (by decide)).trans ?_)); (first | (exact hr) | (refine (vF_g rfl rfl).trans ?_; refine (vF_g rfl rfl).trans ?_; exact hr) | (refine (vF_g rfl rfl).trans ?_; exact hr)))))))))
        refine ⟨fun w => ?_, fun w => ?_⟩
        · obtain ⟨g', a, b⟩ := t1 w
          exact ⟨g', st _ a, b⟩
        · obtain ⟨g', a, b⟩ := t2 w
          exact ⟨g', st _ a, b⟩
      · rw [if_neg k2] at en
        obtain ⟨F2, rfl⟩ : ∃ F2, F1 = F2 + 1 := ⟨F1 - 1, by omega⟩
        have st : ∀ r, vFn (vM MT0 (D + 4)) nb_X11_fogLine (F2 + 1) 7 0 [vR 452, vI (tV T p)] [] (rkv (vup (vup g 453 (11 + i) (tV T p)) 453 4 (i + 1)) T (tE T p)) = r → vFn (vM MT0 (D + 4)) nb_X11_fogLine (F2 + 1 + 1 + 3) 1 0 [vR 452, x] [] f = r := fun r hr => fg_1 hx e (Or.inl ⟨rfl, by rw [g4]; omega⟩) m1 ((by (first | (refine (veq hg.er.1).trans ?_) | (refine (vF_g rfl rfl).trans ?_; refine (vF_g rfl rfl).trans ?_; refine (veq hg.er.1).trans ?_) | (refine (vF_g rfl rfl).trans ?_; refine (veq hg.er.1).trans ?_)); (first | (exact (fg_6 g4 (by omega) en ((by (first | (refine (veq (x := 0) (y := 0) rfl).trans ?_) | (refine (vF_g rfl rfl).trans ?_; refine (vF_g rfl rfl).trans ?_; refine (veq (x := 0) (y := 0) rfl).trans ?_) | (refine (vF_g rfl rfl).trans ?_; refine (veq (x := 0) (y := 0) rfl).trans ?_)); (first | (exact hr) | (refine (vF_g rfl rfl).trans ?_; refine (vF_g rfl rfl).trans ?_; exact hr) | (refine (vF_g rfl rfl).trans ?_; exact hr)))))) | (refine (vF_g rfl rfl).trans ?_; refine (vF_g rfl rfl).trans ?_; exact (fg_6 g4 (by omega) en ((by (first | (refine (veq (x := 0) (y := 0) rfl).trans ?_) | (refine (vF_g rfl rfl).trans ?_; refine (vF_g rfl rfl).trans ?_; refine (veq (x := 0) (y := 0) rfl).trans ?_) | (refine (vF_g rfl rfl).trans ?_; refine (veq (x := 0) (y := 0) rfl).trans ?_)); (first | (exact hr) | (refine (vF_g rfl rfl).trans ?_; refine (vF_g rfl rfl).trans ?_; exact hr) | (refine (vF_g rfl rfl).trans ?_; exact hr)))))) | (refine (vF_g rfl rfl).trans ?_; exact (fg_6 g4 (by omega) en ((by (first | (refine (veq (x := 0) (y := 0) rfl).trans ?_) | (refine (vF_g rfl rfl).trans ?_; refine (vF_g rfl rfl).trans ?_; refine (veq (x := 0) (y := 0) rfl).trans ?_) | (refine (vF_g rfl rfl).trans ?_; refine (veq (x := 0) (y := 0) rfl).trans ?_)); (first | (exact hr) | (refine (vF_g rfl rfl).trans ?_; refine (vF_g rfl rfl).trans ?_; exact hr) | (refine (vF_g rfl rfl).trans ?_; exact hr)))))))))
        obtain ⟨u1, u2⟩ := v_semiR (D := D + 1) hG2
        by_cases k3 : tK T (tE T p) = 3
        · rw [show oFogL T (m + 1) (i + 1) (tS T p) (tE T p) = (0, tE T (tE T p)) from if_pos ⟨by omega, k3⟩]
          obtain ⟨g', a, b, _⟩ := u1 ((tK_i hid).trans k3)
          rw [tE_i hid] at b
          exact ⟨fun _ => ⟨g', st _ ((by (first | (refine (vbnd_1 a).trans ?_) | (refine (vF_g rfl rfl).trans ?_; refine (vF_g rfl rfl).trans ?_; refine (vbnd_1 a).trans ?_) | (refine (vF_g rfl rfl).trans ?_; refine (vbnd_1 a).trans ?_)); (first | (exact rfl) | (refine (vF_g rfl rfl).trans ?_; refine (vF_g rfl rfl).trans ?_; exact rfl) | (refine (vF_g rfl rfl).trans ?_; refine (vF_g rfl rfl).trans ?_; refine (vF_g rfl rfl).trans ?_; exact rfl) | (refine (vF_g rfl rfl).trans ?_; exact rfl)))), b⟩, fun w => absurd rfl w⟩
        · have k4 : nuC T (tE T p) 0 9 = 1 := if_neg (fun w => k2 w.1)
          rw [show oFogL T (m + 1) (i + 1) (tS T p) (tE T p) = (1, tS T (tE T p)) from (if_neg (fun w => k3 w.2)).trans ((if_neg (by rw [k4]; decide)).trans (by rw [k4]))]
          obtain ⟨g', a, b⟩ := u2 (fun w => k3 ((tK_i hid).symm.trans w))
          rw [hid] at b
          exact ⟨fun w => absurd w n01, fun _ => ⟨g', st _ ((by (first | (refine (vbnd_1 a).trans ?_) | (refine (vF_g rfl rfl).trans ?_; refine (vF_g rfl rfl).trans ?_; refine (vbnd_1 a).trans ?_) | (refine (vF_g rfl rfl).trans ?_; refine (vbnd_1 a).trans ?_)); (first | (exact rfl) | (refine (vF_g rfl rfl).trans ?_; refine (vF_g rfl rfl).trans ?_; exact rfl) | (refine (vF_g rfl rfl).trans ?_; refine (vF_g rfl rfl).trans ?_; refine (vF_g rfl rfl).trans ?_; exact rfl) | (refine (vF_g rfl rfl).trans ?_; exact rfl)))), b⟩⟩
    · rw [show oFogL T (m + 1 + 1) i q p = (nuC T p 0 9, tS T p) from (if_neg k0).trans (if_neg k1)]
      obtain ⟨g, e, hg⟩ := w2 k1
      have m1 : vM MT0 (D + 4) 230 [vR 452, vI 1, vI 4] g = some ((1, 0), vW 3, g) := by
        rw [v_must (Or.inr rfl) (by rw [hg.1]; exact hg.2.2.2), if_neg (fun w => by cases w.1)]
      exact ⟨fun w => absurd w k1, fun _ => ⟨g, fg_1 hx e (Or.inl ⟨rfl, by rw [nuR_453 h e, hf]; omega⟩) m1 ((by (first | (refine (vne (x := g 452 20) (y := 0) (by rw [hg.1]; exact hg.2.2.2) (by decide) (by rw [hg.1]; exact hg.2.2.1)).trans ?_) | (refine (vF_g rfl rfl).trans ?_; refine (vF_g rfl rfl).trans ?_; refine (vne (x := g 452 20) (y := 0) (by rw [hg.1]; exact hg.2.2.2) (by decide) (by rw [hg.1]; exact hg.2.2.1)).trans ?_) | (refine (vF_g rfl rfl).trans ?_; refine (vne (x := g 452 20) (y := 0) (by rw [hg.1]; exact hg.2.2.2) (by decide) (by rw [hg.1]; exact hg.2.2.1)).trans ?_)); (first | (exact rfl) | (refine (vF_g rfl rfl).trans ?_; refine (vF_g rfl rfl).trans ?_; exact rfl) | (refine (vF_g rfl rfl).trans ?_; refine (vF_g rfl rfl).trans ?_; refine (vF_g rfl rfl).trans ?_; exact rfl) | (refine (vF_g rfl rfl).trans ?_; exact rfl)))), hg⟩⟩
end
section
/-! the reference's load -/
theorem v_fogR {D n c d p : Nat} {T : Nat → Nat} {E V : Nat → Nat → Nat} {f : Vw} (h : RS n T E V c d p f) (hf : f 453 4 = 0) : ((oFog T p).1 = 0 → ∃ g, vM MT0 (D + 5) 247 [vR 452] f = some ((1, 0), vW 3, g) ∧ RS n T E V c d (oFog T p).2 g) ∧ ((oFog T p).1 ≠ 0 → ∃ g, vM MT0 (D + 5) 247 [vR 452] f = some ((1, 0), vW 3, g) ∧ ERR (oFog T p).1 (oFog T p).2 g) := by
  unfold oFog
  obtain ⟨w1, w2⟩ := v_keyword (D := D) (w := 27) h (by decide) (by decide) (by decide)
  by_cases k1 : wOKc T 27 p
  rotate_left
  · rw [oW_1 k1]
    obtain ⟨g, e, hg, fr⟩ := w2 k1
    have m1 : vM MT0 (D + 4) 230 [vR 452, vI 1, vI 4] g = some ((1, 0), vW 3, g) := by
      rw [v_must (Or.inr rfl) (by rw [hg.1]; exact hg.2.2.2), if_neg (fun w => by cases w.1)]
    have g4 : g 453 4 < 12 := by
      rw [fr _ _ (by decide), hf]
      decide
    exact ⟨fun w => absurd w n01, fun _ => ⟨g, vM_go rfl rfl rfl rfl fun F hF => (by (first | (refine (vbnd_1 e).trans ?_) | (refine (vF_g rfl rfl).trans ?_; refine (vF_g rfl rfl).trans ?_; refine (vbnd_1 e).trans ?_) | (refine (vF_g rfl rfl).trans ?_; refine (vbnd_1 e).trans ?_)); (first | (exact (fg_1 (F := F + 56) (Or.inl rfl) (e_number hg) (Or.inl ⟨rfl, g4⟩) m1 ((by (first | (refine (vne (x := g 452 20) (y := 0) (by rw [hg.1]; exact hg.2.2.2) (by decide) (by rw [hg.1]; exact hg.2.2.1)).trans ?_) | (refine (vF_g rfl rfl).trans ?_; refine (vF_g rfl rfl).trans ?_; refine (vne (x := g 452 20) (y := 0) (by rw [hg.1]; exact hg.2.2.2) (by decide) (by rw [hg.1]; exact hg.2.2.1)).trans ?_) | (refine (vF_g rfl rfl).trans ?_; refine (vne (x := g 452 20) (y := 0) (by rw [hg.1]; exact hg.2.2.2) (by decide) (by rw [hg.1]; exact hg.2.2.1)).trans ?_)); (first | (exact rfl) | (refine (vF_g rfl rfl).trans ?_; refine (vF_g rfl rfl).trans ?_; exact rfl) | (refine (vF_g rfl rfl).trans ?_; refine (vF_g rfl rfl).trans ?_; refine (vF_g rfl rfl).trans ?_; exact rfl) | (refine (vF_g rfl rfl).trans ?_; exact rfl)))))) | (refine (vF_g rfl rfl).trans ?_; refine (vF_g rfl rfl).trans ?_; exact (fg_1 (F := F + 56) (Or.inl rfl) (e_number hg) (Or.inl ⟨rfl, g4⟩) m1 ((by (first | (refine (vne (x := g 452 20) (y := 0) (by rw [hg.1]; exact hg.2.2.2) (by decide) (by rw [hg.1]; exact hg.2.2.1)).trans ?_) | (refine (vF_g rfl rfl).trans ?_; refine (vF_g rfl rfl).trans ?_; refine (vne (x := g 452 20) (y := 0) (by rw [hg.1]; exact hg.2.2.2) (by decide) (by rw [hg.1]; exact hg.2.2.1)).trans ?_) | (refine (vF_g rfl rfl).trans ?_; refine (vne (x := g 452 20) (y := 0) (by rw [hg.1]; exact hg.2.2.2) (by decide) (by rw [hg.1]; exact hg.2.2.1)).trans ?_)); (first | (exact rfl) | (refine (vF_g rfl rfl).trans ?_; refine (vF_g rfl rfl).trans ?_; exact rfl) | (refine (vF_g rfl rfl).trans ?_; refine (vF_g rfl rfl).trans ?_; refine (vF_g rfl rfl).trans ?_; exact rfl) | (refine (vF_g rfl rfl).trans ?_; exact rfl)))))) | (refine (vF_g rfl rfl).trans ?_; exact (fg_1 (F := F + 56) (Or.inl rfl) (e_number hg) (Or.inl ⟨rfl, g4⟩) m1 ((by (first | (refine (vne (x := g 452 20) (y := 0) (by rw [hg.1]; exact hg.2.2.2) (by decide) (by rw [hg.1]; exact hg.2.2.1)).trans ?_) | (refine (vF_g rfl rfl).trans ?_; refine (vF_g rfl rfl).trans ?_; refine (vne (x := g 452 20) (y := 0) (by rw [hg.1]; exact hg.2.2.2) (by decide) (by rw [hg.1]; exact hg.2.2.1)).trans ?_) | (refine (vF_g rfl rfl).trans ?_; refine (vne (x := g 452 20) (y := 0) (by rw [hg.1]; exact hg.2.2.2) (by decide) (by rw [hg.1]; exact hg.2.2.1)).trans ?_)); (first | (exact rfl) | (refine (vF_g rfl rfl).trans ?_; refine (vF_g rfl rfl).trans ?_; exact rfl) | (refine (vF_g rfl rfl).trans ?_; refine (vF_g rfl rfl).trans ?_; refine (vF_g rfl rfl).trans ?_; exact rfl) | (refine (vF_g rfl rfl).trans ?_; exact rfl)))))))), hg⟩⟩
  rw [oW_0 k1]
  obtain ⟨g, e, hg, fr⟩ := w1 k1
  obtain ⟨F, hF, go⟩ := vM_at (D := D + 4) (y := 247) (as := [vR 452]) (f := f) rfl rfl rfl rfl
  have st : ∀ r, vFn (vM MT0 (D + 4)) nb_X11_fogLine (F + 59) 1 0 [vR 452, vW 3] [] g = r → vM MT0 (D + 5) 247 [vR 452] f = r := fun r hr => go r ((by (first | (refine (vbnd_1 e).trans ?_) | (refine (vF_g rfl rfl).trans ?_; refine (vF_g rfl rfl).trans ?_; refine (vbnd_1 e).trans ?_) | (refine (vF_g rfl rfl).trans ?_; refine (vbnd_1 e).trans ?_)); (first | (exact hr) | (refine (vF_g rfl rfl).trans ?_; refine (vF_g rfl rfl).trans ?_; exact hr) | (refine (vF_g rfl rfl).trans ?_; exact hr))))
  obtain ⟨t1, t2⟩ := v_fogLR (D := D) 12 0 (tE T p) 0 (F + 59) g (vW 3) (Or.inl rfl) (by decide) (by omega) hg (Or.inl rfl) ((fr _ _ (by decide)).trans hf)
  refine ⟨fun w => ?_, fun w => ?_⟩
  · obtain ⟨g', a, b⟩ := t1 w
    exact ⟨g', st _ a, b⟩
  · obtain ⟨g', a, b⟩ := t2 w
    exact ⟨g', st _ a, b⟩
theorem cp_is {D : Nat} : ∀ (m k F : Nat) (f : Vw), k + m = 627 → 2 * m + 3 ≤ F → (∃ g, vFn (vM MT0 D) nb_X11_copies F 1 0 [vR 453, vI 0, vR 455, vI 0, vI k] [] f = some ((1, 0), vW 3, g) ∧ (∀ i, k ≤ i → i < 627 → g 455 i = f 453 i) ∧ (∀ i, i < k → g 455 i = f 455 i) ∧ ∀ x y, x ≠ 455 → g x y = f x y) ∧ (∃ g, vFn (vM MT0 D) nb_X11_copies F 1 0 [vR 455, vI 0, vR 453, vI 0, vI k] [] f = some ((1, 0), vW 3, g) ∧ (∀ i, k ≤ i → i < 627 → g 453 i = f 455 i) ∧ (∀ i, i < k → g 453 i = f 453 i) ∧ ∀ x y, x ≠ 453 → g x y = f x y) := by
  intro m
  induction m with
  | zero =>
    intro k F f hk hF
    obtain ⟨F1, rfl⟩ : ∃ F1, F = F1 + 3 := ⟨F - 3, by omega⟩
    exact ⟨⟨f, (by (first | (refine (vge2 (x := k) (y := 627) (by omega) (by omega)).trans ?_) | (refine (vF_g rfl rfl).trans ?_; refine (vF_g rfl rfl).trans ?_; refine (vge2 (x := k) (y := 627) (by omega) (by omega)).trans ?_) | (refine (vF_g rfl rfl).trans ?_; refine (vge2 (x := k) (y := 627) (by omega) (by omega)).trans ?_)); (first | (exact rfl) | (refine (vF_g rfl rfl).trans ?_; refine (vF_g rfl rfl).trans ?_; exact rfl) | (refine (vF_g rfl rfl).trans ?_; refine (vF_g rfl rfl).trans ?_; refine (vF_g rfl rfl).trans ?_; exact rfl) | (refine (vF_g rfl rfl).trans ?_; exact rfl))), fun i a b => by omega, fun _ _ => rfl, fun _ _ _ => rfl⟩, ⟨f, (by (first | (refine (vge2 (x := k) (y := 627) (by omega) (by omega)).trans ?_) | (refine (vF_g rfl rfl).trans ?_; refine (vF_g rfl rfl).trans ?_; refine (vge2 (x := k) (y := 627) (by omega) (by omega)).trans ?_) | (refine (vF_g rfl rfl).trans ?_; refine (vge2 (x := k) (y := 627) (by omega) (by omega)).trans ?_)); (first | (exact rfl) | (refine (vF_g rfl rfl).trans ?_; refine (vF_g rfl rfl).trans ?_; exact rfl) | (refine (vF_g rfl rfl).trans ?_; refine (vF_g rfl rfl).trans ?_; refine (vF_g rfl rfl).trans ?_; exact rfl) | (refine (vF_g rfl rfl).trans ?_; exact rfl))), fun i a b => by omega, fun _ _ => rfl, fun _ _ _ => rfl⟩⟩
  | succ m ih =>
    intro k F f hk hF
    obtain ⟨F1, rfl⟩ : ∃ F1, F = F1 + 2 := ⟨F - 2, by omega⟩
    have hX : (0 + k) % 4294967296 = k := by omega
    have hb : Nat.ble (k + 1) 627 = true := Nat.ble_eq_true_of_le (by omega)
    constructor
    · obtain ⟨⟨g, e, h1, h2, h3⟩, _⟩ := ih (k + 1) F1 (vup f 455 k (f 453 k)) (by omega) (by omega)
      refine ⟨g, ?_, fun i a b => ?_, fun i a => (h2 i (by omega)).trans (vup_ne (Or.inr (by omega))), fun x y w => (h3 x y w).trans (vup_ne (Or.inl w))⟩
      · (first | (refine (vlt (x := k) (y := 627) (by decide) (by omega)).trans ?_) | (refine (vF_g rfl rfl).trans ?_; refine (vF_g rfl rfl).trans ?_; refine (vlt (x := k) (y := 627) (by decide) (by omega)).trans ?_) | (refine (vF_g rfl rfl).trans ?_; refine (vlt (x := k) (y := 627) (by decide) (by omega)).trans ?_))
        (first | (refine Eq.trans (b := gd (Nat.ble ((0 + k) % 4294967296 + 1) 627) (gd (Nat.ble ((0 + k) % 4294967296 + 1) 627) (vFn (vM MT0 D) nb_X11_copies F1 1 0 [vR 453, vI 0, vR 455, vI 0, vI ((k + 1) % 4294967296)] [] (vup f 455 ((0 + k) % 4294967296) (f 453 ((0 + k) % 4294967296)))))) rfl ?_) | (refine (vF_g rfl rfl).trans ?_; refine (vF_g rfl rfl).trans ?_; refine Eq.trans (b := gd (Nat.ble ((0 + k) % 4294967296 + 1) 627) (gd (Nat.ble ((0 + k) % 4294967296 + 1) 627) (vFn (vM MT0 D) nb_X11_copies F1 1 0 [vR 453, vI 0, vR 455, vI 0, vI ((k + 1) % 4294967296)] [] (vup f 455 ((0 + k) % 4294967296) (f 453 ((0 + k) % 4294967296)))))) rfl ?_) | (refine (vF_g rfl rfl).trans ?_; refine Eq.trans (b := gd (Nat.ble ((0 + k) % 4294967296 + 1) 627) (gd (Nat.ble ((0 + k) % 4294967296 + 1) 627) (vFn (vM MT0 D) nb_X11_copies F1 1 0 [vR 453, vI 0, vR 455, vI 0, vI ((k + 1) % 4294967296)] [] (vup f 455 ((0 + k) % 4294967296) (f 453 ((0 + k) % 4294967296)))))) rfl ?_))
        rw [hX, hb, Nat.mod_eq_of_lt (show k + 1 < 4294967296 by omega)]
        exact e
      · by_cases r : i = k
        · subst r
          exact (h2 i (by omega)).trans vup_eq
        · exact (h1 i (by omega) b).trans (vup_ne (Or.inl (by decide)))
    · obtain ⟨_, ⟨g, e, h1, h2, h3⟩⟩ := ih (k + 1) F1 (vup f 453 k (f 455 k)) (by omega) (by omega)
      refine ⟨g, ?_, fun i a b => ?_, fun i a => (h2 i (by omega)).trans (vup_ne (Or.inr (by omega))), fun x y w => (h3 x y w).trans (vup_ne (Or.inl w))⟩
      · (first | (refine (vlt (x := k) (y := 627) (by decide) (by omega)).trans ?_) | (refine (vF_g rfl rfl).trans ?_; refine (vF_g rfl rfl).trans ?_; refine (vlt (x := k) (y := 627) (by decide) (by omega)).trans ?_) | (refine (vF_g rfl rfl).trans ?_; refine (vlt (x := k) (y := 627) (by decide) (by omega)).trans ?_))
        (first | (refine Eq.trans (b := gd (Nat.ble ((0 + k) % 4294967296 + 1) 627) (gd (Nat.ble ((0 + k) % 4294967296 + 1) 627) (vFn (vM MT0 D) nb_X11_copies F1 1 0 [vR 455, vI 0, vR 453, vI 0, vI ((k + 1) % 4294967296)] [] (vup f 453 ((0 + k) % 4294967296) (f 455 ((0 + k) % 4294967296)))))) rfl ?_) | (refine (vF_g rfl rfl).trans ?_; refine (vF_g rfl rfl).trans ?_; refine Eq.trans (b := gd (Nat.ble ((0 + k) % 4294967296 + 1) 627) (gd (Nat.ble ((0 + k) % 4294967296 + 1) 627) (vFn (vM MT0 D) nb_X11_copies F1 1 0 [vR 455, vI 0, vR 453, vI 0, vI ((k + 1) % 4294967296)] [] (vup f 453 ((0 + k) % 4294967296) (f 455 ((0 + k) % 4294967296)))))) rfl ?_) | (refine (vF_g rfl rfl).trans ?_; refine Eq.trans (b := gd (Nat.ble ((0 + k) % 4294967296 + 1) 627) (gd (Nat.ble ((0 + k) % 4294967296 + 1) 627) (vFn (vM MT0 D) nb_X11_copies F1 1 0 [vR 455, vI 0, vR 453, vI 0, vI ((k + 1) % 4294967296)] [] (vup f 453 ((0 + k) % 4294967296) (f 455 ((0 + k) % 4294967296)))))) rfl ?_))
        rw [hX, hb, Nat.mod_eq_of_lt (show k + 1 < 4294967296 by omega)]
        exact e
      · by_cases r : i = k
        · subst r
          exact (h2 i (by omega)).trans vup_eq
        · exact (h1 i (by omega) b).trans (vup_ne (Or.inl (by decide)))
theorem v_copy1 {D : Nat} {f : Vw} : ∃ g, vM MT0 (D + 1) 178 [vR 453, vI 0, vR 455, vI 0] f = some ((1, 0), vW 3, g) ∧ (∀ i, i < 627 → g 455 i = f 453 i) ∧ ∀ x y, x ≠ 455 → g x y = f x y := by
  obtain ⟨F, hF, go⟩ := vM_at (D := D) (y := 178) (as := [vR 453, vI 0, vR 455, vI 0]) (f := f) rfl rfl rfl rfl
  obtain ⟨⟨g, e, h1, _, h3⟩, _⟩ := cp_is (D := D) 627 0 (F + 59) f (by decide) (by omega)
  exact ⟨g, go _ <| (by (first | (refine Eq.trans (b := vFn (vM MT0 D) nb_X11_copies (F + 59) 1 0 [vR 453, vI 0, vR 455, vI 0, vI 0] [] f) rfl ?_) | (refine (vF_g rfl rfl).trans ?_; refine (vF_g rfl rfl).trans ?_; refine Eq.trans (b := vFn (vM MT0 D) nb_X11_copies (F + 59) 1 0 [vR 453, vI 0, vR 455, vI 0, vI 0] [] f) rfl ?_) | (refine (vF_g rfl rfl).trans ?_; refine Eq.trans (b := vFn (vM MT0 D) nb_X11_copies (F + 59) 1 0 [vR 453, vI 0, vR 455, vI 0, vI 0] [] f) rfl ?_)); (first | (exact e) | (refine (vF_g rfl rfl).trans ?_; refine (vF_g rfl rfl).trans ?_; exact e) | (refine (vF_g rfl rfl).trans ?_; exact e))), fun i hi => h1 i (Nat.zero_le i) hi, h3⟩
theorem v_copy2 {D : Nat} {f : Vw} : ∃ g, vM MT0 (D + 1) 178 [vR 455, vI 0, vR 453, vI 0] f = some ((1, 0), vW 3, g) ∧ (∀ i, i < 627 → g 453 i = f 455 i) ∧ ∀ x y, x ≠ 453 → g x y = f x y := by
  obtain ⟨F, hF, go⟩ := vM_at (D := D) (y := 178) (as := [vR 455, vI 0, vR 453, vI 0]) (f := f) rfl rfl rfl rfl
  obtain ⟨_, ⟨g, e, h1, _, h3⟩⟩ := cp_is (D := D) 627 0 (F + 59) f (by decide) (by omega)
  exact ⟨g, go _ <| (by (first | (refine Eq.trans (b := vFn (vM MT0 D) nb_X11_copies (F + 59) 1 0 [vR 455, vI 0, vR 453, vI 0, vI 0] [] f) rfl ?_) | (refine (vF_g rfl rfl).trans ?_; refine (vF_g rfl rfl).trans ?_; refine Eq.trans (b := vFn (vM MT0 D) nb_X11_copies (F + 59) 1 0 [vR 455, vI 0, vR 453, vI 0, vI 0] [] f) rfl ?_) | (refine (vF_g rfl rfl).trans ?_; refine Eq.trans (b := vFn (vM MT0 D) nb_X11_copies (F + 59) 1 0 [vR 455, vI 0, vR 453, vI 0, vI 0] [] f) rfl ?_)); (first | (exact e) | (refine (vF_g rfl rfl).trans ?_; refine (vF_g rfl rfl).trans ?_; exact e) | (refine (vF_g rfl rfl).trans ?_; exact e))), fun i hi => h1 i (Nat.zero_le i) hi, h3⟩
/-- the state's row made empty -/
theorem ze_is {D : Nat} : ∀ (m k c F : Nat) (f : Vw), k + m = 627 → c + 2 * m + 2 ≤ F → ∃ g c', c ≤ c' ∧ vFn (vM MT0 D) nb_X11_load F 1 0 [vR 452, vI k] [] f = vFn (vM MT0 D) nb_X11_load c' 3 0 [vR 452, vI 627] [] g ∧ (∀ i, k ≤ i → i < 627 → g 453 i = 0) ∧ (∀ i, i < k → g 453 i = f 453 i) ∧ ∀ x y, x ≠ 453 → g x y = f x y := by
  intro m
  induction m with
  | zero =>
    intro k c F f hk hF
    obtain ⟨F1, rfl⟩ : ∃ F1, F = F1 + 1 := ⟨F - 1, by omega⟩
    have e : k = 627 := by omega
    subst e
    exact ⟨f, F1, by omega, (by (first | (refine (vge2 (x := 627) (y := 627) (by decide) (by decide)).trans ?_) | (refine (vF_g rfl rfl).trans ?_; refine (vF_g rfl rfl).trans ?_; refine (vge2 (x := 627) (y := 627) (by decide) (by decide)).trans ?_) | (refine (vF_g rfl rfl).trans ?_; refine (vge2 (x := 627) (y := 627) (by decide) (by decide)).trans ?_)); (first | (exact rfl) | (refine (vF_g rfl rfl).trans ?_; refine (vF_g rfl rfl).trans ?_; exact rfl) | (refine (vF_g rfl rfl).trans ?_; refine (vF_g rfl rfl).trans ?_; refine (vF_g rfl rfl).trans ?_; exact rfl) | (refine (vF_g rfl rfl).trans ?_; exact rfl))), fun i a b => by omega, fun _ _ => rfl, fun _ _ _ => rfl⟩
  | succ m ih =>
    intro k c F f hk hF
    obtain ⟨F1, rfl⟩ : ∃ F1, F = F1 + 2 := ⟨F - 2, by omega⟩
    obtain ⟨g, c', h0, e, h1, h2, h3⟩ := ih (k + 1) c F1 (vup f 453 k 0) (by omega) (by omega)
    refine ⟨g, c', h0, ?_, fun i a b => ?_, fun i a => (h2 i (by omega)).trans (vup_ne (Or.inr (by omega))), fun x y w => (h3 x y w).trans (vup_ne (Or.inl w))⟩
    · (first | (refine (vlt (x := k) (y := 627) (by decide) (by omega)).trans ?_) | (refine (vF_g rfl rfl).trans ?_; refine (vF_g rfl rfl).trans ?_; refine (vlt (x := k) (y := 627) (by decide) (by omega)).trans ?_) | (refine (vF_g rfl rfl).trans ?_; refine (vlt (x := k) (y := 627) (by decide) (by omega)).trans ?_))
      (first | (refine Eq.trans (b := gd (Nat.ble (k + 1) 627) (vFn (vM MT0 D) nb_X11_load F1 1 0 [vR 452, vI ((k + 1) % 4294967296)] [] (vup f 453 k 0))) rfl ?_) | (refine (vF_g rfl rfl).trans ?_; refine (vF_g rfl rfl).trans ?_; refine Eq.trans (b := gd (Nat.ble (k + 1) 627) (vFn (vM MT0 D) nb_X11_load F1 1 0 [vR 452, vI ((k + 1) % 4294967296)] [] (vup f 453 k 0))) rfl ?_) | (refine (vF_g rfl rfl).trans ?_; refine Eq.trans (b := gd (Nat.ble (k + 1) 627) (vFn (vM MT0 D) nb_X11_load F1 1 0 [vR 452, vI ((k + 1) % 4294967296)] [] (vup f 453 k 0))) rfl ?_))
      rw [Nat.ble_eq_true_of_le (show k + 1 ≤ 627 by omega), Nat.mod_eq_of_lt (show k + 1 < 4294967296 by omega)]
      exact e
    · by_cases r : i = k
      · subst r
        exact (h2 i (by omega)).trans vup_eq
      · exact h1 i (by omega) b
noncomputable def sta (f : Vw) : Vw := vup (vup (vup (vup f 452 17 0) 452 18 0) 452 20 0) 452 21 4294967295
theorem v_starts {D : Nat} {f : Vw} : vM MT0 (D + 1) 243 [vR 452] f = some ((1, 0), vW 3, sta f) := vM_go rfl rfl rfl rfl fun F hF => (by (first | (exact rfl) | (refine (vF_g rfl rfl).trans ?_; refine (vF_g rfl rfl).trans ?_; exact rfl) | (refine (vF_g rfl rfl).trans ?_; refine (vF_g rfl rfl).trans ?_; refine (vF_g rfl rfl).trans ?_; exact rfl) | (refine (vF_g rfl rfl).trans ?_; exact rfl)))
noncomputable def ens (f : Vw) : Vw := vup (vup (vup f 452 16 0) 452 22 (vup f 452 16 0 452 20)) 452 23 (vup (vup f 452 16 0) 452 22 (vup f 452 16 0 452 20) 452 21)
theorem v_ends {D : Nat} {f : Vw} (h : f 452 20 < 4294967296) : vM MT0 (D + 1) 244 [vR 452] f = some ((0, 0), vI (if f 452 20 = 0 then 1 else 0), ens f) := by
  have e : ens f 452 20 = f 452 20 := (vup_ne (Or.inr (by decide))).trans ((vup_ne (Or.inr (by decide))).trans (vup_ne (Or.inr (by decide))))
  by_cases q : f 452 20 = 0
  · rw [if_pos q]
    refine vM_go rfl rfl rfl rfl fun F hF => ?_
    (first | (refine (veq (e.trans q)).trans ?_) | (refine (vF_g rfl rfl).trans ?_; refine (vF_g rfl rfl).trans ?_; refine (veq (e.trans q)).trans ?_) | (refine (vF_g rfl rfl).trans ?_; refine (veq (e.trans q)).trans ?_))
    (first | (exact rfl) | (refine (vF_g rfl rfl).trans ?_; refine (vF_g rfl rfl).trans ?_; exact rfl) | (refine (vF_g rfl rfl).trans ?_; refine (vF_g rfl rfl).trans ?_; refine (vF_g rfl rfl).trans ?_; exact rfl) | (refine (vF_g rfl rfl).trans ?_; exact rfl))
  · rw [if_neg q]
    refine vM_go rfl rfl rfl rfl fun F hF => ?_
    (first | (refine (vne (x := ens f 452 20) (y := 0) (by rw [e]; exact h) (by decide) (by rw [e]; exact q)).trans ?_) | (refine (vF_g rfl rfl).trans ?_; refine (vF_g rfl rfl).trans ?_; refine (vne (x := ens f 452 20) (y := 0) (by rw [e]; exact h) (by decide) (by rw [e]; exact q)).trans ?_) | (refine (vF_g rfl rfl).trans ?_; refine (vne (x := ens f 452 20) (y := 0) (by rw [e]; exact h) (by decide) (by rw [e]; exact q)).trans ?_))
    (first | (exact rfl) | (refine (vF_g rfl rfl).trans ?_; refine (vF_g rfl rfl).trans ?_; exact rfl) | (refine (vF_g rfl rfl).trans ?_; refine (vF_g rfl rfl).trans ?_; refine (vF_g rfl rfl).trans ?_; exact rfl) | (refine (vF_g rfl rfl).trans ?_; exact rfl))
theorem v_passes {D b : Nat} {f : Vw} (h : b = 0 ∨ b = 1) : vM MT0 (D + 1) 176 [vR 452, vI b] f = some ((0, 0), vI b, vup f 452 6 (1 - b)) := by
  rcases h with rfl | rfl
  · refine vM_go rfl rfl rfl rfl fun F hF => ?_
    (first | (refine (veq (x := 0) (y := 0) rfl).trans ?_) | (refine (vF_g rfl rfl).trans ?_; refine (vF_g rfl rfl).trans ?_; refine (veq (x := 0) (y := 0) rfl).trans ?_) | (refine (vF_g rfl rfl).trans ?_; refine (veq (x := 0) (y := 0) rfl).trans ?_))
    (first | (exact rfl) | (refine (vF_g rfl rfl).trans ?_; refine (vF_g rfl rfl).trans ?_; exact rfl) | (refine (vF_g rfl rfl).trans ?_; refine (vF_g rfl rfl).trans ?_; refine (vF_g rfl rfl).trans ?_; exact rfl) | (refine (vF_g rfl rfl).trans ?_; exact rfl))
  · refine vM_go rfl rfl rfl rfl fun F hF => ?_
    (first | (refine (vgt (x := 1) (y := 0) (by decide) (by decide)).trans ?_) | (refine (vF_g rfl rfl).trans ?_; refine (vF_g rfl rfl).trans ?_; refine (vgt (x := 1) (y := 0) (by decide) (by decide)).trans ?_) | (refine (vF_g rfl rfl).trans ?_; refine (vgt (x := 1) (y := 0) (by decide) (by decide)).trans ?_))
    (first | (exact rfl) | (refine (vF_g rfl rfl).trans ?_; refine (vF_g rfl rfl).trans ?_; exact rfl) | (refine (vF_g rfl rfl).trans ?_; refine (vF_g rfl rfl).trans ?_; refine (vF_g rfl rfl).trans ?_; exact rfl) | (refine (vF_g rfl rfl).trans ?_; exact rfl))
theorem oStm_i {T : Nat → Nat} {c d p q : Nat} {E V : Nat → Nat → Nat} (h : tS T p = tS T q) : oStm T c d E V p = oStm T c d E V q := by
  unfold oStm
  rw [tK_i h, tE_i h, h]
theorem tK_0 {T : Nat → Nat} {p : Nat} (hT : T (tS T p) < 256 ∨ T (tS T p) = 4294967295) : tK T p = 0 ↔ T (tS T p) = 4294967295 := by
  unfold tK kd9
  constructor
  · intro w
    by_cases a : 97 ≤ T (tS T p) ∧ T (tS T p) ≤ 122
    · rw [if_pos a] at w
      cases w
    · rw [if_neg a] at w
      by_cases b : 48 ≤ T (tS T p) ∧ T (tS T p) ≤ 57
      · rw [if_pos b] at w
        cases w
      · rw [if_neg b] at w
        by_cases q : T (tS T p) = 59
        · rw [if_pos q] at w
          cases w
        · rw [if_neg q] at w
          by_cases q2 : T (tS T p) = 32
          · rw [if_pos q2] at w
            cases w
          · rw [if_neg q2] at w
            by_cases q3 : T (tS T p) = 4294967295
            · exact q3
            · rw [if_neg q3] at w
              cases w
  · intro w
    rw [w]
    (first | (exact rfl) | (refine (vF_g rfl rfl).trans ?_; refine (vF_g rfl rfl).trans ?_; exact rfl) | (refine (vF_g rfl rfl).trans ?_; refine (vF_g rfl rfl).trans ?_; refine (vF_g rfl rfl).trans ?_; exact rfl) | (refine (vF_g rfl rfl).trans ?_; exact rfl))
/-- statement after statement -/
theorem v_allR {D n : Nat} {T : Nat → Nat} : ∀ (m c d p F : Nat) (E V : Nat → Nat → Nat) (f : Vw), n < p + m → 5 * m + 12 ≤ F → RS n T E V c d p f → ∃ g F', 4 ≤ F' ∧ vFn (vM MT0 (D + 7)) nb_X11_load F 5 0 [vR 452, vI 627] [] f = vFn (vM MT0 (D + 7)) nb_X11_load F' 10 0 [vR 452, vI 627] [] g ∧ ((oAll T m c d E V p).1.1 = 0 → ∃ p', RS n T (oAll T m c d E V p).2.2.1 (oAll T m c d E V p).2.2.2 (oAll T m c d E V p).2.1.1 (oAll T m c d E V p).2.1.2 p' g) ∧ ((oAll T m c d E V p).1.1 ≠ 0 → ERR (oAll T m c d E V p).1.1 (oAll T m c d E V p).1.2 g) := by
  intro m
  induction m with
  | zero =>
    intro c d p F E V f hp hF h
    have := h.le
    omega
  | succ m ih =>
    intro c d p F E V f hp hF h
    obtain ⟨F1, rfl⟩ : ∃ F1, F = F1 + 5 := ⟨F - 5, by omega⟩
    have hT := h.tx.2.2.2.1 (tS T p)
    have hc9 := h.c9
    have hd9 := h.d9
    have x := v_nextR (D := D + 5) h.tx h.at_ h.le
    have hi := tS_i h.tx.1 h.tx.2.2.2.2 h.le
    by_cases A : tK T p = 0 ∧ 0 < c ∧ 0 < d
    · rw [show oAll T (m + 1) c d E V p = ((0, p), (c, d), (E, V)) from (if_pos A.1).trans (if_pos A.2)]
      exact ⟨rkv f T p, F1 + 1, by omega, (by (first | (refine (veq h.er.1).trans ?_) | (refine (vF_g rfl rfl).trans ?_; refine (vF_g rfl rfl).trans ?_; refine (veq h.er.1).trans ?_) | (refine (vF_g rfl rfl).trans ?_; refine (veq h.er.1).trans ?_)); (first | (refine (vgt (x := f 453 0) (y := 0) (by rw [h.c0]; omega) (by rw [h.c0]; exact A.2.1)).trans ?_) | (refine (vF_g rfl rfl).trans ?_; refine (vF_g rfl rfl).trans ?_; refine (vgt (x := f 453 0) (y := 0) (by rw [h.c0]; omega) (by rw [h.c0]; exact A.2.1)).trans ?_) | (refine (vF_g rfl rfl).trans ?_; refine (vgt (x := f 453 0) (y := 0) (by rw [h.c0]; omega) (by rw [h.c0]; exact A.2.1)).trans ?_)); (first | (refine (vgt (x := f 453 1) (y := 0) (by rw [h.d0]; omega) (by rw [h.d0]; exact A.2.2)).trans ?_) | (refine (vF_g rfl rfl).trans ?_; refine (vF_g rfl rfl).trans ?_; refine (vgt (x := f 453 1) (y := 0) (by rw [h.d0]; omega) (by rw [h.d0]; exact A.2.2)).trans ?_) | (refine (vF_g rfl rfl).trans ?_; refine (vgt (x := f 453 1) (y := 0) (by rw [h.d0]; omega) (by rw [h.d0]; exact A.2.2)).trans ?_)); (first | (refine (vbnd_0 x).trans ?_) | (refine (vF_g rfl rfl).trans ?_; refine (vF_g rfl rfl).trans ?_; refine (vbnd_0 x).trans ?_) | (refine (vF_g rfl rfl).trans ?_; refine (vbnd_0 x).trans ?_)); (first | (exact (veq ((tK_0 hT).mp A.1))) | (refine (vF_g rfl rfl).trans ?_; refine (vF_g rfl rfl).trans ?_; exact (veq ((tK_0 hT).mp A.1))) | (refine (vF_g rfl rfl).trans ?_; exact (veq ((tK_0 hT).mp A.1))))), fun _ => ⟨_, rs_rkv h⟩, fun w => absurd rfl w⟩
    · have eo : oAll T (m + 1) c d E V p = if (oStm T c d E V p).1.1 = 0 then oAll T m (oStm T c d E V p).2.1.1 (oStm T c d E V p).2.1.2 (oStm T c d E V p).2.2.1 (oStm T c d E V p).2.2.2 (oStm T c d E V p).1.2 else oStm T c d E V p := by
        by_cases k0 : tK T p = 0
        · have n9 : ∀ w, ¬ wOKc T w p := fun w z => by
            have := z.1
            omega
          rw [oStm_n (n9 28) (n9 29) (n9 30)]
          exact (if_pos k0).trans ((if_neg (fun w => A ⟨k0, w⟩)).trans (if_neg n01).symm)
        · exact if_neg k0
      rw [eo]
      have to9 : ∃ f9 F9, F1 + 1 ≤ F9 ∧ (f9 = f ∨ f9 = rkv f T p) ∧ ∀ r, vFn (vM MT0 (D + 7)) nb_X11_load F9 9 0 [vR 452, vI 627] [] f9 = r → vFn (vM MT0 (D + 7)) nb_X11_load (F1 + 5) 5 0 [vR 452, vI 627] [] f = r := by
        by_cases c0 : c = 0
        · exact ⟨f, F1 + 3, by omega, Or.inl rfl, fun r hr => (by (first | (refine (veq h.er.1).trans ?_) | (refine (vF_g rfl rfl).trans ?_; refine (vF_g rfl rfl).trans ?_; refine (veq h.er.1).trans ?_) | (refine (vF_g rfl rfl).trans ?_; refine (veq h.er.1).trans ?_)); (first | (refine (veq (h.c0.trans c0)).trans ?_) | (refine (vF_g rfl rfl).trans ?_; refine (vF_g rfl rfl).trans ?_; refine (veq (h.c0.trans c0)).trans ?_) | (refine (vF_g rfl rfl).trans ?_; refine (veq (h.c0.trans c0)).trans ?_)); (first | (exact hr) | (refine (vF_g rfl rfl).trans ?_; refine (vF_g rfl rfl).trans ?_; exact hr) | (refine (vF_g rfl rfl).trans ?_; exact hr)))⟩
        · by_cases d0 : d = 0
          · exact ⟨f, F1 + 2, by omega, Or.inl rfl, fun r hr => (by (first | (refine (veq h.er.1).trans ?_) | (refine (vF_g rfl rfl).trans ?_; refine (vF_g rfl rfl).trans ?_; refine (veq h.er.1).trans ?_) | (refine (vF_g rfl rfl).trans ?_; refine (veq h.er.1).trans ?_)); (first | (refine (vgt (x := f 453 0) (y := 0) (by rw [h.c0]; omega) (by rw [h.c0]; omega)).trans ?_) | (refine (vF_g rfl rfl).trans ?_; refine (vF_g rfl rfl).trans ?_; refine (vgt (x := f 453 0) (y := 0) (by rw [h.c0]; omega) (by rw [h.c0]; omega)).trans ?_) | (refine (vF_g rfl rfl).trans ?_; refine (vgt (x := f 453 0) (y := 0) (by rw [h.c0]; omega) (by rw [h.c0]; omega)).trans ?_)); (first | (refine (veq (h.d0.trans d0)).trans ?_) | (refine (vF_g rfl rfl).trans ?_; refine (vF_g rfl rfl).trans ?_; refine (veq (h.d0.trans d0)).trans ?_) | (refine (vF_g rfl rfl).trans ?_; refine (veq (h.d0.trans d0)).trans ?_)); (first | (exact hr) | (refine (vF_g rfl rfl).trans ?_; refine (vF_g rfl rfl).trans ?_; exact hr) | (refine (vF_g rfl rfl).trans ?_; exact hr)))⟩
          · have k0 : ¬ T (tS T p) = 4294967295 := fun w => A ⟨(tK_0 hT).mpr w, by omega, by omega⟩
            exact ⟨rkv f T p, F1 + 1, by omega, Or.inr rfl, fun r hr => (by (first | (refine (veq h.er.1).trans ?_) | (refine (vF_g rfl rfl).trans ?_; refine (vF_g rfl rfl).trans ?_; refine (veq h.er.1).trans ?_) | (refine (vF_g rfl rfl).trans ?_; refine (veq h.er.1).trans ?_)); (first | (refine (vgt (x := f 453 0) (y := 0) (by rw [h.c0]; omega) (by rw [h.c0]; omega)).trans ?_) | (refine (vF_g rfl rfl).trans ?_; refine (vF_g rfl rfl).trans ?_; refine (vgt (x := f 453 0) (y := 0) (by rw [h.c0]; omega) (by rw [h.c0]; omega)).trans ?_) | (refine (vF_g rfl rfl).trans ?_; refine (vgt (x := f 453 0) (y := 0) (by rw [h.c0]; omega) (by rw [h.c0]; omega)).trans ?_)); (first | (refine (vgt (x := f 453 1) (y := 0) (by rw [h.d0]; omega) (by rw [h.d0]; omega)).trans ?_) | (refine (vF_g rfl rfl).trans ?_; refine (vF_g rfl rfl).trans ?_; refine (vgt (x := f 453 1) (y := 0) (by rw [h.d0]; omega) (by rw [h.d0]; omega)).trans ?_) | (refine (vF_g rfl rfl).trans ?_; refine (vgt (x := f 453 1) (y := 0) (by rw [h.d0]; omega) (by rw [h.d0]; omega)).trans ?_)); (first | (refine (vbnd_0 x).trans ?_) | (refine (vF_g rfl rfl).trans ?_; refine (vF_g rfl rfl).trans ?_; refine (vbnd_0 x).trans ?_) | (refine (vF_g rfl rfl).trans ?_; refine (vbnd_0 x).trans ?_)); (first | (refine (vne (x := T (tS T p)) (y := 4294967295) (by omega) (by decide) k0).trans ?_) | (refine (vF_g rfl rfl).trans ?_; refine (vF_g rfl rfl).trans ?_; refine (vne (x := T (tS T p)) (y := 4294967295) (by omega) (by decide) k0).trans ?_) | (refine (vF_g rfl rfl).trans ?_; refine (vne (x := T (tS T p)) (y := 4294967295) (by omega) (by decide) k0).trans ?_)); (first | (exact hr) | (refine (vF_g rfl rfl).trans ?_; refine (vF_g rfl rfl).trans ?_; exact hr) | (refine (vF_g rfl rfl).trans ?_; exact hr)))⟩
      obtain ⟨f9, F9, hF9, hf9, s9⟩ := to9
      obtain ⟨p9, h9, hp9⟩ : ∃ p9, RS n T E V c d p9 f9 ∧ tS T p9 = tS T p := by
        rcases hf9 with rfl | rfl
        · exact ⟨p, h, rfl⟩
        · exact ⟨tS T p, rs_rkv h, hi⟩
      obtain ⟨w1, w2⟩ := v_stmR (D := D + 1) h9
      rw [oStm_i hp9] at w1 w2
      obtain ⟨F2, rfl⟩ : ∃ F2, F9 = F2 + 1 := ⟨F9 - 1, by omega⟩
      by_cases k1 : (oStm T c d E V p).1.1 = 0
      · rw [if_pos k1]
        obtain ⟨g, e, hg⟩ := w1 k1
        have hlt := mo_Stm h.tx.2.2.2.2 h.le k1
        obtain ⟨g', F', a1, a2, a3⟩ := ih _ _ _ F2 _ _ g (by omega) (by omega) hg
        exact ⟨g', F', a1, s9 _ ((by (first | (refine (vbnd_1 e).trans ?_) | (refine (vF_g rfl rfl).trans ?_; refine (vF_g rfl rfl).trans ?_; refine (vbnd_1 e).trans ?_) | (refine (vF_g rfl rfl).trans ?_; refine (vbnd_1 e).trans ?_)); (first | (exact a2) | (refine (vF_g rfl rfl).trans ?_; refine (vF_g rfl rfl).trans ?_; exact a2) | (refine (vF_g rfl rfl).trans ?_; exact a2)))), a3⟩
      · rw [if_neg k1]
        obtain ⟨g, e, hg⟩ := w2 k1
        obtain ⟨F3, rfl⟩ : ∃ F3, F2 = F3 + 1 := ⟨F2 - 1, by omega⟩
        exact ⟨g, F3, by omega, s9 _ ((by (first | (refine (vbnd_1 e).trans ?_) | (refine (vF_g rfl rfl).trans ?_; refine (vF_g rfl rfl).trans ?_; refine (vbnd_1 e).trans ?_) | (refine (vF_g rfl rfl).trans ?_; refine (vbnd_1 e).trans ?_)); (first | (exact (vne (by rw [hg.1]; exact hg.2.2.2) (by decide) (by rw [hg.1]; exact hg.2.2.1))) | (refine (vF_g rfl rfl).trans ?_; refine (vF_g rfl rfl).trans ?_; exact (vne (by rw [hg.1]; exact hg.2.2.2) (by decide) (by rw [hg.1]; exact hg.2.2.1))) | (refine (vF_g rfl rfl).trans ?_; exact (vne (by rw [hg.1]; exact hg.2.2.2) (by decide) (by rw [hg.1]; exact hg.2.2.1)))))), fun w => absurd w k1, fun _ => hg⟩
theorem ld_3 {D F a : Nat} {f g1 g2 g3 : Vw} {r : Option VR} (e1 : vM MT0 (D + 1) 233 [vR 452, vW 21] (sta f) = some ((1, 0), vW 3, g1)) (e2 : vM MT0 (D + 1) 235 [vR 452, vI 1, vI 30] g1 = some ((0, 0), vI a, g2)) (e3 : vM MT0 (D + 1) 234 [vR 452] (vup g2 453 3 a) = some ((1, 0), vW 3, g3)) (e4 : vc3 (bv (g3 452 20)) (bv 0) (vFn (vM MT0 (D + 1)) nb_X11_load F 5 0 [vR 452, vI 627] [] g3) (vFn (vM MT0 (D + 1)) nb_X11_load F 4 0 [vR 452, vI 627] [] g3) (vFn (vM MT0 (D + 1)) nb_X11_load F 5 0 [vR 452, vI 627] [] g3) = r) : vFn (vM MT0 (D + 1)) nb_X11_load (F + 1) 3 0 [vR 452, vI 627] [] f = r := (by (first | (refine (vbnd_1 v_starts).trans ?_) | (refine (vF_g rfl rfl).trans ?_; refine (vF_g rfl rfl).trans ?_; refine (vbnd_1 v_starts).trans ?_) | (refine (vF_g rfl rfl).trans ?_; refine (vbnd_1 v_starts).trans ?_)); (first | (refine (vbnd_1 e1).trans ?_) | (refine (vF_g rfl rfl).trans ?_; refine (vF_g rfl rfl).trans ?_; refine (vbnd_1 e1).trans ?_) | (refine (vF_g rfl rfl).trans ?_; refine (vbnd_1 e1).trans ?_)); (first | (refine (vbnd_0 e2).trans ?_) | (refine (vF_g rfl rfl).trans ?_; refine (vF_g rfl rfl).trans ?_; refine (vbnd_0 e2).trans ?_) | (refine (vF_g rfl rfl).trans ?_; refine (vbnd_0 e2).trans ?_)); (first | (refine (vbnd_1 e3).trans ?_) | (refine (vF_g rfl rfl).trans ?_; refine (vF_g rfl rfl).trans ?_; refine (vbnd_1 e3).trans ?_) | (refine (vF_g rfl rfl).trans ?_; refine (vbnd_1 e3).trans ?_)); (first | (exact e4) | (refine (vF_g rfl rfl).trans ?_; refine (vF_g rfl rfl).trans ?_; exact e4) | (refine (vF_g rfl rfl).trans ?_; exact e4)))
/-- the reference's load, out of the text alone -/
theorem v_loadR {D n : Nat} {T : Nat → Nat} {f : Vw} (hx : TxR f n T) : ((oCfg T).1.1 = 0 → ∃ g p', vM MT0 (D + 8) 252 [vR 452] f = some ((0, 0), vI (oCfg T).2.1.1, g) ∧ g 452 6 = 0 ∧ g 452 22 = 0 ∧ g 452 23 = 4294967295 ∧ ∃ g0, RS n T (oCfg T).2.2.1 (oCfg T).2.2.2 (oCfg T).2.1.1 (oCfg T).2.1.2 p' g0 ∧ ∀ i, g 453 i = g0 453 i) ∧ ((oCfg T).1.1 ≠ 0 → ∃ g, vM MT0 (D + 8) 252 [vR 452] f = some ((0, 0), vI 0, g) ∧ g 452 6 = 1 ∧ g 452 22 = (oCfg T).1.1 ∧ g 452 23 = (oCfg T).1.2) := by
  have hn := hx.1
  obtain ⟨f1, e1, _, fr1⟩ := v_copy1 (D := D + 6) (f := f)
  obtain ⟨F0, hF0, go⟩ := vM_at (D := D + 7) (y := 252) (as := [vR 452]) (f := f) rfl rfl rfl rfl
  obtain ⟨f2, F2, hF2, e2, z2, _, fr2⟩ := ze_is (D := D + 7) 627 0 990000 (F0 + 59) f1 (by decide) (by omega)
  have o2 : ∀ a b, a ≠ 453 → a ≠ 455 → f2 a b = f a b := fun a b h1 h2 => (fr2 a b h1).trans (fr1 a b h2)
  have os : ∀ a b, a ≠ 452 → sta f2 a b = f2 a b := fun a b w => (vup_ne (Or.inl w)).trans ((vup_ne (Or.inl w)).trans ((vup_ne (Or.inl w)).trans (vup_ne (Or.inl w))))
  have s0 : ∀ r, vFn (vM MT0 (D + 7)) nb_X11_load F2 3 0 [vR 452, vI 627] [] f2 = r → vM MT0 (D + 8) 252 [vR 452] f = r := fun r hr => go r ((by (first | (refine (vbnd_1 e1).trans ?_) | (refine (vF_g rfl rfl).trans ?_; refine (vF_g rfl rfl).trans ?_; refine (vbnd_1 e1).trans ?_) | (refine (vF_g rfl rfl).trans ?_; refine (vbnd_1 e1).trans ?_)); (first | (refine Eq.trans (b := vFn (vM MT0 (D + 7)) nb_X11_load (F0 + 59) 1 0 [vR 452, vI 0] [] f1) rfl ?_) | (refine (vF_g rfl rfl).trans ?_; refine (vF_g rfl rfl).trans ?_; refine Eq.trans (b := vFn (vM MT0 (D + 7)) nb_X11_load (F0 + 59) 1 0 [vR 452, vI 0] [] f1) rfl ?_) | (refine (vF_g rfl rfl).trans ?_; refine Eq.trans (b := vFn (vM MT0 (D + 7)) nb_X11_load (F0 + 59) 1 0 [vR 452, vI 0] [] f1) rfl ?_)); refine e2.trans ?_; (first | (exact hr) | (refine (vF_g rfl rfl).trans ?_; refine (vF_g rfl rfl).trans ?_; exact hr) | (refine (vF_g rfl rfl).trans ?_; exact hr))))
  have h0 : RS n T (fun _ _ => 0) (fun _ _ => 0) 0 0 0 (sta f2) := ⟨txR_of hx ((vup_ne (Or.inr (by decide))).trans ((vup_ne (Or.inr (by decide))).trans ((vup_ne (Or.inr (by decide))).trans ((vup_ne (Or.inr (by decide))).trans (o2 _ _ (by decide) (by decide)))))) (fun i => (os _ _ (by decide)).trans (o2 _ _ (by decide) (by decide))), (vup_ne (Or.inr (by decide))).trans ((vup_ne (Or.inr (by decide))).trans ((vup_ne (Or.inr (by decide))).trans vup_eq)), Nat.zero_le _, ⟨(vup_ne (Or.inr (by decide))).trans vup_eq, vup_eq⟩, (os _ _ (by decide)).trans (z2 0 (by decide) (by decide)), by decide, (os _ _ (by decide)).trans (z2 1 (by decide) (by decide)), by decide, fun j hj => absurd hj (Nat.not_lt_zero j), fun j hj => absurd hj (Nat.not_lt_zero j)⟩
  have z4 : sta f2 453 4 = 0 := (os _ _ (by decide)).trans (z2 4 (by decide) (by decide))
  -- what follows where the parser's error stands or not
  have fine : ∀ g F', 4 ≤ F' → g 452 20 = 0 → ∃ g', vFn (vM MT0 (D + 7)) nb_X11_load F' 10 0 [vR 452, vI 627] [] g = some ((0, 0), vI (g 453 0), g') ∧ g' 452 6 = 0 ∧ g' 452 22 = 0 ∧ g' 452 23 = g 452 21 ∧ ∀ i, g' 453 i = g 453 i := by
    intro g F' hF' hg
    obtain ⟨F3, rfl⟩ : ∃ F3, F' = F3 + 4 := ⟨F' - 4, by omega⟩
    have a := v_ends (D := D + 6) (f := g) (by rw [hg]; decide)
    rw [if_pos hg] at a
    have b := v_passes (D := D + 6) (b := 1) (f := ens g) (Or.inr rfl)
    refine ⟨vup (vup (ens g) 452 6 (1 - 1)) 452 5 0, (by (first | (refine (vbnd_0 a).trans ?_) | (refine (vF_g rfl rfl).trans ?_; refine (vF_g rfl rfl).trans ?_; refine (vbnd_0 a).trans ?_) | (refine (vF_g rfl rfl).trans ?_; refine (vbnd_0 a).trans ?_)); (first | (refine (vbnd_0 b).trans ?_) | (refine (vF_g rfl rfl).trans ?_; refine (vF_g rfl rfl).trans ?_; refine (vbnd_0 b).trans ?_) | (refine (vF_g rfl rfl).trans ?_; refine (vbnd_0 b).trans ?_)); (first | (refine (vgt (x := 1) (y := 0) (by decide) (by decide)).trans ?_) | (refine (vF_g rfl rfl).trans ?_; refine (vF_g rfl rfl).trans ?_; refine (vgt (x := 1) (y := 0) (by decide) (by decide)).trans ?_) | (refine (vF_g rfl rfl).trans ?_; refine (vgt (x := 1) (y := 0) (by decide) (by decide)).trans ?_)); (first | (exact rfl) | (refine (vF_g rfl rfl).trans ?_; refine (vF_g rfl rfl).trans ?_; exact rfl) | (refine (vF_g rfl rfl).trans ?_; refine (vF_g rfl rfl).trans ?_; refine (vF_g rfl rfl).trans ?_; exact rfl) | (refine (vF_g rfl rfl).trans ?_; exact rfl))), (vup_ne (Or.inr (by decide))).trans vup_eq, ?_, ?_, fun i => rfl⟩
    · exact (vup_ne (Or.inr (by decide))).trans ((vup_ne (Or.inr (by decide))).trans ((vup_ne (Or.inr (by decide))).trans (vup_eq.trans ((vup_ne (Or.inr (by decide))).trans hg))))
    · exact (vup_ne (Or.inr (by decide))).trans ((vup_ne (Or.inr (by decide))).trans (vup_eq.trans ((vup_ne (Or.inr (by decide))).trans (vup_ne (Or.inr (by decide))))))
  have bad : ∀ g F' e q, 4 ≤ F' → ERR e q g → ∃ g', vFn (vM MT0 (D + 7)) nb_X11_load F' 10 0 [vR 452, vI 627] [] g = some ((0, 0), vI 0, g') ∧ g' 452 6 = 1 ∧ g' 452 22 = e ∧ g' 452 23 = q := by
    intro g F' e q hF' hg
    obtain ⟨F3, rfl⟩ : ∃ F3, F' = F3 + 4 := ⟨F' - 4, by omega⟩
    have a := v_ends (D := D + 6) (f := g) (by rw [hg.1]; exact hg.2.2.2)
    rw [if_neg (by rw [hg.1]; exact hg.2.2.1)] at a
    have b := v_passes (D := D + 6) (b := 0) (f := ens g) (Or.inl rfl)
    obtain ⟨g', c1, _, c3⟩ := v_copy2 (D := D + 6) (f := vup (ens g) 452 6 (1 - 0))
    refine ⟨g', (by (first | (refine (vbnd_0 a).trans ?_) | (refine (vF_g rfl rfl).trans ?_; refine (vF_g rfl rfl).trans ?_; refine (vbnd_0 a).trans ?_) | (refine (vF_g rfl rfl).trans ?_; refine (vbnd_0 a).trans ?_)); (first | (refine (vbnd_0 b).trans ?_) | (refine (vF_g rfl rfl).trans ?_; refine (vF_g rfl rfl).trans ?_; refine (vbnd_0 b).trans ?_) | (refine (vF_g rfl rfl).trans ?_; refine (vbnd_0 b).trans ?_)); (first | (refine (veq (x := 0) (y := 0) rfl).trans ?_) | (refine (vF_g rfl rfl).trans ?_; refine (vF_g rfl rfl).trans ?_; refine (veq (x := 0) (y := 0) rfl).trans ?_) | (refine (vF_g rfl rfl).trans ?_; refine (veq (x := 0) (y := 0) rfl).trans ?_)); (first | (refine (vbnd_1 c1).trans ?_) | (refine (vF_g rfl rfl).trans ?_; refine (vF_g rfl rfl).trans ?_; refine (vbnd_1 c1).trans ?_) | (refine (vF_g rfl rfl).trans ?_; refine (vbnd_1 c1).trans ?_)); (first | (exact rfl) | (refine (vF_g rfl rfl).trans ?_; refine (vF_g rfl rfl).trans ?_; exact rfl) | (refine (vF_g rfl rfl).trans ?_; refine (vF_g rfl rfl).trans ?_; refine (vF_g rfl rfl).trans ?_; exact rfl) | (refine (vF_g rfl rfl).trans ?_; exact rfl))), (c3 _ _ (by decide)).trans vup_eq, ?_, ?_⟩
    · exact (c3 _ _ (by decide)).trans ((vup_ne (Or.inr (by decide))).trans ((vup_ne (Or.inr (by decide))).trans (vup_eq.trans ((vup_ne (Or.inr (by decide))).trans hg.1))))
    · exact (c3 _ _ (by decide)).trans ((vup_ne (Or.inr (by decide))).trans (vup_eq.trans ((vup_ne (Or.inr (by decide))).trans ((vup_ne (Or.inr (by decide))).trans hg.2.1))))
  obtain ⟨F3, rfl⟩ : ∃ F3, F2 = F3 + 1 := ⟨F2 - 1, by omega⟩
  obtain ⟨F4, rfl⟩ : ∃ F4, F3 = F4 + 1 := ⟨F3 - 1, by omega⟩
  have off : ∀ e q g3, ERR e q g3 → ∀ r, vFn (vM MT0 (D + 7)) nb_X11_load F4 10 0 [vR 452, vI 627] [] g3 = r → vc3 (bv (g3 452 20)) (bv 0) (vFn (vM MT0 (D + 7)) nb_X11_load (F4 + 1) 5 0 [vR 452, vI 627] [] g3) (vFn (vM MT0 (D + 7)) nb_X11_load (F4 + 1) 4 0 [vR 452, vI 627] [] g3) (vFn (vM MT0 (D + 7)) nb_X11_load (F4 + 1) 5 0 [vR 452, vI 627] [] g3) = r := fun e q g3 hg r hr => (by (first | (refine (vne (by rw [hg.1]; exact hg.2.2.2) (by decide) (by rw [hg.1]; exact hg.2.2.1)).trans ?_) | (refine (vF_g rfl rfl).trans ?_; refine (vF_g rfl rfl).trans ?_; refine (vne (by rw [hg.1]; exact hg.2.2.2) (by decide) (by rw [hg.1]; exact hg.2.2.1)).trans ?_) | (refine (vF_g rfl rfl).trans ?_; refine (vne (by rw [hg.1]; exact hg.2.2.2) (by decide) (by rw [hg.1]; exact hg.2.2.1)).trans ?_)); (first | (refine (vne (by rw [hg.1]; exact hg.2.2.2) (by decide) (by rw [hg.1]; exact hg.2.2.1)).trans ?_) | (refine (vF_g rfl rfl).trans ?_; refine (vF_g rfl rfl).trans ?_; refine (vne (by rw [hg.1]; exact hg.2.2.2) (by decide) (by rw [hg.1]; exact hg.2.2.1)).trans ?_) | (refine (vF_g rfl rfl).trans ?_; refine (vne (by rw [hg.1]; exact hg.2.2.2) (by decide) (by rw [hg.1]; exact hg.2.2.1)).trans ?_)); (first | (exact hr) | (refine (vF_g rfl rfl).trans ?_; refine (vF_g rfl rfl).trans ?_; exact hr) | (refine (vF_g rfl rfl).trans ?_; exact hr)))
  unfold oCfg
  obtain ⟨w1, w2⟩ := v_keyword (D := D + 3) (w := 21) h0 (by decide) (by decide) (by decide)
  have es : oSeason T 0 = oW T 21 0 fun p => oN T p 1 30 fun p => oS T p fun p => (0, p) := rfl
  by_cases k1 : wOKc T 21 0
  rotate_left
  · rw [oW_1 k1] at es
    rw [es, if_neg n01]
    obtain ⟨g1, a1, hg, _⟩ := w2 k1
    have hg3 : ERR 1 (tS T 0) (vup g1 453 3 1) := err_up hg (Or.inl (by decide))
    obtain ⟨g', b1, b2⟩ := bad _ F4 _ _ (by omega) hg3
    exact ⟨fun w => absurd w n01, fun _ => ⟨g', s0 _ (ld_3 a1 (e_number hg) (e_semi hg3) (off _ _ _ hg3 _ b1)), b2⟩⟩
  rw [oW_0 k1] at es
  obtain ⟨g1, a1, r1, fr3⟩ := w1 k1
  obtain ⟨u1, u2⟩ := v_numR (D := D + 4) (lo := 1) (hi := 30) r1 (by decide) (by decide)
  by_cases k2 : nuC T (tE T 0) 1 30 = 0
  rotate_left
  · rw [oN_1 k2] at es
    rw [es, if_neg k2]
    obtain ⟨g2, a2, hg⟩ := u2 k2
    have hg3 : ERR (nuC T (tE T 0) 1 30) (tS T (tE T 0)) (vup g2 453 3 1) := err_up hg (Or.inl (by decide))
    obtain ⟨g', b1, b2⟩ := bad _ F4 _ _ (by omega) hg3
    exact ⟨fun w => absurd w k2, fun _ => ⟨g', s0 _ (ld_3 a1 a2 (e_semi hg3) (off _ _ _ hg3 _ b1)), b2⟩⟩
  rw [oN_0 k2] at es
  obtain ⟨g2, a2, r2, fr4, _⟩ := u1 k2
  have r3 : RS n T (fun _ _ => 0) (fun _ _ => 0) 0 0 (tE T (tE T 0)) (vup g2 453 3 (tV T (tE T 0))) := rs_lo r2 (by decide) (by decide)
  obtain ⟨y1, y2⟩ := v_semiR (D := D + 4) r3
  by_cases k3 : tK T (tE T (tE T 0)) = 3
  rotate_left
  · rw [oS_1 k3] at es
    rw [es, if_neg n01]
    obtain ⟨g3, a3, hg3⟩ := y2 k3
    obtain ⟨g', b1, b2⟩ := bad _ F4 _ _ (by omega) hg3
    exact ⟨fun w => absurd w n01, fun _ => ⟨g', s0 _ (ld_3 a1 a2 a3 (off _ _ _ hg3 _ b1)), b2⟩⟩
  rw [oS_0 k3] at es
  obtain ⟨g3, a3, r4, fr5⟩ := y1 k3
  rw [es, if_pos rfl]
  have z5 : g3 453 4 = 0 := (fr5 _ _ (by decide)).trans ((vup_ne (Or.inr (by decide))).trans ((fr4 _ _ (by decide)).trans ((fr3 _ _ (by decide)).trans z4)))
  obtain ⟨x1, x2⟩ := v_fogR (D := D + 2) r4 z5
  have s4 : ∀ r, vFn (vM MT0 (D + 7)) nb_X11_load (F4 + 1) 4 0 [vR 452, vI 627] [] g3 = r → vM MT0 (D + 8) 252 [vR 452] f = r := fun r hr => s0 _ (ld_3 a1 a2 a3 ((by (first | (refine (veq r4.er.1).trans ?_) | (refine (vF_g rfl rfl).trans ?_; refine (vF_g rfl rfl).trans ?_; refine (veq r4.er.1).trans ?_) | (refine (vF_g rfl rfl).trans ?_; refine (veq r4.er.1).trans ?_)); (first | (exact hr) | (refine (vF_g rfl rfl).trans ?_; refine (vF_g rfl rfl).trans ?_; exact hr) | (refine (vF_g rfl rfl).trans ?_; exact hr)))))
  obtain ⟨F5, rfl⟩ : ∃ F5, F4 = F5 + 1 := ⟨F4 - 1, by omega⟩
  show ((if (oFog T (tE T (tE T (tE T 0)))).1 = 0 then oAll T 901 0 0 (fun _ _ => 0) (fun _ _ => 0) (oFog T (tE T (tE T (tE T 0)))).2 else (oFog T (tE T (tE T (tE T 0))), (0, 0), (fun _ _ => 0, fun _ _ => 0))).1.1 = 0 → _) ∧ _
  by_cases k4 : (oFog T (tE T (tE T (tE T 0)))).1 = 0
  · rw [if_pos k4]
    obtain ⟨g4, a4, r5⟩ := x1 k4
    obtain ⟨g5, F', c1, c2, c3, c4⟩ := v_allR (D := D) 901 0 0 _ (F5 + 1) _ _ g4 (by omega) (by omega) r5
    refine ⟨fun w => ?_, fun w => ?_⟩
    · obtain ⟨p', r6⟩ := c3 w
      obtain ⟨g', b1, b2, b3, b4, b5⟩ := fine g5 F' c1 r6.er.1
      rw [r6.c0] at b1
      exact ⟨g', p', s4 _ ((by (first | (refine (vbnd_1 a4).trans ?_) | (refine (vF_g rfl rfl).trans ?_; refine (vF_g rfl rfl).trans ?_; refine (vbnd_1 a4).trans ?_) | (refine (vF_g rfl rfl).trans ?_; refine (vbnd_1 a4).trans ?_)); refine c2.trans ?_; (first | (exact b1) | (refine (vF_g rfl rfl).trans ?_; refine (vF_g rfl rfl).trans ?_; exact b1) | (refine (vF_g rfl rfl).trans ?_; exact b1)))), b2, b3, b4.trans r6.er.2, g5, r6, b5⟩
    · obtain ⟨g', b1, b2⟩ := bad g5 F' _ _ c1 (c4 w)
      exact ⟨g', s4 _ ((by (first | (refine (vbnd_1 a4).trans ?_) | (refine (vF_g rfl rfl).trans ?_; refine (vF_g rfl rfl).trans ?_; refine (vbnd_1 a4).trans ?_) | (refine (vF_g rfl rfl).trans ?_; refine (vbnd_1 a4).trans ?_)); refine c2.trans ?_; (first | (exact b1) | (refine (vF_g rfl rfl).trans ?_; refine (vF_g rfl rfl).trans ?_; exact b1) | (refine (vF_g rfl rfl).trans ?_; exact b1)))), b2⟩
  · rw [if_neg k4]
    obtain ⟨g4, a4, hg⟩ := x2 k4
    obtain ⟨g', b1, b2⟩ := bad g4 F5 _ _ (by omega) hg
    exact ⟨fun w => absurd w k4, fun _ => ⟨g', s4 _ ((by (first | (refine (vbnd_1 a4).trans ?_) | (refine (vF_g rfl rfl).trans ?_; refine (vF_g rfl rfl).trans ?_; refine (vbnd_1 a4).trans ?_) | (refine (vF_g rfl rfl).trans ?_; refine (vbnd_1 a4).trans ?_)); (first | (refine (vne (by rw [hg.1]; exact hg.2.2.2) (by decide) (by rw [hg.1]; exact hg.2.2.1)).trans ?_) | (refine (vF_g rfl rfl).trans ?_; refine (vF_g rfl rfl).trans ?_; refine (vne (by rw [hg.1]; exact hg.2.2.2) (by decide) (by rw [hg.1]; exact hg.2.2.1)).trans ?_) | (refine (vF_g rfl rfl).trans ?_; refine (vne (by rw [hg.1]; exact hg.2.2.2) (by decide) (by rw [hg.1]; exact hg.2.2.1)).trans ?_)); (first | (exact b1) | (refine (vF_g rfl rfl).trans ?_; refine (vF_g rfl rfl).trans ?_; exact b1) | (refine (vF_g rfl rfl).trans ?_; exact b1)))), b2⟩⟩
end
section
/-! bytes appended: the program's and the reference's -/
noncomputable def cb (x : Nat) : Nat := toN (nI (gU9 1 x)).toInt8.toInt32
noncomputable def ab1 (f : Vw) (x : Nat) : Vw := vup (vup f 2 (f 1 1) (cb x)) 1 1 (f 1 1 + 1)
noncomputable def abL : Vw → List Nat → Vw
  | f, [] => f
  | f, x :: l => abL (ab1 f x) l
noncomputable def ar1 (f : Vw) (x : Nat) : Vw := vup (vup f 462 (f 452 16) x) 452 16 (f 452 16 + 1)
noncomputable def arL : Vw → List Nat → Vw
  | f, [] => f
  | f, x :: l => arL (ar1 f x) l
theorem ab1_n {f : Vw} {x : Nat} : ab1 f x 1 1 = f 1 1 + 1 := vup_eq
theorem ar1_n {f : Vw} {x : Nat} : ar1 f x 452 16 = f 452 16 + 1 := vup_eq
theorem v_add {D x : Nat} {f : Vw} (h : f 1 1 < 900) : vM MT0 (D + 1) 1 [vR 1, vI x] f = some ((1, 0), vW 3, ab1 f x) := by
  refine vM_go rfl rfl rfl rfl fun F hF => ?_
  (first | (refine (vlt (x := f 1 1) (y := 900) (by decide) h).trans ?_) | (refine (vF_g rfl rfl).trans ?_; refine (vF_g rfl rfl).trans ?_; refine (vlt (x := f 1 1) (y := 900) (by decide) h).trans ?_) | (refine (vF_g rfl rfl).trans ?_; refine (vlt (x := f 1 1) (y := 900) (by decide) h).trans ?_))
  (first | (refine Eq.trans (b := gd (Nat.ble (f 1 1 + 1) 900) (vFn (vM MT0 D) nb_X0_add (F + 58) 2 0 (iniL 2 [vR 1, vI x]) [] (vup (vup f 2 (f 1 1) (cb x)) 1 1 ((vup f 2 (f 1 1) (cb x) 1 1 + 1) % 4294967296)))) rfl ?_) | (refine (vF_g rfl rfl).trans ?_; refine (vF_g rfl rfl).trans ?_; refine Eq.trans (b := gd (Nat.ble (f 1 1 + 1) 900) (vFn (vM MT0 D) nb_X0_add (F + 58) 2 0 (iniL 2 [vR 1, vI x]) [] (vup (vup f 2 (f 1 1) (cb x)) 1 1 ((vup f 2 (f 1 1) (cb x) 1 1 + 1) % 4294967296)))) rfl ?_) | (refine (vF_g rfl rfl).trans ?_; refine Eq.trans (b := gd (Nat.ble (f 1 1 + 1) 900) (vFn (vM MT0 D) nb_X0_add (F + 58) 2 0 (iniL 2 [vR 1, vI x]) [] (vup (vup f 2 (f 1 1) (cb x)) 1 1 ((vup f 2 (f 1 1) (cb x) 1 1 + 1) % 4294967296)))) rfl ?_))
  rw [Nat.ble_eq_true_of_le (show f 1 1 + 1 ≤ 900 from h), vup_ne (f := f) (show (1 : Nat) ≠ 2 ∨ (1 : Nat) ≠ f 1 1 from Or.inl (by decide)), Nat.mod_eq_of_lt (show f 1 1 + 1 < 4294967296 by omega)]
  (first | (exact rfl) | (refine (vF_g rfl rfl).trans ?_; refine (vF_g rfl rfl).trans ?_; exact rfl) | (refine (vF_g rfl rfl).trans ?_; refine (vF_g rfl rfl).trans ?_; refine (vF_g rfl rfl).trans ?_; exact rfl) | (refine (vF_g rfl rfl).trans ?_; exact rfl))
/-- the four bytes of an int -/
noncomputable def l4c (v : Nat) : List Nat := [g_ishr v 24, g_ishr v 16, g_ishr v 8, v]
noncomputable def l4r (v : Nat) : List Nat := [g_iand (g_ishr v 24) 255, g_iand (g_ishr v 16) 255, g_iand (g_ishr v 8) 255, g_iand (g_ishr v 0) 255]
theorem v_addInt {D v : Nat} {f : Vw} (h : f 1 1 + 4 ≤ 900) : vM MT0 (D + 2) 2 [vR 1, vI v] f = some ((1, 0), vW 3, abL f (l4c v)) := by
  have h1 : ab1 f (g_ishr v 24) 1 1 = f 1 1 + 1 := ab1_n
  have h2 : ab1 (ab1 f (g_ishr v 24)) (g_ishr v 16) 1 1 = f 1 1 + 1 + 1 := ab1_n.trans (by rw [h1])
  have h3 : ab1 (ab1 (ab1 f (g_ishr v 24)) (g_ishr v 16)) (g_ishr v 8) 1 1 = f 1 1 + 1 + 1 + 1 := ab1_n.trans (by rw [h2])
  have e1 := v_add (D := D) (x := g_ishr v 24) (f := f) (by omega)
  have e2 := v_add (D := D) (x := g_ishr v 16) (f := ab1 f (g_ishr v 24)) (by omega)
  have e3 := v_add (D := D) (x := g_ishr v 8) (f := ab1 (ab1 f (g_ishr v 24)) (g_ishr v 16)) (by omega)
  have e4 := v_add (D := D) (x := v) (f := ab1 (ab1 (ab1 f (g_ishr v 24)) (g_ishr v 16)) (g_ishr v 8)) (by omega)
  refine vM_go rfl rfl rfl rfl fun F hF => ?_
  (first | (refine (vbnd_1 e1).trans ?_) | (refine (vF_g rfl rfl).trans ?_; refine (vF_g rfl rfl).trans ?_; refine (vbnd_1 e1).trans ?_) | (refine (vF_g rfl rfl).trans ?_; refine (vbnd_1 e1).trans ?_))
  (first | (refine (vbnd_1 e2).trans ?_) | (refine (vF_g rfl rfl).trans ?_; refine (vF_g rfl rfl).trans ?_; refine (vbnd_1 e2).trans ?_) | (refine (vF_g rfl rfl).trans ?_; refine (vbnd_1 e2).trans ?_))
  (first | (refine (vbnd_1 e3).trans ?_) | (refine (vF_g rfl rfl).trans ?_; refine (vF_g rfl rfl).trans ?_; refine (vbnd_1 e3).trans ?_) | (refine (vF_g rfl rfl).trans ?_; refine (vbnd_1 e3).trans ?_))
  (first | (refine (vbnd_1 e4).trans ?_) | (refine (vF_g rfl rfl).trans ?_; refine (vF_g rfl rfl).trans ?_; refine (vbnd_1 e4).trans ?_) | (refine (vF_g rfl rfl).trans ?_; refine (vbnd_1 e4).trans ?_))
  (first | (exact rfl) | (refine (vF_g rfl rfl).trans ?_; refine (vF_g rfl rfl).trans ?_; exact rfl) | (refine (vF_g rfl rfl).trans ?_; refine (vF_g rfl rfl).trans ?_; refine (vF_g rfl rfl).trans ?_; exact rfl) | (refine (vF_g rfl rfl).trans ?_; exact rfl))
theorem abL_n : ∀ (l : List Nat) (f : Vw), abL f l 1 1 = f 1 1 + l.length := by
  intro l
  induction l with
  | nil => intro f; rfl
  | cons x l ih =>
    intro f
    show abL (ab1 f x) l 1 1 = f 1 1 + (l.length + 1)
    rw [ih, ab1_n]
    omega
theorem arL_n : ∀ (l : List Nat) (f : Vw), arL f l 452 16 = f 452 16 + l.length := by
  intro l
  induction l with
  | nil => intro f; rfl
  | cons x l ih =>
    intro f
    show arL (ar1 f x) l 452 16 = f 452 16 + (l.length + 1)
    rw [ih, ar1_n]
    omega
theorem abL_app : ∀ (l m : List Nat) (f : Vw), abL f (l ++ m) = abL (abL f l) m := by
  intro l
  induction l with
  | nil => intro m f; rfl
  | cons x l ih => intro m f; exact ih m (ab1 f x)
theorem arL_app : ∀ (l m : List Nat) (f : Vw), arL f (l ++ m) = arL (arL f l) m := by
  intro l
  induction l with
  | nil => intro m f; rfl
  | cons x l ih => intro m f; exact ih m (ar1 f x)
theorem abL_at : ∀ (l : List Nat) (f : Vw) (i : Nat), abL f l 2 i = if f 1 1 ≤ i ∧ i < f 1 1 + l.length then cb (nthN l 0 (i - f 1 1)) else f 2 i := by
  intro l
  induction l with
  | nil =>
    intro f i
    rw [if_neg (show ¬ (f 1 1 ≤ i ∧ i < f 1 1 + ([] : List Nat).length) from fun w => by have := w.2; simp at this; omega)]
    (first | (exact rfl) | (refine (vF_g rfl rfl).trans ?_; refine (vF_g rfl rfl).trans ?_; exact rfl) | (refine (vF_g rfl rfl).trans ?_; refine (vF_g rfl rfl).trans ?_; refine (vF_g rfl rfl).trans ?_; exact rfl) | (refine (vF_g rfl rfl).trans ?_; exact rfl))
  | cons x l ih =>
    intro f i
    show abL (ab1 f x) l 2 i = if f 1 1 ≤ i ∧ i < f 1 1 + (l.length + 1) then cb (nthN (x :: l) 0 (i - f 1 1)) else f 2 i
    have e : ab1 f x 2 i = if i = f 1 1 then cb x else f 2 i := by
      refine (vup_ne (Or.inl (by decide))).trans ?_
      by_cases q : i = f 1 1
      · rw [if_pos q, q]
        exact vup_eq
      · rw [if_neg q]
        exact vup_ne (Or.inr q)
    rw [ih, ab1_n, e]
    by_cases q : i = f 1 1
    · rw [if_neg (by omega), if_pos q, if_pos (by omega), q, Nat.sub_self]
      (first | (exact rfl) | (refine (vF_g rfl rfl).trans ?_; refine (vF_g rfl rfl).trans ?_; exact rfl) | (refine (vF_g rfl rfl).trans ?_; refine (vF_g rfl rfl).trans ?_; refine (vF_g rfl rfl).trans ?_; exact rfl) | (refine (vF_g rfl rfl).trans ?_; exact rfl))
    · by_cases q2 : f 1 1 + 1 ≤ i ∧ i < f 1 1 + 1 + l.length
      · rw [if_pos q2, if_pos (by omega), show i - f 1 1 = i - (f 1 1 + 1) + 1 by omega]
        (first | (exact rfl) | (refine (vF_g rfl rfl).trans ?_; refine (vF_g rfl rfl).trans ?_; exact rfl) | (refine (vF_g rfl rfl).trans ?_; refine (vF_g rfl rfl).trans ?_; refine (vF_g rfl rfl).trans ?_; exact rfl) | (refine (vF_g rfl rfl).trans ?_; exact rfl))
      · rw [if_neg q2, if_neg q, if_neg (by omega)]
theorem arL_at : ∀ (l : List Nat) (f : Vw) (i : Nat), arL f l 462 i = if f 452 16 ≤ i ∧ i < f 452 16 + l.length then nthN l 0 (i - f 452 16) else f 462 i := by
  intro l
  induction l with
  | nil =>
    intro f i
    rw [if_neg (show ¬ (f 452 16 ≤ i ∧ i < f 452 16 + ([] : List Nat).length) from fun w => by have := w.2; simp at this; omega)]
    (first | (exact rfl) | (refine (vF_g rfl rfl).trans ?_; refine (vF_g rfl rfl).trans ?_; exact rfl) | (refine (vF_g rfl rfl).trans ?_; refine (vF_g rfl rfl).trans ?_; refine (vF_g rfl rfl).trans ?_; exact rfl) | (refine (vF_g rfl rfl).trans ?_; exact rfl))
  | cons x l ih =>
    intro f i
    show arL (ar1 f x) l 462 i = if f 452 16 ≤ i ∧ i < f 452 16 + (l.length + 1) then nthN (x :: l) 0 (i - f 452 16) else f 462 i
    have e : ar1 f x 462 i = if i = f 452 16 then x else f 462 i := by
      refine (vup_ne (Or.inl (by decide))).trans ?_
      by_cases q : i = f 452 16
      · rw [if_pos q, q]
        exact vup_eq
      · rw [if_neg q]
        exact vup_ne (Or.inr q)
    rw [ih, ar1_n, e]
    by_cases q : i = f 452 16
    · rw [if_neg (by omega), if_pos q, if_pos (by omega), q, Nat.sub_self]
      (first | (exact rfl) | (refine (vF_g rfl rfl).trans ?_; refine (vF_g rfl rfl).trans ?_; exact rfl) | (refine (vF_g rfl rfl).trans ?_; refine (vF_g rfl rfl).trans ?_; refine (vF_g rfl rfl).trans ?_; exact rfl) | (refine (vF_g rfl rfl).trans ?_; exact rfl))
    · by_cases q2 : f 452 16 + 1 ≤ i ∧ i < f 452 16 + 1 + l.length
      · rw [if_pos q2, if_pos (by omega), show i - f 452 16 = i - (f 452 16 + 1) + 1 by omega]
        (first | (exact rfl) | (refine (vF_g rfl rfl).trans ?_; refine (vF_g rfl rfl).trans ?_; exact rfl) | (refine (vF_g rfl rfl).trans ?_; refine (vF_g rfl rfl).trans ?_; refine (vF_g rfl rfl).trans ?_; exact rfl) | (refine (vF_g rfl rfl).trans ?_; exact rfl))
      · rw [if_neg q2, if_neg q, if_neg (by omega)]
theorem abL_o : ∀ (l : List Nat) (f : Vw) (k i : Nat), k ≠ 1 → k ≠ 2 → abL f l k i = f k i := by
  intro l
  induction l with
  | nil => intro f k i _ _; rfl
  | cons x l ih => intro f k i h1 h2; exact (ih (ab1 f x) k i h1 h2).trans ((vup_ne (Or.inl h1)).trans (vup_ne (Or.inl h2)))
theorem arL_o : ∀ (l : List Nat) (f : Vw) (k i : Nat), k ≠ 452 → k ≠ 462 → arL f l k i = f k i := by
  intro l
  induction l with
  | nil => intro f k i _ _; rfl
  | cons x l ih => intro f k i h1 h2; exact (ih (ar1 f x) k i h1 h2).trans ((vup_ne (Or.inl h1)).trans (vup_ne (Or.inl h2)))
noncomputable def lc20 (a b c d e : Nat) : List Nat := l4c a ++ (l4c b ++ (l4c c ++ (l4c d ++ l4c e)))
noncomputable def lr20 (a b c d e : Nat) : List Nat := l4r a ++ (l4r b ++ (l4r c ++ (l4r d ++ l4r e)))
/-- the program's append -/
theorem v_appC {D a b c d e : Nat} {f : Vw} (h9 : f 1 1 ≤ 900) : (f 1 1 + 20 ≤ 900 → vM MT0 (D + 3) 99 [vR 0, vI a, vI b, vI c, vI d, vI e] f = some ((0, 0), vI (f 1 1 + 20), abL f (lc20 a b c d e))) ∧ (¬ f 1 1 + 20 ≤ 900 → vM MT0 (D + 3) 99 [vR 0, vI a, vI b, vI c, vI d, vI e] f = some ((2, 0), vW 3, f)) := by
  have hq : (f 1 1 + 20) % 4294967296 = f 1 1 + 20 := Nat.mod_eq_of_lt (by omega)
  refine ⟨fun h => ?_, fun h => ?_⟩
  · have h1 : abL f (l4c a) 1 1 = f 1 1 + 4 := abL_n _ _
    have h2 : abL (abL f (l4c a)) (l4c b) 1 1 = f 1 1 + 4 + 4 := (abL_n _ _).trans (by rw [h1]; rfl)
    have h3 : abL (abL (abL f (l4c a)) (l4c b)) (l4c c) 1 1 = f 1 1 + 4 + 4 + 4 := (abL_n _ _).trans (by rw [h2]; rfl)
    have h4 : abL (abL (abL (abL f (l4c a)) (l4c b)) (l4c c)) (l4c d) 1 1 = f 1 1 + 4 + 4 + 4 + 4 := (abL_n _ _).trans (by rw [h3]; rfl)
    have h5 : abL (abL (abL (abL (abL f (l4c a)) (l4c b)) (l4c c)) (l4c d)) (l4c e) 1 1 = f 1 1 + 4 + 4 + 4 + 4 + 4 := (abL_n _ _).trans (by rw [h4]; rfl)
    have e1 := v_addInt (D := D) (v := a) (f := f) (by omega)
    have e2 := v_addInt (D := D) (v := b) (f := abL f (l4c a)) (by omega)
    have e3 := v_addInt (D := D) (v := c) (f := abL (abL f (l4c a)) (l4c b)) (by omega)
    have e4 := v_addInt (D := D) (v := d) (f := abL (abL (abL f (l4c a)) (l4c b)) (l4c c)) (by omega)
    have e5 := v_addInt (D := D) (v := e) (f := abL (abL (abL (abL f (l4c a)) (l4c b)) (l4c c)) (l4c d)) (by omega)
    have ef : abL f (lc20 a b c d e) = abL (abL (abL (abL (abL f (l4c a)) (l4c b)) (l4c c)) (l4c d)) (l4c e) := by
      unfold lc20
      rw [abL_app, abL_app, abL_app, abL_app]
    rw [ef]
    refine vM_go rfl rfl rfl rfl fun F hF => ?_
    (first | (refine (vle2 (x := (f 1 1 + 20) % 4294967296) (y := 900) (by decide) (by omega)).trans ?_) | (refine (vF_g rfl rfl).trans ?_; refine (vF_g rfl rfl).trans ?_; refine (vle2 (x := (f 1 1 + 20) % 4294967296) (y := 900) (by decide) (by omega)).trans ?_) | (refine (vF_g rfl rfl).trans ?_; refine (vle2 (x := (f 1 1 + 20) % 4294967296) (y := 900) (by decide) (by omega)).trans ?_))
    (first | (refine (vbnd_1 e1).trans ?_) | (refine (vF_g rfl rfl).trans ?_; refine (vF_g rfl rfl).trans ?_; refine (vbnd_1 e1).trans ?_) | (refine (vF_g rfl rfl).trans ?_; refine (vbnd_1 e1).trans ?_))
    (first | (refine (vbnd_1 e2).trans ?_) | (refine (vF_g rfl rfl).trans ?_; refine (vF_g rfl rfl).trans ?_; refine (vbnd_1 e2).trans ?_) | (refine (vF_g rfl rfl).trans ?_; refine (vbnd_1 e2).trans ?_))
    (first | (refine (vbnd_1 e3).trans ?_) | (refine (vF_g rfl rfl).trans ?_; refine (vF_g rfl rfl).trans ?_; refine (vbnd_1 e3).trans ?_) | (refine (vF_g rfl rfl).trans ?_; refine (vbnd_1 e3).trans ?_))
    (first | (refine (vbnd_1 e4).trans ?_) | (refine (vF_g rfl rfl).trans ?_; refine (vF_g rfl rfl).trans ?_; refine (vbnd_1 e4).trans ?_) | (refine (vF_g rfl rfl).trans ?_; refine (vbnd_1 e4).trans ?_))
    (first | (refine (vbnd_1 e5).trans ?_) | (refine (vF_g rfl rfl).trans ?_; refine (vF_g rfl rfl).trans ?_; refine (vbnd_1 e5).trans ?_) | (refine (vF_g rfl rfl).trans ?_; refine (vbnd_1 e5).trans ?_))
    (first | (refine Eq.trans (b := some (((0, 0), vI (abL (abL (abL (abL (abL f (l4c a)) (l4c b)) (l4c c)) (l4c d)) (l4c e) 1 1), abL (abL (abL (abL (abL f (l4c a)) (l4c b)) (l4c c)) (l4c d)) (l4c e)) : VR)) rfl ?_) | (refine (vF_g rfl rfl).trans ?_; refine (vF_g rfl rfl).trans ?_; refine Eq.trans (b := some (((0, 0), vI (abL (abL (abL (abL (abL f (l4c a)) (l4c b)) (l4c c)) (l4c d)) (l4c e) 1 1), abL (abL (abL (abL (abL f (l4c a)) (l4c b)) (l4c c)) (l4c d)) (l4c e)) : VR)) rfl ?_) | (refine (vF_g rfl rfl).trans ?_; refine Eq.trans (b := some (((0, 0), vI (abL (abL (abL (abL (abL f (l4c a)) (l4c b)) (l4c c)) (l4c d)) (l4c e) 1 1), abL (abL (abL (abL (abL f (l4c a)) (l4c b)) (l4c c)) (l4c d)) (l4c e)) : VR)) rfl ?_))
    rw [h5]
  · refine vM_go rfl rfl rfl rfl fun F hF => ?_
    (first | (refine (vgt (x := (f 1 1 + 20) % 4294967296) (y := 900) (by omega) (by omega)).trans ?_) | (refine (vF_g rfl rfl).trans ?_; refine (vF_g rfl rfl).trans ?_; refine (vgt (x := (f 1 1 + 20) % 4294967296) (y := 900) (by omega) (by omega)).trans ?_) | (refine (vF_g rfl rfl).trans ?_; refine (vgt (x := (f 1 1 + 20) % 4294967296) (y := 900) (by omega) (by omega)).trans ?_))
    (first | (exact rfl) | (refine (vF_g rfl rfl).trans ?_; refine (vF_g rfl rfl).trans ?_; exact rfl) | (refine (vF_g rfl rfl).trans ?_; refine (vF_g rfl rfl).trans ?_; refine (vF_g rfl rfl).trans ?_; exact rfl) | (refine (vF_g rfl rfl).trans ?_; exact rfl))
/-- the reference's four bytes -/
theorem v_four {D v : Nat} {f : Vw} (h : f 452 16 + 4 ≤ 900) : vM MT0 (D + 1) 225 [vR 452, vI v] f = some ((1, 0), vW 3, arL f (l4r v)) := by
  have st : ∀ (F s t : Nat) (g : Vw), s < 2147483648 → (s + 4294967288) % 4294967296 = t → g 452 16 < 900 → vFn (vM MT0 D) nb_X11_four (F + 2) 1 0 [vR 452, vI v, vI s] [] g = vFn (vM MT0 D) nb_X11_four F 1 0 [vR 452, vI v, vI t] [] (ar1 g (g_iand (g_ishr v s) 255)) := by
    intro F s t g hs ht hg
    (first | (refine (vge2 (x := s) (y := 0) hs (Nat.zero_le _)).trans ?_) | (refine (vF_g rfl rfl).trans ?_; refine (vF_g rfl rfl).trans ?_; refine (vge2 (x := s) (y := 0) hs (Nat.zero_le _)).trans ?_) | (refine (vF_g rfl rfl).trans ?_; refine (vge2 (x := s) (y := 0) hs (Nat.zero_le _)).trans ?_))
    (first | (refine Eq.trans (b := gd (Nat.ble (g 452 16 + 1) 900) (vFn (vM MT0 D) nb_X11_four F 1 0 [vR 452, vI v, vI ((s + 4294967288) % 4294967296)] [] (vup (vup g 462 (g 452 16) (g_iand (g_ishr v s) 255)) 452 16 ((vup g 462 (g 452 16) (g_iand (g_ishr v s) 255) 452 16 + 1) % 4294967296)))) rfl ?_) | (refine (vF_g rfl rfl).trans ?_; refine (vF_g rfl rfl).trans ?_; refine Eq.trans (b := gd (Nat.ble (g 452 16 + 1) 900) (vFn (vM MT0 D) nb_X11_four F 1 0 [vR 452, vI v, vI ((s + 4294967288) % 4294967296)] [] (vup (vup g 462 (g 452 16) (g_iand (g_ishr v s) 255)) 452 16 ((vup g 462 (g 452 16) (g_iand (g_ishr v s) 255) 452 16 + 1) % 4294967296)))) rfl ?_) | (refine (vF_g rfl rfl).trans ?_; refine Eq.trans (b := gd (Nat.ble (g 452 16 + 1) 900) (vFn (vM MT0 D) nb_X11_four F 1 0 [vR 452, vI v, vI ((s + 4294967288) % 4294967296)] [] (vup (vup g 462 (g 452 16) (g_iand (g_ishr v s) 255)) 452 16 ((vup g 462 (g 452 16) (g_iand (g_ishr v s) 255) 452 16 + 1) % 4294967296)))) rfl ?_))
    rw [Nat.ble_eq_true_of_le (show g 452 16 + 1 ≤ 900 from hg), ht, vup_ne (f := g) (show (452 : Nat) ≠ 462 ∨ (16 : Nat) ≠ g 452 16 from Or.inl (by decide)), Nat.mod_eq_of_lt (show g 452 16 + 1 < 4294967296 by omega)]
    (first | (exact rfl) | (refine (vF_g rfl rfl).trans ?_; refine (vF_g rfl rfl).trans ?_; exact rfl) | (refine (vF_g rfl rfl).trans ?_; refine (vF_g rfl rfl).trans ?_; refine (vF_g rfl rfl).trans ?_; exact rfl) | (refine (vF_g rfl rfl).trans ?_; exact rfl))
  have h1 : ar1 f (g_iand (g_ishr v 24) 255) 452 16 = f 452 16 + 1 := ar1_n
  have h2 : ar1 (ar1 f (g_iand (g_ishr v 24) 255)) (g_iand (g_ishr v 16) 255) 452 16 = f 452 16 + 1 + 1 := ar1_n.trans (by rw [h1])
  have h3 : ar1 (ar1 (ar1 f (g_iand (g_ishr v 24) 255)) (g_iand (g_ishr v 16) 255)) (g_iand (g_ishr v 8) 255) 452 16 = f 452 16 + 1 + 1 + 1 := ar1_n.trans (by rw [h2])
  refine vM_go rfl rfl rfl rfl fun F hF => ?_
  (first | (refine Eq.trans (b := vFn (vM MT0 D) nb_X11_four (F + 59) 1 0 [vR 452, vI v, vI 24] [] f) rfl ?_) | (refine (vF_g rfl rfl).trans ?_; refine (vF_g rfl rfl).trans ?_; refine Eq.trans (b := vFn (vM MT0 D) nb_X11_four (F + 59) 1 0 [vR 452, vI v, vI 24] [] f) rfl ?_) | (refine (vF_g rfl rfl).trans ?_; refine Eq.trans (b := vFn (vM MT0 D) nb_X11_four (F + 59) 1 0 [vR 452, vI v, vI 24] [] f) rfl ?_))
  refine (st (F + 57) 24 16 _ (by decide) (by decide) (by omega)).trans ((st (F + 55) 16 8 _ (by decide) (by decide) (by omega)).trans ((st (F + 53) 8 0 _ (by decide) (by decide) (by omega)).trans ((st (F + 51) 0 4294967288 _ (by decide) (by decide) (by omega)).trans ?_)))
  (first | (refine (vmin (x := 4294967288) (y := 0) (by decide) (by decide) (by decide)).trans ?_) | (refine (vF_g rfl rfl).trans ?_; refine (vF_g rfl rfl).trans ?_; refine (vmin (x := 4294967288) (y := 0) (by decide) (by decide) (by decide)).trans ?_) | (refine (vF_g rfl rfl).trans ?_; refine (vmin (x := 4294967288) (y := 0) (by decide) (by decide) (by decide)).trans ?_))
  (first | (exact rfl) | (refine (vF_g rfl rfl).trans ?_; refine (vF_g rfl rfl).trans ?_; exact rfl) | (refine (vF_g rfl rfl).trans ?_; refine (vF_g rfl rfl).trans ?_; refine (vF_g rfl rfl).trans ?_; exact rfl) | (refine (vF_g rfl rfl).trans ?_; exact rfl))
theorem v_passes9 {D b : Nat} {f : Vw} (h : b = 0 ∨ b = 1) : vM MT0 (D + 1) 176 [vR 452, vI b] f = some ((0, 0), vI b, vup f 452 6 (1 - b)) := v_passes h
/-- the reference's append -/
theorem v_appR {D a b c d e : Nat} {f : Vw} (h9 : f 452 16 ≤ 900) : (f 452 16 + 20 ≤ 900 → vM MT0 (D + 2) 226 [vR 452, vI a, vI b, vI c, vI d, vI e] f = some ((0, 0), vI (f 452 16 + 20), arL (vup f 452 6 0) (lr20 a b c d e))) ∧ (¬ f 452 16 + 20 ≤ 900 → vM MT0 (D + 2) 226 [vR 452, vI a, vI b, vI c, vI d, vI e] f = some ((0, 0), vI 0, vup f 452 6 1)) := by
  have hq : (f 452 16 + 20) % 4294967296 = f 452 16 + 20 := Nat.mod_eq_of_lt (by omega)
  refine ⟨fun h => ?_, fun h => ?_⟩
  · have p := v_passes (D := D) (b := 1) (f := f) (Or.inr rfl)
    have h0 : vup f 452 6 0 452 16 = f 452 16 := vup_ne (Or.inr (by decide))
    have h1 : arL (vup f 452 6 0) (l4r a) 452 16 = f 452 16 + 4 := (arL_n _ _).trans (by rw [h0]; rfl)
    have h2 : arL (arL (vup f 452 6 0) (l4r a)) (l4r b) 452 16 = f 452 16 + 4 + 4 := (arL_n _ _).trans (by rw [h1]; rfl)
    have h3 : arL (arL (arL (vup f 452 6 0) (l4r a)) (l4r b)) (l4r c) 452 16 = f 452 16 + 4 + 4 + 4 := (arL_n _ _).trans (by rw [h2]; rfl)
    have h4 : arL (arL (arL (arL (vup f 452 6 0) (l4r a)) (l4r b)) (l4r c)) (l4r d) 452 16 = f 452 16 + 4 + 4 + 4 + 4 := (arL_n _ _).trans (by rw [h3]; rfl)
    have h5 : arL (arL (arL (arL (arL (vup f 452 6 0) (l4r a)) (l4r b)) (l4r c)) (l4r d)) (l4r e) 452 16 = f 452 16 + 4 + 4 + 4 + 4 + 4 := (arL_n _ _).trans (by rw [h4]; rfl)
    have e1 := v_four (D := D) (v := a) (f := vup f 452 6 0) (by omega)
    have e2 := v_four (D := D) (v := b) (f := arL (vup f 452 6 0) (l4r a)) (by omega)
    have e3 := v_four (D := D) (v := c) (f := arL (arL (vup f 452 6 0) (l4r a)) (l4r b)) (by omega)
    have e4 := v_four (D := D) (v := d) (f := arL (arL (arL (vup f 452 6 0) (l4r a)) (l4r b)) (l4r c)) (by omega)
    have e5 := v_four (D := D) (v := e) (f := arL (arL (arL (arL (vup f 452 6 0) (l4r a)) (l4r b)) (l4r c)) (l4r d)) (by omega)
    have ef : arL (vup f 452 6 0) (lr20 a b c d e) = arL (arL (arL (arL (arL (vup f 452 6 0) (l4r a)) (l4r b)) (l4r c)) (l4r d)) (l4r e) := by
      unfold lr20
      rw [arL_app, arL_app, arL_app, arL_app]
    rw [ef]
    refine vM_go rfl rfl rfl rfl fun F hF => ?_
    (first | (refine (vle2 (x := (f 452 16 + 20) % 4294967296) (y := 900) (by decide) (by omega)).trans ?_) | (refine (vF_g rfl rfl).trans ?_; refine (vF_g rfl rfl).trans ?_; refine (vle2 (x := (f 452 16 + 20) % 4294967296) (y := 900) (by decide) (by omega)).trans ?_) | (refine (vF_g rfl rfl).trans ?_; refine (vle2 (x := (f 452 16 + 20) % 4294967296) (y := 900) (by decide) (by omega)).trans ?_))
    (first | (refine (vbnd_0 p).trans ?_) | (refine (vF_g rfl rfl).trans ?_; refine (vF_g rfl rfl).trans ?_; refine (vbnd_0 p).trans ?_) | (refine (vF_g rfl rfl).trans ?_; refine (vbnd_0 p).trans ?_))
    (first | (refine (vgt (x := 1) (y := 0) (by decide) (by decide)).trans ?_) | (refine (vF_g rfl rfl).trans ?_; refine (vF_g rfl rfl).trans ?_; refine (vgt (x := 1) (y := 0) (by decide) (by decide)).trans ?_) | (refine (vF_g rfl rfl).trans ?_; refine (vgt (x := 1) (y := 0) (by decide) (by decide)).trans ?_))
    (first | (refine (vbnd_1 e1).trans ?_) | (refine (vF_g rfl rfl).trans ?_; refine (vF_g rfl rfl).trans ?_; refine (vbnd_1 e1).trans ?_) | (refine (vF_g rfl rfl).trans ?_; refine (vbnd_1 e1).trans ?_))
    (first | (refine (vbnd_1 e2).trans ?_) | (refine (vF_g rfl rfl).trans ?_; refine (vF_g rfl rfl).trans ?_; refine (vbnd_1 e2).trans ?_) | (refine (vF_g rfl rfl).trans ?_; refine (vbnd_1 e2).trans ?_))
    (first | (refine (vbnd_1 e3).trans ?_) | (refine (vF_g rfl rfl).trans ?_; refine (vF_g rfl rfl).trans ?_; refine (vbnd_1 e3).trans ?_) | (refine (vF_g rfl rfl).trans ?_; refine (vbnd_1 e3).trans ?_))
    (first | (refine (vbnd_1 e4).trans ?_) | (refine (vF_g rfl rfl).trans ?_; refine (vF_g rfl rfl).trans ?_; refine (vbnd_1 e4).trans ?_) | (refine (vF_g rfl rfl).trans ?_; refine (vbnd_1 e4).trans ?_))
    (first | (refine (vbnd_1 e5).trans ?_) | (refine (vF_g rfl rfl).trans ?_; refine (vF_g rfl rfl).trans ?_; refine (vbnd_1 e5).trans ?_) | (refine (vF_g rfl rfl).trans ?_; refine (vbnd_1 e5).trans ?_))
    (first | (refine Eq.trans (b := some (((0, 0), vI (arL (arL (arL (arL (arL (vup f 452 6 0) (l4r a)) (l4r b)) (l4r c)) (l4r d)) (l4r e) 452 16), arL (arL (arL (arL (arL (vup f 452 6 0) (l4r a)) (l4r b)) (l4r c)) (l4r d)) (l4r e)) : VR)) rfl ?_) | (refine (vF_g rfl rfl).trans ?_; refine (vF_g rfl rfl).trans ?_; refine Eq.trans (b := some (((0, 0), vI (arL (arL (arL (arL (arL (vup f 452 6 0) (l4r a)) (l4r b)) (l4r c)) (l4r d)) (l4r e) 452 16), arL (arL (arL (arL (arL (vup f 452 6 0) (l4r a)) (l4r b)) (l4r c)) (l4r d)) (l4r e)) : VR)) rfl ?_) | (refine (vF_g rfl rfl).trans ?_; refine Eq.trans (b := some (((0, 0), vI (arL (arL (arL (arL (arL (vup f 452 6 0) (l4r a)) (l4r b)) (l4r c)) (l4r d)) (l4r e) 452 16), arL (arL (arL (arL (arL (vup f 452 6 0) (l4r a)) (l4r b)) (l4r c)) (l4r d)) (l4r e)) : VR)) rfl ?_))
    rw [h5]
  · have p := v_passes (D := D) (b := 0) (f := f) (Or.inl rfl)
    refine vM_go rfl rfl rfl rfl fun F hF => ?_
    (first | (refine (vgt (x := (f 452 16 + 20) % 4294967296) (y := 900) (by omega) (by omega)).trans ?_) | (refine (vF_g rfl rfl).trans ?_; refine (vF_g rfl rfl).trans ?_; refine (vgt (x := (f 452 16 + 20) % 4294967296) (y := 900) (by omega) (by omega)).trans ?_) | (refine (vF_g rfl rfl).trans ?_; refine (vgt (x := (f 452 16 + 20) % 4294967296) (y := 900) (by omega) (by omega)).trans ?_))
    (first | (refine (vbnd_0 p).trans ?_) | (refine (vF_g rfl rfl).trans ?_; refine (vF_g rfl rfl).trans ?_; refine (vbnd_0 p).trans ?_) | (refine (vF_g rfl rfl).trans ?_; refine (vbnd_0 p).trans ?_))
    (first | (refine (veq (x := 0) (y := 0) rfl).trans ?_) | (refine (vF_g rfl rfl).trans ?_; refine (vF_g rfl rfl).trans ?_; refine (veq (x := 0) (y := 0) rfl).trans ?_) | (refine (vF_g rfl rfl).trans ?_; refine (veq (x := 0) (y := 0) rfl).trans ?_))
    (first | (exact rfl) | (refine (vF_g rfl rfl).trans ?_; refine (vF_g rfl rfl).trans ?_; exact rfl) | (refine (vF_g rfl rfl).trans ?_; refine (vF_g rfl rfl).trans ?_; refine (vF_g rfl rfl).trans ?_; exact rfl) | (refine (vF_g rfl rfl).trans ?_; exact rfl))
/-! the bytes are the same -/
theorem toN_nI9 (m : Nat) : (nI m).toUInt32.toNat = m % 4294967296 := by
  unfold nI
  simp
theorem iand255 (x : Nat) : g_iand x 255 = x % 256 := by
  have e : g_iand x 255 = (nI x).toUInt32.toNat &&& (nI 255).toUInt32.toNat := by
    unfold g_iand toN
    (first | (exact rfl) | (refine (vF_g rfl rfl).trans ?_; refine (vF_g rfl rfl).trans ?_; exact rfl) | (refine (vF_g rfl rfl).trans ?_; refine (vF_g rfl rfl).trans ?_; refine (vF_g rfl rfl).trans ?_; exact rfl) | (refine (vF_g rfl rfl).trans ?_; exact rfl))
  have e1 : ∀ m : Nat, (nI m).toUInt32.toNat = m % 4294967296 := fun m => toN_nI9 m
  rw [e, e1, e1, show 255 % 4294967296 = 2 ^ 8 - 1 from rfl, Nat.and_two_pow_sub_one_eq_mod]
  omega
theorem sg_mod (x : Nat) (h : x < 4294967296) : ((x : Int) - sg x) % 256 = 0 := by
  unfold sg bi
  omega
theorem i2b_mod (x : Nat) : g_i2b x % 256 = x % 256 := by
  have h1 : sg (g_i2b x) = (nI x).toInt8.toInt := by
    unfold g_i2b
    rw [sg_toN, Int8.toInt_toInt32]
  have h2 : (nI x).toInt8.toInt = (nI x).toInt.bmod (2 ^ 8) := Int32.toInt_toInt8 _
  have h3 : (nI x).toInt = sg x := sg_toInt x
  have h4 := sg_mod (g_i2b x) (toN_lt _)
  have h5 : ((x : Int) - sg x) % 256 = 0 := by
    unfold sg bi
    omega
  rw [h2, h3] at h1
  have h6 : (sg x).bmod (2 ^ 8) % 256 = sg x % 256 := by
    have := Int.bmod_emod (x := sg x) (m := 2 ^ 8)
    exact this
  generalize (sg x).bmod (2 ^ 8) = u at h1 h6
  generalize sg x = s at h5 h6
  rw [h1] at h4
  omega
theorem cb_255 (x : Nat) : g_iand (cb x) 255 = g_iand x 255 := by
  rw [iand255, iand255]
  have e : cb x = g_i2b (g_i2b x) := by
    unfold cb
    rw [gU_1]
    (first | (exact rfl) | (refine (vF_g rfl rfl).trans ?_; refine (vF_g rfl rfl).trans ?_; exact rfl) | (refine (vF_g rfl rfl).trans ?_; refine (vF_g rfl rfl).trans ?_; refine (vF_g rfl rfl).trans ?_; exact rfl) | (refine (vF_g rfl rfl).trans ?_; exact rfl))
  rw [e]
  exact (i2b_mod (g_i2b x)).trans (i2b_mod x)
end
section
/-! a world copied to another -/
noncomputable def cpF (a b i : Nat) (f : Vw) : Vw := vup f a i (f b i)
noncomputable def cpE (a b : Nat) (f : Vw) : Vw := cpF a b 8 (cpF a b 7 (cpF a b 6 (cpF a b 5 (cpF a b 4 (cpF a b 3 (cpF a b 2 (cpF a b 1 (cpF a b 0 f))))))))
noncomputable def cpV (a b : Nat) (f : Vw) : Vw := cpF a b 11 (cpF a b 10 (vcp (cpF a b 8 (cpF a b 7 (cpF a b 6 (vcp (cpF a b 4 (cpF a b 3 (cpF a b 2 (cpF a b 1 (cpF a b 0 f))))) (b + 1) (a + 1) 0 0 3)))) (b + 2) (a + 2) 0 0 12))
noncomputable def cpW (a b : Nat) (f : Vw) : Vw := cpF a b 10 (cpF a b 9 (cpF a b 8 (cpF a b 7 (cpF a b 6 (cpF a b 5 (cpF a b 4 (cpF a b 3 (cpF a b 2 f))))))))
theorem cpF_o {a b i k i' : Nat} {f : Vw} (h : k ≠ a) : cpF a b i f k i' = f k i' := vup_ne (Or.inl h)
theorem cpF_a {a b i i' : Nat} {f : Vw} : cpF a b i f a i' = if i' = i then f b i else f a i' := by
  unfold cpF
  by_cases q : i' = i
  · rw [if_pos q, q]
    exact vup_eq
  · rw [if_neg q]
    exact vup_ne (Or.inr q)
theorem vcp_o {a b sp dp N k i : Nat} {f : Vw} (h : k ≠ b) : vcp f a b sp dp N k i = f k i := if_neg (fun w => h w.1)
theorem vcp_b {a b N i : Nat} {f : Vw} (h : i < N) : vcp f a b 0 0 N b i = f a i := by
  unfold vcp
  rw [if_pos (show b = b ∧ 0 ≤ i ∧ i < 0 + N from ⟨rfl, Nat.zero_le _, by omega⟩), Nat.zero_add, Nat.sub_zero]
theorem i_cases {n : Nat} {Q : Nat → Prop} (h : ∀ i, i < n → Q i) {i : Nat} (hi : i < n) : Q i := h i hi
theorem cpE_o {a b k i : Nat} {f : Vw} (h : k ≠ a) : cpE a b f k i = f k i := by
  unfold cpE
  rw [cpF_o h, cpF_o h, cpF_o h, cpF_o h, cpF_o h, cpF_o h, cpF_o h, cpF_o h, cpF_o h]
theorem cpE_a {a b i : Nat} {f : Vw} (h : b ≠ a) (hi : i ≤ 8) : cpE a b f a i = f b i := by
  have B : ∀ (x : Nat) (g : Vw) (y : Nat), cpF a b x g b y = g b y := fun x g y => cpF_o h
  unfold cpE
  rcases (show i = 0 ∨ i = 1 ∨ i = 2 ∨ i = 3 ∨ i = 4 ∨ i = 5 ∨ i = 6 ∨ i = 7 ∨ i = 8 by omega) with rfl | rfl | rfl | rfl | rfl | rfl | rfl | rfl | rfl <;> simp [cpF_a, B]
theorem cpW_o {a b k i : Nat} {f : Vw} (h : k ≠ a) : cpW a b f k i = f k i := by
  unfold cpW
  rw [cpF_o h, cpF_o h, cpF_o h, cpF_o h, cpF_o h, cpF_o h, cpF_o h, cpF_o h, cpF_o h]
theorem cpW_a {a b i : Nat} {f : Vw} (h : b ≠ a) (h2 : 2 ≤ i) (hi : i ≤ 10) : cpW a b f a i = f b i := by
  have B : ∀ (x : Nat) (g : Vw) (y : Nat), cpF a b x g b y = g b y := fun x g y => cpF_o h
  unfold cpW
  rcases (show i = 2 ∨ i = 3 ∨ i = 4 ∨ i = 5 ∨ i = 6 ∨ i = 7 ∨ i = 8 ∨ i = 9 ∨ i = 10 by omega) with rfl | rfl | rfl | rfl | rfl | rfl | rfl | rfl | rfl <;> simp [cpF_a, B]
theorem cpV_o {a b k i : Nat} {f : Vw} (h0 : k ≠ a) (h1 : k ≠ a + 1) (h2 : k ≠ a + 2) : cpV a b f k i = f k i := by
  unfold cpV
  rw [cpF_o h0, cpF_o h0, vcp_o h2, cpF_o h0, cpF_o h0, cpF_o h0, vcp_o h1, cpF_o h0, cpF_o h0, cpF_o h0, cpF_o h0, cpF_o h0]
theorem cpV_a {a b i : Nat} {f : Vw} (h0 : b ≠ a) (h1 : b ≠ a + 1) (h2 : b ≠ a + 2) (hi : i ≤ 11) (h5 : i ≠ 5) (h9 : i ≠ 9) : cpV a b f a i = f b i := by
  have B : ∀ (x : Nat) (g : Vw) (y : Nat), cpF a b x g b y = g b y := fun x g y => cpF_o h0
  have C1 : ∀ (g : Vw) (x y N : Nat), vcp g x (a + 1) 0 0 N a y = g a y := fun g x y N => vcp_o (by omega)
  have C2 : ∀ (g : Vw) (x y N : Nat), vcp g x (a + 2) 0 0 N a y = g a y := fun g x y N => vcp_o (by omega)
  have C3 : ∀ (g : Vw) (x y N : Nat), vcp g x (a + 1) 0 0 N b y = g b y := fun g x y N => vcp_o h1
  have C4 : ∀ (g : Vw) (x y N : Nat), vcp g x (a + 2) 0 0 N b y = g b y := fun g x y N => vcp_o h2
  unfold cpV
  rcases (show i = 0 ∨ i = 1 ∨ i = 2 ∨ i = 3 ∨ i = 4 ∨ i = 6 ∨ i = 7 ∨ i = 8 ∨ i = 10 ∨ i = 11 by omega) with rfl | rfl | rfl | rfl | rfl | rfl | rfl | rfl | rfl | rfl <;> simp [cpF_a, B, C1, C2, C3, C4]
theorem cpV_1 {a b i : Nat} {f : Vw} (h0 : b + 1 ≠ a) (hi : i < 3) : cpV a b f (a + 1) i = f (b + 1) i := by
  unfold cpV
  rw [cpF_o (by omega), cpF_o (by omega), vcp_o (by omega), cpF_o (by omega), cpF_o (by omega), cpF_o (by omega), vcp_b hi, cpF_o h0, cpF_o h0, cpF_o h0, cpF_o h0, cpF_o h0]
theorem cpV_2 {a b i : Nat} {f : Vw} (h0 : b + 2 ≠ a) (q : b + 2 ≠ a + 1) (hi : i < 12) : cpV a b f (a + 2) i = f (b + 2) i := by
  unfold cpV
  rw [cpF_o (by omega), cpF_o (by omega), vcp_b hi, cpF_o h0, cpF_o h0, cpF_o h0]
  rw [vcp_o q, cpF_o h0, cpF_o h0, cpF_o h0, cpF_o h0, cpF_o h0]
theorem cpE_loop {D A B c : Nat} (hAB : A + 39 ≤ B ∨ B + 39 ≤ A) (hc : c ≤ 12) (b1 : ∀ (F j : Nat) (g : Vw), vFn (vM MT0 D) nb_X9_copyFrom (F + 1) 1 0 [vR A, vR B, vI j] [] g = vc3 (bv j) (bv (g A 2)) (vFn (vM MT0 D) nb_X9_copyFrom F 2 0 [vR A, vR B, vI j] [] g) (vFn (vM MT0 D) nb_X9_copyFrom F 3 0 [vR A, vR B, vI j] [] g) (vFn (vM MT0 D) nb_X9_copyFrom F 3 0 [vR A, vR B, vI j] [] g)) (st2 : ∀ (F j : Nat) (g : Vw), j < 12 → vFn (vM MT0 D) nb_X9_copyFrom (F + 1) 2 0 [vR A, vR B, vI j] [] g = vFn (vM MT0 D) nb_X9_copyFrom F 1 0 [vR A, vR B, vI (j + 1)] [] (cpE (A + 3 + j) (B + 3 + j) g)) (f0 : Vw) : ∀ (m j F : Nat) (g : Vw), j + m = c → 2 * m + 1 ≤ F → g A 2 = c → (∀ k i, k < A + 3 ∨ A + 3 + j ≤ k → g k i = f0 k i) → (∀ j', j' < j → ∀ i, i ≤ 8 → g (A + 3 + j') i = f0 (B + 3 + j') i) → ∃ g' F', F ≤ F' + (2 * m + 1) ∧ vFn (vM MT0 D) nb_X9_copyFrom F 1 0 [vR A, vR B, vI j] [] g = vFn (vM MT0 D) nb_X9_copyFrom F' 3 0 [vR A, vR B, vI c] [] g' ∧ (∀ k i, k < A + 3 ∨ A + 3 + c ≤ k → g' k i = f0 k i) ∧ ∀ j', j' < c → ∀ i, i ≤ 8 → g' (A + 3 + j') i = f0 (B + 3 + j') i := by
  intro m
  induction m with
  | zero =>
    intro j F g hj hF h2 h3 h4
    obtain ⟨F1, rfl⟩ : ∃ F1, F = F1 + 1 := ⟨F - 1, by omega⟩
    have e : j = c := by omega
    subst e
    refine ⟨g, F1, by omega, ?_, h3, h4⟩
    rw [b1, vge2 (x := j) (y := g A 2) (by omega) (by omega)]
  | succ m ih =>
    intro j F g hj hF h2 h3 h4
    obtain ⟨F1, rfl⟩ : ∃ F1, F = F1 + 2 := ⟨F - 2, by omega⟩
    obtain ⟨g', F', a1, a2, a3, a4⟩ := ih (j + 1) F1 (cpE (A + 3 + j) (B + 3 + j) g) (by omega) (by omega) ((cpE_o (by omega)).trans h2) (fun k i hk => (cpE_o (by omega)).trans (h3 k i (by omega))) (fun j' hj' i hi => by
      by_cases q : j' = j
      · rw [q]
        exact (cpE_a (by omega) hi).trans (h3 _ _ (by omega))
      · exact (cpE_o (by omega)).trans (h4 j' (by omega) i hi))
    refine ⟨g', F', by omega, ?_, a3, a4⟩
    rw [b1, vlt (x := j) (y := g A 2) (by omega) (by omega), st2 F1 j g (by omega)]
    exact a2
theorem cpV_loop {D A B d : Nat} (hAB : A + 39 ≤ B ∨ B + 39 ≤ A) (hd : d ≤ 8) (b4 : ∀ (F j : Nat) (g : Vw), vFn (vM MT0 D) nb_X9_copyFrom (F + 1) 4 0 [vR A, vR B, vI j] [] g = vc3 (bv j) (bv (g A 3)) (vFn (vM MT0 D) nb_X9_copyFrom F 5 0 [vR A, vR B, vI j] [] g) (vFn (vM MT0 D) nb_X9_copyFrom F 6 0 [vR A, vR B, vI j] [] g) (vFn (vM MT0 D) nb_X9_copyFrom F 6 0 [vR A, vR B, vI j] [] g)) (st5 : ∀ (F j : Nat) (g : Vw), j < 8 → vFn (vM MT0 D) nb_X9_copyFrom (F + 1) 5 0 [vR A, vR B, vI j] [] g = vFn (vM MT0 D) nb_X9_copyFrom F 4 0 [vR A, vR B, vI (j + 1)] [] (cpV (A + 15 + 3 * j) (B + 15 + 3 * j) g)) (f0 : Vw) : ∀ (m j F : Nat) (g : Vw), j + m = d → 2 * m + 1 ≤ F → g A 3 = d → (∀ k i, k < A + 15 ∨ A + 15 + 3 * j ≤ k → g k i = f0 k i) → (∀ j', j' < j → (∀ i, i ≤ 11 → i ≠ 5 → i ≠ 9 → g (A + 15 + 3 * j') i = f0 (B + 15 + 3 * j') i) ∧ (∀ i, i < 3 → g (A + 15 + 3 * j' + 1) i = f0 (B + 15 + 3 * j' + 1) i) ∧ ∀ i, i < 12 → g (A + 15 + 3 * j' + 2) i = f0 (B + 15 + 3 * j' + 2) i) → ∃ g' F', F ≤ F' + (2 * m + 1) ∧ vFn (vM MT0 D) nb_X9_copyFrom F 4 0 [vR A, vR B, vI j] [] g = vFn (vM MT0 D) nb_X9_copyFrom F' 6 0 [vR A, vR B, vI d] [] g' ∧ (∀ k i, k < A + 15 ∨ A + 15 + 3 * d ≤ k → g' k i = f0 k i) ∧ ∀ j', j' < d → (∀ i, i ≤ 11 → i ≠ 5 → i ≠ 9 → g' (A + 15 + 3 * j') i = f0 (B + 15 + 3 * j') i) ∧ (∀ i, i < 3 → g' (A + 15 + 3 * j' + 1) i = f0 (B + 15 + 3 * j' + 1) i) ∧ ∀ i, i < 12 → g' (A + 15 + 3 * j' + 2) i = f0 (B + 15 + 3 * j' + 2) i := by
  intro m
  induction m with
  | zero =>
    intro j F g hj hF h2 h3 h4
    obtain ⟨F1, rfl⟩ : ∃ F1, F = F1 + 1 := ⟨F - 1, by omega⟩
    have e : j = d := by omega
    subst e
    refine ⟨g, F1, by omega, ?_, h3, h4⟩
    rw [b4, vge2 (x := j) (y := g A 3) (by omega) (by omega)]
  | succ m ih =>
    intro j F g hj hF h2 h3 h4
    obtain ⟨F1, rfl⟩ : ∃ F1, F = F1 + 2 := ⟨F - 2, by omega⟩
    obtain ⟨g', F', a1, a2, a3, a4⟩ := ih (j + 1) F1 (cpV (A + 15 + 3 * j) (B + 15 + 3 * j) g) (by omega) (by omega) ((cpV_o (by omega) (by omega) (by omega)).trans h2) (fun k i hk => (cpV_o (by omega) (by omega) (by omega)).trans (h3 k i (by omega))) (fun j' hj' => by
      by_cases q : j' = j
      · rw [q]
        exact ⟨fun i hi h5 h9 => (cpV_a (by omega) (by omega) (by omega) hi h5 h9).trans (h3 _ _ (by omega)), fun i hi => (cpV_1 (by omega) hi).trans (h3 _ _ (by omega)), fun i hi => (cpV_2 (by omega) (by omega) hi).trans (h3 _ _ (by omega))⟩
      · obtain ⟨q1, q2, q3⟩ := h4 j' (by omega)
        exact ⟨fun i hi h5 h9 => (cpV_o (by omega) (by omega) (by omega)).trans (q1 i hi h5 h9), fun i hi => (cpV_o (by omega) (by omega) (by omega)).trans (q2 i hi), fun i hi => (cpV_o (by omega) (by omega) (by omega)).trans (q3 i hi)⟩)
    refine ⟨g', F', by omega, ?_, a3, a4⟩
    rw [b4, vlt (x := j) (y := g A 3) (by omega) (by omega), st5 F1 j g (by omega)]
    exact a2
/-- what the copy of a world says -/
def CpW (A B : Nat) (f g : Vw) : Prop := (∀ i, 2 ≤ i → i ≤ 10 → g A i = f B i) ∧ (∀ j, j < f B 2 → ∀ i, i ≤ 8 → g (A + 3 + j) i = f (B + 3 + j) i) ∧ (∀ j, j < f B 3 → (∀ i, i ≤ 11 → i ≠ 5 → i ≠ 9 → g (A + 15 + 3 * j) i = f (B + 15 + 3 * j) i) ∧ (∀ i, i < 3 → g (A + 15 + 3 * j + 1) i = f (B + 15 + 3 * j + 1) i) ∧ ∀ i, i < 12 → g (A + 15 + 3 * j + 2) i = f (B + 15 + 3 * j + 2) i) ∧ ∀ k i, k < A ∨ A + 39 ≤ k → g k i = f k i
theorem cp_world {D A B F0 : Nat} {f : Vw} {L0 : List AV} (hAB : A + 39 ≤ B ∨ B + 39 ≤ A) (hc : f B 2 ≤ 12) (hd : f B 3 ≤ 8) (hF0 : 1000 ≤ F0) (b0 : ∀ F, vFn (vM MT0 D) nb_X9_copyFrom (F + 1) 0 0 L0 [] f = vFn (vM MT0 D) nb_X9_copyFrom F 1 0 [vR A, vR B, vI 0] [] (cpW A B f)) (b1 : ∀ (F j : Nat) (g : Vw), vFn (vM MT0 D) nb_X9_copyFrom (F + 1) 1 0 [vR A, vR B, vI j] [] g = vc3 (bv j) (bv (g A 2)) (vFn (vM MT0 D) nb_X9_copyFrom F 2 0 [vR A, vR B, vI j] [] g) (vFn (vM MT0 D) nb_X9_copyFrom F 3 0 [vR A, vR B, vI j] [] g) (vFn (vM MT0 D) nb_X9_copyFrom F 3 0 [vR A, vR B, vI j] [] g)) (st2 : ∀ (F j : Nat) (g : Vw), j < 12 → vFn (vM MT0 D) nb_X9_copyFrom (F + 1) 2 0 [vR A, vR B, vI j] [] g = vFn (vM MT0 D) nb_X9_copyFrom F 1 0 [vR A, vR B, vI (j + 1)] [] (cpE (A + 3 + j) (B + 3 + j) g)) (b3 : ∀ (F j : Nat) (g : Vw), vFn (vM MT0 D) nb_X9_copyFrom (F + 1) 3 0 [vR A, vR B, vI j] [] g = vFn (vM MT0 D) nb_X9_copyFrom F 4 0 [vR A, vR B, vI 0] [] g) (b4 : ∀ (F j : Nat) (g : Vw), vFn (vM MT0 D) nb_X9_copyFrom (F + 1) 4 0 [vR A, vR B, vI j] [] g = vc3 (bv j) (bv (g A 3)) (vFn (vM MT0 D) nb_X9_copyFrom F 5 0 [vR A, vR B, vI j] [] g) (vFn (vM MT0 D) nb_X9_copyFrom F 6 0 [vR A, vR B, vI j] [] g) (vFn (vM MT0 D) nb_X9_copyFrom F 6 0 [vR A, vR B, vI j] [] g)) (st5 : ∀ (F j : Nat) (g : Vw), j < 8 → vFn (vM MT0 D) nb_X9_copyFrom (F + 1) 5 0 [vR A, vR B, vI j] [] g = vFn (vM MT0 D) nb_X9_copyFrom F 4 0 [vR A, vR B, vI (j + 1)] [] (cpV (A + 15 + 3 * j) (B + 15 + 3 * j) g)) (b6 : ∀ (F j : Nat) (g : Vw), vFn (vM MT0 D) nb_X9_copyFrom (F + 1) 6 0 [vR A, vR B, vI j] [] g = some ((1, 0), vW 3, g)) : ∃ g, vFn (vM MT0 D) nb_X9_copyFrom F0 0 0 L0 [] f = some ((1, 0), vW 3, g) ∧ CpW A B f g := by
  obtain ⟨F1, rfl⟩ : ∃ F1, F0 = F1 + 1 := ⟨F0 - 1, by omega⟩
  have w2 : cpW A B f A 2 = f B 2 := cpW_a (by omega) (by decide) (by decide)
  have w3 : cpW A B f A 3 = f B 3 := cpW_a (by omega) (by decide) (by decide)
  obtain ⟨g1, F2, q1, q2, q3, q4⟩ := cpE_loop hAB hc b1 st2 (cpW A B f) (f B 2) 0 F1 (cpW A B f) (by omega) (by omega) w2 (fun _ _ _ => rfl) (fun j' h => absurd h (Nat.not_lt_zero j'))
  obtain ⟨F3, rfl⟩ : ∃ F3, F2 = F3 + 1 := ⟨F2 - 1, by omega⟩
  obtain ⟨g2, F4, r1, r2, r3, r4⟩ := cpV_loop hAB hd b4 st5 g1 (f B 3) 0 F3 g1 (by omega) (by omega) ((q3 _ _ (by omega)).trans w3) (fun _ _ _ => rfl) (fun j' h => absurd h (Nat.not_lt_zero j'))
  obtain ⟨F5, rfl⟩ : ∃ F5, F4 = F5 + 1 := ⟨F4 - 1, by omega⟩
  refine ⟨g2, ?_, fun i h2 hi => ?_, fun j hj i hi => ?_, fun j hj => ?_, fun k i hk => ?_⟩
  · rw [b0, q2, b3, r2, b6]
  · exact (r3 _ _ (by omega)).trans ((q3 _ _ (by omega)).trans (cpW_a (by omega) h2 hi))
  · exact (r3 _ _ (by omega)).trans ((q4 j hj i hi).trans (cpW_o (by omega)))
  · obtain ⟨s1, s2, s3⟩ := r4 j hj
    exact ⟨fun i hi h5 h9 => (s1 i hi h5 h9).trans ((q3 _ _ (by omega)).trans (cpW_o (by omega))), fun i hi => (s2 i hi).trans ((q3 _ _ (by omega)).trans (cpW_o (by omega))), fun i hi => (s3 i hi).trans ((q3 _ _ (by omega)).trans (cpW_o (by omega)))⟩
  · exact (r3 _ _ (by omega)).trans ((q3 _ _ (by omega)).trans (cpW_o (by omega)))
end
