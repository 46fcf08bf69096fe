/-! the reference's things by name -/
theorem err_of {e q : Nat} {f g : Vw} (h : ERR e q f) (h1 : g 452 20 = f 452 20) (h2 : g 452 21 = f 452 21) : ERR e q g := ⟨h1.trans h.1, h2.trans h.2.1, h.2.2⟩
theorem v_placeE {D j : Nat} {f : Vw} (hj : j ≤ 12) : vM MT0 (D + 1) 239 [vI j, vI 0] f = some ((0, 0), vI (23 + 15 * j), f) := by
  refine vM_go rfl rfl rfl rfl fun F hF => ?_
  (first | (refine (veq (x := 0) (y := 0) rfl).trans ?_) | (refine (vF_g rfl rfl).trans ?_; refine (vF_g rfl rfl).trans ?_; refine (veq (x := 0) (y := 0) rfl).trans ?_) | (refine (vF_g rfl rfl).trans ?_; refine (veq (x := 0) (y := 0) rfl).trans ?_))
  (first | (refine Eq.trans (b := some ((0, 0), vI ((23 + g_imul 15 j) % 4294967296), f)) rfl ?_) | (refine (vF_g rfl rfl).trans ?_; refine (vF_g rfl rfl).trans ?_; refine Eq.trans (b := some ((0, 0), vI ((23 + g_imul 15 j) % 4294967296), f)) rfl ?_) | (refine (vF_g rfl rfl).trans ?_; refine Eq.trans (b := some ((0, 0), vI ((23 + g_imul 15 j) % 4294967296), f)) rfl ?_))
  rw [g_imul_s (show 15 * j < 2147483648 by omega) (by decide) (by omega), Nat.mod_eq_of_lt (show 23 + 15 * j < 4294967296 by omega)]
theorem th_loopE {D : Nat} {n c d p : Nat} {T : Nat → Nat} {E V : Nat → Nat → Nat} {f : Vw} (h : RS n T E V c d p f) {x s z : Nat} (hs : f 452 18 = s) (hz : f 452 19 = z) (hz6 : z ≤ 6) (hs9 : s ≤ 900) (hw : ∀ k, k < z → 97 ≤ T (s + k) ∧ T (s + k) ≤ 122) (hX : x = pkr (nmr T s z)) : ∀ (m j F : Nat), j + m = c → 5 * m + 5 ≤ F → vFn (vM MT0 (D + 2)) nb_X11_thingHere F 1 0 [vR 452, vI 0, vI j] [] f = some ((0, 0), vI (fidx (fun j => E j 0) x m j), f) := by
  have hc9 := h.c9
  intro m
  induction m with
  | zero =>
    intro j F hj hF
    obtain ⟨F1, rfl⟩ : ∃ F1, F = F1 + 4 := ⟨F - 4, by omega⟩
    (first | (refine (veq (x := 0) (y := 0) rfl).trans ?_) | (refine (vF_g rfl rfl).trans ?_; refine (vF_g rfl rfl).trans ?_; refine (veq (x := 0) (y := 0) rfl).trans ?_) | (refine (vF_g rfl rfl).trans ?_; refine (veq (x := 0) (y := 0) rfl).trans ?_))
    (first | (refine (vge2 (x := j) (y := f 453 0) (by omega) (by rw [h.c0]; omega)).trans ?_) | (refine (vF_g rfl rfl).trans ?_; refine (vF_g rfl rfl).trans ?_; refine (vge2 (x := j) (y := f 453 0) (by omega) (by rw [h.c0]; omega)).trans ?_) | (refine (vF_g rfl rfl).trans ?_; refine (vge2 (x := j) (y := f 453 0) (by omega) (by rw [h.c0]; omega)).trans ?_))
    (first | (exact rfl) | (refine (vF_g rfl rfl).trans ?_; refine (vF_g rfl rfl).trans ?_; exact rfl) | (refine (vF_g rfl rfl).trans ?_; refine (vF_g rfl rfl).trans ?_; refine (vF_g rfl rfl).trans ?_; exact rfl) | (refine (vF_g rfl rfl).trans ?_; exact rfl))
  | succ m ih =>
    intro j F hj hF
    obtain ⟨F1, rfl⟩ : ∃ F1, F = F1 + 5 := ⟨F - 5, by omega⟩
    have e1 := v_placeE (D := D + 1) (j := j) (f := f) (by omega)
    have e2 := v_isNamed (D := D) (a := 23 + 15 * j) h.tx hs hz hz6 hs9 (by omega) (h.nE j (by omega)).1 hw
    (first | (refine (veq (x := 0) (y := 0) rfl).trans ?_) | (refine (vF_g rfl rfl).trans ?_; refine (vF_g rfl rfl).trans ?_; refine (veq (x := 0) (y := 0) rfl).trans ?_) | (refine (vF_g rfl rfl).trans ?_; refine (veq (x := 0) (y := 0) rfl).trans ?_))
    (first | (refine (vlt (x := j) (y := f 453 0) (by rw [h.c0]; omega) (by rw [h.c0]; omega)).trans ?_) | (refine (vF_g rfl rfl).trans ?_; refine (vF_g rfl rfl).trans ?_; refine (vlt (x := j) (y := f 453 0) (by rw [h.c0]; omega) (by rw [h.c0]; omega)).trans ?_) | (refine (vF_g rfl rfl).trans ?_; refine (vlt (x := j) (y := f 453 0) (by rw [h.c0]; omega) (by rw [h.c0]; omega)).trans ?_))
    (first | (refine (vbnd_0 e1).trans ?_) | (refine (vF_g rfl rfl).trans ?_; refine (vF_g rfl rfl).trans ?_; refine (vbnd_0 e1).trans ?_) | (refine (vF_g rfl rfl).trans ?_; refine (vbnd_0 e1).trans ?_))
    (first | (refine (vbnd_0 e2).trans ?_) | (refine (vF_g rfl rfl).trans ?_; refine (vF_g rfl rfl).trans ?_; refine (vbnd_0 e2).trans ?_) | (refine (vF_g rfl rfl).trans ?_; refine (vbnd_0 e2).trans ?_))
    rw [← hX, show fidx (fun j => E j 0) x (m + 1) j = if E j 0 = x then j else fidx (fun j => E j 0) x m (j + 1) from rfl]
    by_cases q : E j 0 = x
    · rw [if_pos q, if_pos q]
      (first | (refine (vgt (x := 1) (y := 0) (by decide) (by decide)).trans ?_) | (refine (vF_g rfl rfl).trans ?_; refine (vF_g rfl rfl).trans ?_; refine (vgt (x := 1) (y := 0) (by decide) (by decide)).trans ?_) | (refine (vF_g rfl rfl).trans ?_; refine (vgt (x := 1) (y := 0) (by decide) (by decide)).trans ?_))
      (first | (exact rfl) | (refine (vF_g rfl rfl).trans ?_; refine (vF_g rfl rfl).trans ?_; exact rfl) | (refine (vF_g rfl rfl).trans ?_; refine (vF_g rfl rfl).trans ?_; refine (vF_g rfl rfl).trans ?_; exact rfl) | (refine (vF_g rfl rfl).trans ?_; exact rfl))
    · rw [if_neg q, if_neg q]
      (first | (refine (veq (x := 0) (y := 0) rfl).trans ?_) | (refine (vF_g rfl rfl).trans ?_; refine (vF_g rfl rfl).trans ?_; refine (veq (x := 0) (y := 0) rfl).trans ?_) | (refine (vF_g rfl rfl).trans ?_; refine (veq (x := 0) (y := 0) rfl).trans ?_))
      (first | (refine Eq.trans (b := vFn (vM MT0 (D + 2)) nb_X11_thingHere F1 1 0 [vR 452, vI 0, vI ((j + 1) % 4294967296)] [] f) rfl ?_) | (refine (vF_g rfl rfl).trans ?_; refine (vF_g rfl rfl).trans ?_; refine Eq.trans (b := vFn (vM MT0 (D + 2)) nb_X11_thingHere F1 1 0 [vR 452, vI 0, vI ((j + 1) % 4294967296)] [] f) rfl ?_) | (refine (vF_g rfl rfl).trans ?_; refine Eq.trans (b := vFn (vM MT0 (D + 2)) nb_X11_thingHere F1 1 0 [vR 452, vI 0, vI ((j + 1) % 4294967296)] [] f) rfl ?_))
      rw [Nat.mod_eq_of_lt (show j + 1 < 4294967296 by omega)]
      exact ih (j + 1) F1 (by omega) (by omega)
theorem v_thingE {D : Nat} {n c d p : Nat} {T : Nat → Nat} {E V : Nat → Nat → Nat} {f : Vw} (h : RS n T E V c d p f) (hk : nOK T p) : vM MT0 (D + 3) 240 [vR 452, vI 0] (rkv f T p) = some ((0, 0), vI (fidx (fun j => E j 0) (pkr (tN T p)) c 0), rkv f T p) := by
  have hz := (nOK_z.mp hk)
  have hn := h.tx.1
  have hs := tS_le h.tx.2.2.2.2 h.le
  have he := tZ_E hk.1
  have eN : pkr (tN T p) = pkr (nmr T (tS T p) (tZ T p)) := by
    unfold tN
    rw [show tE T p - tS T p = tZ T p by omega]
  exact vM_go rfl rfl rfl rfl fun F hF => (by (first | (refine Eq.trans (b := vFn (vM MT0 (D + 2)) nb_X11_thingHere (F + 59) 1 0 [vR 452, vI 0, vI 0] [] (rkv f T p)) rfl ?_) | (refine (vF_g rfl rfl).trans ?_; refine (vF_g rfl rfl).trans ?_; refine Eq.trans (b := vFn (vM MT0 (D + 2)) nb_X11_thingHere (F + 59) 1 0 [vR 452, vI 0, vI 0] [] (rkv f T p)) rfl ?_) | (refine (vF_g rfl rfl).trans ?_; refine Eq.trans (b := vFn (vM MT0 (D + 2)) nb_X11_thingHere (F + 59) 1 0 [vR 452, vI 0, vI 0] [] (rkv f T p)) rfl ?_)); (first | (exact (th_loopE (D := D) (rs_rkv h) rkv_18 rkv_19 hz.2 (by omega) (fun j hj => word_l hk.1 j (by omega)) eN c 0 (F + 59) (by omega) (by have := h.c9; omega))) | (refine (vF_g rfl rfl).trans ?_; refine (vF_g rfl rfl).trans ?_; exact (th_loopE (D := D) (rs_rkv h) rkv_18 rkv_19 hz.2 (by omega) (fun j hj => word_l hk.1 j (by omega)) eN c 0 (F + 59) (by omega) (by have := h.c9; omega))) | (refine (vF_g rfl rfl).trans ?_; exact (th_loopE (D := D) (rs_rkv h) rkv_18 rkv_19 hz.2 (by omega) (fun j hj => word_l hk.1 j (by omega)) eN c 0 (F + 59) (by omega) (by have := h.c9; omega)))))
theorem v_mustE {D : Nat} {n c d p : Nat} {T : Nat → Nat} {E V : Nat → Nat → Nat} {f : Vw} (h : RS n T E V c d p f) : (¬ nOK T p → ∃ g, vM MT0 (D + 4) 241 [vR 452, vI 0] f = some ((0, 0), vI 0, g) ∧ ERR 1 (tS T p) g) ∧ (nOK T p → fidx (fun j => E j 0) (pkr (tN T p)) c 0 = 4294967295 → ∃ g, vM MT0 (D + 4) 241 [vR 452, vI 0] f = some ((0, 0), vI 0, g) ∧ ERR 3 (tS T p) g) ∧ (nOK T p → fidx (fun j => E j 0) (pkr (tN T p)) c 0 ≠ 4294967295 → ∃ g, vM MT0 (D + 4) 241 [vR 452, vI 0] f = some ((0, 0), vI (fidx (fun j => E j 0) (pkr (tN T p)) c 0), g) ∧ RS n T E V c d (tE T p) g ∧ ∀ a b, a ≠ 452 → g a b = f a b) := by
  obtain ⟨w1, w2⟩ := v_isNameR (D := D) h
  have hr := rs_rkv h
  have e20 : rkv f T p 452 20 = 0 := hr.er.1
  have hn := h.tx.1
  have hE := tE_ge h.tx.2.2.2.2 h.le
  have hl : fidx (fun j => E j 0) (pkr (tN T p)) c 0 < 4294967296 := by
    have := h.c9
    rcases fidx_lt (g := fun j => E j 0) (x := pkr (tN T p)) c 0 with q | ⟨_, q, _⟩ <;> omega
  refine ⟨fun k => ?_, fun k k2 => ?_, fun k k2 => ?_⟩
  · obtain ⟨g, e, hg⟩ := w2 k
    exact ⟨g, vM_go rfl rfl rfl rfl fun F hF => (by (first | (refine (vbnd_0 e).trans ?_) | (refine (vF_g rfl rfl).trans ?_; refine (vF_g rfl rfl).trans ?_; refine (vbnd_0 e).trans ?_) | (refine (vF_g rfl rfl).trans ?_; refine (vbnd_0 e).trans ?_)); (first | (refine (veq (x := 0) (y := 0) rfl).trans ?_) | (refine (vF_g rfl rfl).trans ?_; refine (vF_g rfl rfl).trans ?_; refine (veq (x := 0) (y := 0) rfl).trans ?_) | (refine (vF_g rfl rfl).trans ?_; refine (veq (x := 0) (y := 0) rfl).trans ?_)); (first | (exact rfl) | (refine (vF_g rfl rfl).trans ?_; refine (vF_g rfl rfl).trans ?_; exact rfl) | (refine (vF_g rfl rfl).trans ?_; refine (vF_g rfl rfl).trans ?_; refine (vF_g rfl rfl).trans ?_; exact rfl) | (refine (vF_g rfl rfl).trans ?_; exact rfl))), hg⟩
  · have e := v_thingE (D := D) h k
    have m : vM MT0 (D + 3) 230 [vR 452, vI 0, vI 3] (rkv f T p) = some ((1, 0), vW 3, flR 3 (rkv f T p)) := by
      rw [v_must (Or.inl rfl) (by rw [e20]; decide), if_pos ⟨rfl, e20⟩]
    refine ⟨vup (flR 3 (rkv f T p)) 452 17 ((flR 3 (rkv f T p) 452 18 + flR 3 (rkv f T p) 452 19) % 4294967296), vM_go rfl rfl rfl rfl fun F hF => (by (first | (refine (vbnd_0 (w1 k)).trans ?_) | (refine (vF_g rfl rfl).trans ?_; refine (vF_g rfl rfl).trans ?_; refine (vbnd_0 (w1 k)).trans ?_) | (refine (vF_g rfl rfl).trans ?_; refine (vbnd_0 (w1 k)).trans ?_)); (first | (refine (vgt (x := 1) (y := 0) (by decide) (by decide)).trans ?_) | (refine (vF_g rfl rfl).trans ?_; refine (vF_g rfl rfl).trans ?_; refine (vgt (x := 1) (y := 0) (by decide) (by decide)).trans ?_) | (refine (vF_g rfl rfl).trans ?_; refine (vgt (x := 1) (y := 0) (by decide) (by decide)).trans ?_)); (first | (refine (vbnd_0 e).trans ?_) | (refine (vF_g rfl rfl).trans ?_; refine (vF_g rfl rfl).trans ?_; refine (vbnd_0 e).trans ?_) | (refine (vF_g rfl rfl).trans ?_; refine (vbnd_0 e).trans ?_)); (first | (refine (veq k2).trans ?_) | (refine (vF_g rfl rfl).trans ?_; refine (vF_g rfl rfl).trans ?_; refine (veq k2).trans ?_) | (refine (vF_g rfl rfl).trans ?_; refine (veq k2).trans ?_)); (first | (refine (vbnd_1 m).trans ?_) | (refine (vF_g rfl rfl).trans ?_; refine (vF_g rfl rfl).trans ?_; refine (vbnd_1 m).trans ?_) | (refine (vF_g rfl rfl).trans ?_; refine (vbnd_1 m).trans ?_)); (first | (refine (vbnd_1 v_goesPast).trans ?_) | (refine (vF_g rfl rfl).trans ?_; refine (vF_g rfl rfl).trans ?_; refine (vbnd_1 v_goesPast).trans ?_) | (refine (vF_g rfl rfl).trans ?_; refine (vbnd_1 v_goesPast).trans ?_)); (first | (refine (vne (x := vup (flR 3 (rkv f T p)) 452 17 ((flR 3 (rkv f T p) 452 18 + flR 3 (rkv f T p) 452 19) % 4294967296) 452 20) (y := 0) (by rw [vup_ne (Or.inr (by decide)), flR_20]; decide) (by decide) (by rw [vup_ne (Or.inr (by decide)), flR_20]; decide)).trans ?_) | (refine (vF_g rfl rfl).trans ?_; refine (vF_g rfl rfl).trans ?_; refine (vne (x := vup (flR 3 (rkv f T p)) 452 17 ((flR 3 (rkv f T p) 452 18 + flR 3 (rkv f T p) 452 19) % 4294967296) 452 20) (y := 0) (by rw [vup_ne (Or.inr (by decide)), flR_20]; decide) (by decide) (by rw [vup_ne (Or.inr (by decide)), flR_20]; decide)).trans ?_) | (refine (vF_g rfl rfl).trans ?_; refine (vne (x := vup (flR 3 (rkv f T p)) 452 17 ((flR 3 (rkv f T p) 452 18 + flR 3 (rkv f T p) 452 19) % 4294967296) 452 20) (y := 0) (by rw [vup_ne (Or.inr (by decide)), flR_20]; decide) (by decide) (by rw [vup_ne (Or.inr (by decide)), flR_20]; decide)).trans ?_)); (first | (exact rfl) | (refine (vF_g rfl rfl).trans ?_; refine (vF_g rfl rfl).trans ?_; exact rfl) | (refine (vF_g rfl rfl).trans ?_; refine (vF_g rfl rfl).trans ?_; refine (vF_g rfl rfl).trans ?_; exact rfl) | (refine (vF_g rfl rfl).trans ?_; exact rfl))), err_up (err_fl rkv_18 (by decide) (by decide)) (Or.inr (by decide))⟩
  · have e := v_thingE (D := D) h k
    have m : vM MT0 (D + 3) 230 [vR 452, vI 1, vI 3] (rkv f T p) = some ((1, 0), vW 3, rkv f T p) := by
      rw [v_must (Or.inr rfl) (by rw [e20]; decide), if_neg (fun w => by cases w.1)]
    have hz := tZ_E k.1
    have z : vM MT0 (D + 3) 232 [vR 452] (rkv f T p) = some ((1, 0), vW 3, vup (rkv f T p) 452 17 (tE T p)) := by
      rw [v_goesPast, rkv_18, rkv_19, hz, Nat.mod_eq_of_lt (by omega)]
    exact ⟨_, vM_go rfl rfl rfl rfl fun F hF => (by (first | (refine (vbnd_0 (w1 k)).trans ?_) | (refine (vF_g rfl rfl).trans ?_; refine (vF_g rfl rfl).trans ?_; refine (vbnd_0 (w1 k)).trans ?_) | (refine (vF_g rfl rfl).trans ?_; refine (vbnd_0 (w1 k)).trans ?_)); (first | (refine (vgt (x := 1) (y := 0) (by decide) (by decide)).trans ?_) | (refine (vF_g rfl rfl).trans ?_; refine (vF_g rfl rfl).trans ?_; refine (vgt (x := 1) (y := 0) (by decide) (by decide)).trans ?_) | (refine (vF_g rfl rfl).trans ?_; refine (vgt (x := 1) (y := 0) (by decide) (by decide)).trans ?_)); (first | (refine (vbnd_0 e).trans ?_) | (refine (vF_g rfl rfl).trans ?_; refine (vF_g rfl rfl).trans ?_; refine (vbnd_0 e).trans ?_) | (refine (vF_g rfl rfl).trans ?_; refine (vbnd_0 e).trans ?_)); (first | (refine (vne hl (by decide) k2).trans ?_) | (refine (vF_g rfl rfl).trans ?_; refine (vF_g rfl rfl).trans ?_; refine (vne hl (by decide) k2).trans ?_) | (refine (vF_g rfl rfl).trans ?_; refine (vne hl (by decide) k2).trans ?_)); (first | (refine (vbnd_1 m).trans ?_) | (refine (vF_g rfl rfl).trans ?_; refine (vF_g rfl rfl).trans ?_; refine (vbnd_1 m).trans ?_) | (refine (vF_g rfl rfl).trans ?_; refine (vbnd_1 m).trans ?_)); (first | (refine (vbnd_1 z).trans ?_) | (refine (vF_g rfl rfl).trans ?_; refine (vF_g rfl rfl).trans ?_; refine (vbnd_1 z).trans ?_) | (refine (vF_g rfl rfl).trans ?_; refine (vbnd_1 z).trans ?_)); (first | (refine (veq ((vup_ne (Or.inr (by decide))).trans e20)).trans ?_) | (refine (vF_g rfl rfl).trans ?_; refine (vF_g rfl rfl).trans ?_; refine (veq ((vup_ne (Or.inr (by decide))).trans e20)).trans ?_) | (refine (vF_g rfl rfl).trans ?_; refine (veq ((vup_ne (Or.inr (by decide))).trans e20)).trans ?_)); (first | (exact rfl) | (refine (vF_g rfl rfl).trans ?_; refine (vF_g rfl rfl).trans ?_; exact rfl) | (refine (vF_g rfl rfl).trans ?_; refine (vF_g rfl rfl).trans ?_; refine (vF_g rfl rfl).trans ?_; exact rfl) | (refine (vF_g rfl rfl).trans ?_; exact rfl))), rs_past hr hE.2, fun a b w => (vup_ne (Or.inl w)).trans (rkv_o (Or.inl w))⟩
theorem v_placeV {D j : Nat} {f : Vw} (hj : j ≤ 12) : vM MT0 (D + 1) 239 [vI j, vI 1] f = some ((0, 0), vI (203 + 17 * j), f) := by
  refine vM_go rfl rfl rfl rfl fun F hF => ?_
  (first | (refine (vgt (x := 1) (y := 0) (by decide) (by decide)).trans ?_) | (refine (vF_g rfl rfl).trans ?_; refine (vF_g rfl rfl).trans ?_; refine (vgt (x := 1) (y := 0) (by decide) (by decide)).trans ?_) | (refine (vF_g rfl rfl).trans ?_; refine (vgt (x := 1) (y := 0) (by decide) (by decide)).trans ?_))
  (first | (refine Eq.trans (b := some ((0, 0), vI ((203 + g_imul 17 j) % 4294967296), f)) rfl ?_) | (refine (vF_g rfl rfl).trans ?_; refine (vF_g rfl rfl).trans ?_; refine Eq.trans (b := some ((0, 0), vI ((203 + g_imul 17 j) % 4294967296), f)) rfl ?_) | (refine (vF_g rfl rfl).trans ?_; refine Eq.trans (b := some ((0, 0), vI ((203 + g_imul 17 j) % 4294967296), f)) rfl ?_))
  rw [g_imul_s (show 17 * j < 2147483648 by omega) (by decide) (by omega), Nat.mod_eq_of_lt (show 203 + 17 * j < 4294967296 by omega)]
theorem th_loopV {D : Nat} {n c d p : Nat} {T : Nat → Nat} {E V : Nat → Nat → Nat} {f : Vw} (h : RS n T E V c d p f) {x s z : Nat} (hs : f 452 18 = s) (hz : f 452 19 = z) (hz6 : z ≤ 6) (hs9 : s ≤ 900) (hw : ∀ k, k < z → 97 ≤ T (s + k) ∧ T (s + k) ≤ 122) (hX : x = pkr (nmr T s z)) : ∀ (m j F : Nat), j + m = d → 5 * m + 5 ≤ F → vFn (vM MT0 (D + 2)) nb_X11_thingHere F 1 0 [vR 452, vI 1, vI j] [] f = some ((0, 0), vI (fidx (fun j => V j 0) x m j), f) := by
  have hc9 := h.d9
  intro m
  induction m with
  | zero =>
    intro j F hj hF
    obtain ⟨F1, rfl⟩ : ∃ F1, F = F1 + 4 := ⟨F - 4, by omega⟩
    (first | (refine (vgt (x := 1) (y := 0) (by decide) (by decide)).trans ?_) | (refine (vF_g rfl rfl).trans ?_; refine (vF_g rfl rfl).trans ?_; refine (vgt (x := 1) (y := 0) (by decide) (by decide)).trans ?_) | (refine (vF_g rfl rfl).trans ?_; refine (vgt (x := 1) (y := 0) (by decide) (by decide)).trans ?_))
    (first | (refine (vge2 (x := j) (y := f 453 1) (by omega) (by rw [h.d0]; omega)).trans ?_) | (refine (vF_g rfl rfl).trans ?_; refine (vF_g rfl rfl).trans ?_; refine (vge2 (x := j) (y := f 453 1) (by omega) (by rw [h.d0]; omega)).trans ?_) | (refine (vF_g rfl rfl).trans ?_; refine (vge2 (x := j) (y := f 453 1) (by omega) (by rw [h.d0]; omega)).trans ?_))
    (first | (exact rfl) | (refine (vF_g rfl rfl).trans ?_; refine (vF_g rfl rfl).trans ?_; exact rfl) | (refine (vF_g rfl rfl).trans ?_; refine (vF_g rfl rfl).trans ?_; refine (vF_g rfl rfl).trans ?_; exact rfl) | (refine (vF_g rfl rfl).trans ?_; exact rfl))
  | succ m ih =>
    intro j F hj hF
    obtain ⟨F1, rfl⟩ : ∃ F1, F = F1 + 5 := ⟨F - 5, by omega⟩
    have e1 := v_placeV (D := D + 1) (j := j) (f := f) (by omega)
    have e2 := v_isNamed (D := D) (a := 203 + 17 * j) h.tx hs hz hz6 hs9 (by omega) (h.nV j (by omega)).1 hw
    (first | (refine (vgt (x := 1) (y := 0) (by decide) (by decide)).trans ?_) | (refine (vF_g rfl rfl).trans ?_; refine (vF_g rfl rfl).trans ?_; refine (vgt (x := 1) (y := 0) (by decide) (by decide)).trans ?_) | (refine (vF_g rfl rfl).trans ?_; refine (vgt (x := 1) (y := 0) (by decide) (by decide)).trans ?_))
    (first | (refine (vlt (x := j) (y := f 453 1) (by rw [h.d0]; omega) (by rw [h.d0]; omega)).trans ?_) | (refine (vF_g rfl rfl).trans ?_; refine (vF_g rfl rfl).trans ?_; refine (vlt (x := j) (y := f 453 1) (by rw [h.d0]; omega) (by rw [h.d0]; omega)).trans ?_) | (refine (vF_g rfl rfl).trans ?_; refine (vlt (x := j) (y := f 453 1) (by rw [h.d0]; omega) (by rw [h.d0]; omega)).trans ?_))
    (first | (refine (vbnd_0 e1).trans ?_) | (refine (vF_g rfl rfl).trans ?_; refine (vF_g rfl rfl).trans ?_; refine (vbnd_0 e1).trans ?_) | (refine (vF_g rfl rfl).trans ?_; refine (vbnd_0 e1).trans ?_))
    (first | (refine (vbnd_0 e2).trans ?_) | (refine (vF_g rfl rfl).trans ?_; refine (vF_g rfl rfl).trans ?_; refine (vbnd_0 e2).trans ?_) | (refine (vF_g rfl rfl).trans ?_; refine (vbnd_0 e2).trans ?_))
    rw [← hX, show fidx (fun j => V j 0) x (m + 1) j = if V j 0 = x then j else fidx (fun j => V j 0) x m (j + 1) from rfl]
    by_cases q : V j 0 = x
    · rw [if_pos q, if_pos q]
      (first | (refine (vgt (x := 1) (y := 0) (by decide) (by decide)).trans ?_) | (refine (vF_g rfl rfl).trans ?_; refine (vF_g rfl rfl).trans ?_; refine (vgt (x := 1) (y := 0) (by decide) (by decide)).trans ?_) | (refine (vF_g rfl rfl).trans ?_; refine (vgt (x := 1) (y := 0) (by decide) (by decide)).trans ?_))
      (first | (exact rfl) | (refine (vF_g rfl rfl).trans ?_; refine (vF_g rfl rfl).trans ?_; exact rfl) | (refine (vF_g rfl rfl).trans ?_; refine (vF_g rfl rfl).trans ?_; refine (vF_g rfl rfl).trans ?_; exact rfl) | (refine (vF_g rfl rfl).trans ?_; exact rfl))
    · rw [if_neg q, if_neg q]
      (first | (refine (veq (x := 0) (y := 0) rfl).trans ?_) | (refine (vF_g rfl rfl).trans ?_; refine (vF_g rfl rfl).trans ?_; refine (veq (x := 0) (y := 0) rfl).trans ?_) | (refine (vF_g rfl rfl).trans ?_; refine (veq (x := 0) (y := 0) rfl).trans ?_))
      (first | (refine Eq.trans (b := vFn (vM MT0 (D + 2)) nb_X11_thingHere F1 1 0 [vR 452, vI 1, vI ((j + 1) % 4294967296)] [] f) rfl ?_) | (refine (vF_g rfl rfl).trans ?_; refine (vF_g rfl rfl).trans ?_; refine Eq.trans (b := vFn (vM MT0 (D + 2)) nb_X11_thingHere F1 1 0 [vR 452, vI 1, vI ((j + 1) % 4294967296)] [] f) rfl ?_) | (refine (vF_g rfl rfl).trans ?_; refine Eq.trans (b := vFn (vM MT0 (D + 2)) nb_X11_thingHere F1 1 0 [vR 452, vI 1, vI ((j + 1) % 4294967296)] [] f) rfl ?_))
      rw [Nat.mod_eq_of_lt (show j + 1 < 4294967296 by omega)]
      exact ih (j + 1) F1 (by omega) (by omega)
theorem v_thingV {D : Nat} {n c d p : Nat} {T : Nat → Nat} {E V : Nat → Nat → Nat} {f : Vw} (h : RS n T E V c d p f) (hk : nOK T p) : vM MT0 (D + 3) 240 [vR 452, vI 1] (rkv f T p) = some ((0, 0), vI (fidx (fun j => V j 0) (pkr (tN T p)) d 0), rkv f T p) := by
  have hz := (nOK_z.mp hk)
  have hn := h.tx.1
  have hs := tS_le h.tx.2.2.2.2 h.le
  have he := tZ_E hk.1
  have eN : pkr (tN T p) = pkr (nmr T (tS T p) (tZ T p)) := by
    unfold tN
    rw [show tE T p - tS T p = tZ T p by omega]
  exact vM_go rfl rfl rfl rfl fun F hF => (by (first | (refine Eq.trans (b := vFn (vM MT0 (D + 2)) nb_X11_thingHere (F + 59) 1 0 [vR 452, vI 1, vI 0] [] (rkv f T p)) rfl ?_) | (refine (vF_g rfl rfl).trans ?_; refine (vF_g rfl rfl).trans ?_; refine Eq.trans (b := vFn (vM MT0 (D + 2)) nb_X11_thingHere (F + 59) 1 0 [vR 452, vI 1, vI 0] [] (rkv f T p)) rfl ?_) | (refine (vF_g rfl rfl).trans ?_; refine Eq.trans (b := vFn (vM MT0 (D + 2)) nb_X11_thingHere (F + 59) 1 0 [vR 452, vI 1, vI 0] [] (rkv f T p)) rfl ?_)); (first | (exact (th_loopV (D := D) (rs_rkv h) rkv_18 rkv_19 hz.2 (by omega) (fun j hj => word_l hk.1 j (by omega)) eN d 0 (F + 59) (by omega) (by have := h.d9; omega))) | (refine (vF_g rfl rfl).trans ?_; refine (vF_g rfl rfl).trans ?_; exact (th_loopV (D := D) (rs_rkv h) rkv_18 rkv_19 hz.2 (by omega) (fun j hj => word_l hk.1 j (by omega)) eN d 0 (F + 59) (by omega) (by have := h.d9; omega))) | (refine (vF_g rfl rfl).trans ?_; exact (th_loopV (D := D) (rs_rkv h) rkv_18 rkv_19 hz.2 (by omega) (fun j hj => word_l hk.1 j (by omega)) eN d 0 (F + 59) (by omega) (by have := h.d9; omega)))))
theorem v_mustV {D : Nat} {n c d p : Nat} {T : Nat → Nat} {E V : Nat → Nat → Nat} {f : Vw} (h : RS n T E V c d p f) : (¬ nOK T p → ∃ g, vM MT0 (D + 4) 241 [vR 452, vI 1] f = some ((0, 0), vI 0, g) ∧ ERR 1 (tS T p) g) ∧ (nOK T p → fidx (fun j => V j 0) (pkr (tN T p)) d 0 = 4294967295 → ∃ g, vM MT0 (D + 4) 241 [vR 452, vI 1] f = some ((0, 0), vI 0, g) ∧ ERR 3 (tS T p) g) ∧ (nOK T p → fidx (fun j => V j 0) (pkr (tN T p)) d 0 ≠ 4294967295 → ∃ g, vM MT0 (D + 4) 241 [vR 452, vI 1] f = some ((0, 0), vI (fidx (fun j => V j 0) (pkr (tN T p)) d 0), g) ∧ RS n T E V c d (tE T p) g ∧ ∀ a b, a ≠ 452 → g a b = f a b) := by
  obtain ⟨w1, w2⟩ := v_isNameR (D := D) h
  have hr := rs_rkv h
  have e20 : rkv f T p 452 20 = 0 := hr.er.1
  have hn := h.tx.1
  have hE := tE_ge h.tx.2.2.2.2 h.le
  have hl : fidx (fun j => V j 0) (pkr (tN T p)) d 0 < 4294967296 := by
    have := h.d9
    rcases fidx_lt (g := fun j => V j 0) (x := pkr (tN T p)) d 0 with q | ⟨_, q, _⟩ <;> omega
  refine ⟨fun k => ?_, fun k k2 => ?_, fun k k2 => ?_⟩
  · obtain ⟨g, e, hg⟩ := w2 k
    exact ⟨g, vM_go rfl rfl rfl rfl fun F hF => (by (first | (refine (vbnd_0 e).trans ?_) | (refine (vF_g rfl rfl).trans ?_; refine (vF_g rfl rfl).trans ?_; refine (vbnd_0 e).trans ?_) | (refine (vF_g rfl rfl).trans ?_; refine (vbnd_0 e).trans ?_)); (first | (refine (veq (x := 0) (y := 0) rfl).trans ?_) | (refine (vF_g rfl rfl).trans ?_; refine (vF_g rfl rfl).trans ?_; refine (veq (x := 0) (y := 0) rfl).trans ?_) | (refine (vF_g rfl rfl).trans ?_; refine (veq (x := 0) (y := 0) rfl).trans ?_)); (first | (exact rfl) | (refine (vF_g rfl rfl).trans ?_; refine (vF_g rfl rfl).trans ?_; exact rfl) | (refine (vF_g rfl rfl).trans ?_; refine (vF_g rfl rfl).trans ?_; refine (vF_g rfl rfl).trans ?_; exact rfl) | (refine (vF_g rfl rfl).trans ?_; exact rfl))), hg⟩
  · have e := v_thingV (D := D) h k
    have m : vM MT0 (D + 3) 230 [vR 452, vI 0, vI 3] (rkv f T p) = some ((1, 0), vW 3, flR 3 (rkv f T p)) := by
      rw [v_must (Or.inl rfl) (by rw [e20]; decide), if_pos ⟨rfl, e20⟩]
    refine ⟨vup (flR 3 (rkv f T p)) 452 17 ((flR 3 (rkv f T p) 452 18 + flR 3 (rkv f T p) 452 19) % 4294967296), vM_go rfl rfl rfl rfl fun F hF => (by (first | (refine (vbnd_0 (w1 k)).trans ?_) | (refine (vF_g rfl rfl).trans ?_; refine (vF_g rfl rfl).trans ?_; refine (vbnd_0 (w1 k)).trans ?_) | (refine (vF_g rfl rfl).trans ?_; refine (vbnd_0 (w1 k)).trans ?_)); (first | (refine (vgt (x := 1) (y := 0) (by decide) (by decide)).trans ?_) | (refine (vF_g rfl rfl).trans ?_; refine (vF_g rfl rfl).trans ?_; refine (vgt (x := 1) (y := 0) (by decide) (by decide)).trans ?_) | (refine (vF_g rfl rfl).trans ?_; refine (vgt (x := 1) (y := 0) (by decide) (by decide)).trans ?_)); (first | (refine (vbnd_0 e).trans ?_) | (refine (vF_g rfl rfl).trans ?_; refine (vF_g rfl rfl).trans ?_; refine (vbnd_0 e).trans ?_) | (refine (vF_g rfl rfl).trans ?_; refine (vbnd_0 e).trans ?_)); (first | (refine (veq k2).trans ?_) | (refine (vF_g rfl rfl).trans ?_; refine (vF_g rfl rfl).trans ?_; refine (veq k2).trans ?_) | (refine (vF_g rfl rfl).trans ?_; refine (veq k2).trans ?_)); (first | (refine (vbnd_1 m).trans ?_) | (refine (vF_g rfl rfl).trans ?_; refine (vF_g rfl rfl).trans ?_; refine (vbnd_1 m).trans ?_) | (refine (vF_g rfl rfl).trans ?_; refine (vbnd_1 m).trans ?_)); (first | (refine (vbnd_1 v_goesPast).trans ?_) | (refine (vF_g rfl rfl).trans ?_; refine (vF_g rfl rfl).trans ?_; refine (vbnd_1 v_goesPast).trans ?_) | (refine (vF_g rfl rfl).trans ?_; refine (vbnd_1 v_goesPast).trans ?_)); (first | (refine (vne (x := vup (flR 3 (rkv f T p)) 452 17 ((flR 3 (rkv f T p) 452 18 + flR 3 (rkv f T p) 452 19) % 4294967296) 452 20) (y := 0) (by rw [vup_ne (Or.inr (by decide)), flR_20]; decide) (by decide) (by rw [vup_ne (Or.inr (by decide)), flR_20]; decide)).trans ?_) | (refine (vF_g rfl rfl).trans ?_; refine (vF_g rfl rfl).trans ?_; refine (vne (x := vup (flR 3 (rkv f T p)) 452 17 ((flR 3 (rkv f T p) 452 18 + flR 3 (rkv f T p) 452 19) % 4294967296) 452 20) (y := 0) (by rw [vup_ne (Or.inr (by decide)), flR_20]; decide) (by decide) (by rw [vup_ne (Or.inr (by decide)), flR_20]; decide)).trans ?_) | (refine (vF_g rfl rfl).trans ?_; refine (vne (x := vup (flR 3 (rkv f T p)) 452 17 ((flR 3 (rkv f T p) 452 18 + flR 3 (rkv f T p) 452 19) % 4294967296) 452 20) (y := 0) (by rw [vup_ne (Or.inr (by decide)), flR_20]; decide) (by decide) (by rw [vup_ne (Or.inr (by decide)), flR_20]; decide)).trans ?_)); (first | (exact rfl) | (refine (vF_g rfl rfl).trans ?_; refine (vF_g rfl rfl).trans ?_; exact rfl) | (refine (vF_g rfl rfl).trans ?_; refine (vF_g rfl rfl).trans ?_; refine (vF_g rfl rfl).trans ?_; exact rfl) | (refine (vF_g rfl rfl).trans ?_; exact rfl))), err_up (err_fl rkv_18 (by decide) (by decide)) (Or.inr (by decide))⟩
  · have e := v_thingV (D := D) h k
    have m : vM MT0 (D + 3) 230 [vR 452, vI 1, vI 3] (rkv f T p) = some ((1, 0), vW 3, rkv f T p) := by
      rw [v_must (Or.inr rfl) (by rw [e20]; decide), if_neg (fun w => by cases w.1)]
    have hz := tZ_E k.1
    have z : vM MT0 (D + 3) 232 [vR 452] (rkv f T p) = some ((1, 0), vW 3, vup (rkv f T p) 452 17 (tE T p)) := by
      rw [v_goesPast, rkv_18, rkv_19, hz, Nat.mod_eq_of_lt (by omega)]
    exact ⟨_, vM_go rfl rfl rfl rfl fun F hF => (by (first | (refine (vbnd_0 (w1 k)).trans ?_) | (refine (vF_g rfl rfl).trans ?_; refine (vF_g rfl rfl).trans ?_; refine (vbnd_0 (w1 k)).trans ?_) | (refine (vF_g rfl rfl).trans ?_; refine (vbnd_0 (w1 k)).trans ?_)); (first | (refine (vgt (x := 1) (y := 0) (by decide) (by decide)).trans ?_) | (refine (vF_g rfl rfl).trans ?_; refine (vF_g rfl rfl).trans ?_; refine (vgt (x := 1) (y := 0) (by decide) (by decide)).trans ?_) | (refine (vF_g rfl rfl).trans ?_; refine (vgt (x := 1) (y := 0) (by decide) (by decide)).trans ?_)); (first | (refine (vbnd_0 e).trans ?_) | (refine (vF_g rfl rfl).trans ?_; refine (vF_g rfl rfl).trans ?_; refine (vbnd_0 e).trans ?_) | (refine (vF_g rfl rfl).trans ?_; refine (vbnd_0 e).trans ?_)); (first | (refine (vne hl (by decide) k2).trans ?_) | (refine (vF_g rfl rfl).trans ?_; refine (vF_g rfl rfl).trans ?_; refine (vne hl (by decide) k2).trans ?_) | (refine (vF_g rfl rfl).trans ?_; refine (vne hl (by decide) k2).trans ?_)); (first | (refine (vbnd_1 m).trans ?_) | (refine (vF_g rfl rfl).trans ?_; refine (vF_g rfl rfl).trans ?_; refine (vbnd_1 m).trans ?_) | (refine (vF_g rfl rfl).trans ?_; refine (vbnd_1 m).trans ?_)); (first | (refine (vbnd_1 z).trans ?_) | (refine (vF_g rfl rfl).trans ?_; refine (vF_g rfl rfl).trans ?_; refine (vbnd_1 z).trans ?_) | (refine (vF_g rfl rfl).trans ?_; refine (vbnd_1 z).trans ?_)); (first | (refine (veq ((vup_ne (Or.inr (by decide))).trans e20)).trans ?_) | (refine (vF_g rfl rfl).trans ?_; refine (vF_g rfl rfl).trans ?_; refine (veq ((vup_ne (Or.inr (by decide))).trans e20)).trans ?_) | (refine (vF_g rfl rfl).trans ?_; refine (veq ((vup_ne (Or.inr (by decide))).trans e20)).trans ?_)); (first | (exact rfl) | (refine (vF_g rfl rfl).trans ?_; refine (vF_g rfl rfl).trans ?_; exact rfl) | (refine (vF_g rfl rfl).trans ?_; refine (vF_g rfl rfl).trans ?_; refine (vF_g rfl rfl).trans ?_; exact rfl) | (refine (vF_g rfl rfl).trans ?_; exact rfl))), rs_past hr hE.2, fun a b w => (vup_ne (Or.inl w)).trans (rkv_o (Or.inl w))⟩
/-! a new name written -/
theorem nn_loop {D n a b s z : Nat} {T : Nat → Nat} (hz6 : z ≤ 6) (hs9 : s ≤ 900) (ha : a ≤ 400) : ∀ (m k F : Nat) (f : Vw), k + m = z → 2 * m + 3 ≤ F → TxR f n T → f 452 18 = s → f 452 19 = z → ∃ g, vFn (vM MT0 (D + 1)) nb_X11_newName F 8 0 [vR 452, vI a, vI b, vI k] [] f = some ((1, 0), vW 3, vup g 452 17 ((s + z) % 4294967296)) ∧ (∀ i, k ≤ i → i < z → g 453 (a + 1 + i) = T (s + i)) ∧ ∀ x y, ¬ (x = 453 ∧ a + 1 + k ≤ y ∧ y < a + 1 + z) → g x y = f x y := by
  intro m
  induction m with
  | zero =>
    intro k F f hk hF hx hs hz
    obtain ⟨F1, rfl⟩ : ∃ F1, F = F1 + 2 := ⟨F - 2, by omega⟩
    refine ⟨f, ?_, fun i _ _ => by omega, fun _ _ _ => rfl⟩
    (first | (refine (vge2 (x := k) (y := f 452 19) (by omega) (by rw [hz]; omega)).trans ?_) | (refine (vF_g rfl rfl).trans ?_; refine (vF_g rfl rfl).trans ?_; refine (vge2 (x := k) (y := f 452 19) (by omega) (by rw [hz]; omega)).trans ?_) | (refine (vF_g rfl rfl).trans ?_; refine (vge2 (x := k) (y := f 452 19) (by omega) (by rw [hz]; omega)).trans ?_))
    (first | (refine (vbnd_1 v_goesPast).trans ?_) | (refine (vF_g rfl rfl).trans ?_; refine (vF_g rfl rfl).trans ?_; refine (vbnd_1 v_goesPast).trans ?_) | (refine (vF_g rfl rfl).trans ?_; refine (vbnd_1 v_goesPast).trans ?_))
    rw [hs, hz]
    (first | (exact rfl) | (refine (vF_g rfl rfl).trans ?_; refine (vF_g rfl rfl).trans ?_; exact rfl) | (refine (vF_g rfl rfl).trans ?_; refine (vF_g rfl rfl).trans ?_; refine (vF_g rfl rfl).trans ?_; exact rfl) | (refine (vF_g rfl rfl).trans ?_; exact rfl))
  | succ m ih =>
    intro k F f hk hF hx hs hz
    obtain ⟨F1, rfl⟩ : ∃ F1, F = F1 + 2 := ⟨F - 2, by omega⟩
    have hq : (f 452 18 + k) % 4294967296 = s + k := by rw [hs, Nat.mod_eq_of_lt (by omega)]
    have ha1 : ((a + 1) % 4294967296 + k) % 4294967296 = a + 1 + k := by omega
    have b1 : vM MT0 (D + 1) 228 [vR 452, vI (s + k)] f = some ((0, 0), vI (T (s + k)), f) := by
      rw [v_byteR (by omega) (by rw [hx.2.1]; exact hx.1), hx.2.2.1]
    have hx2 : TxR (vup f 453 (a + 1 + k) (T (s + k))) n T := txR_of hx (vup_ne (Or.inl (by decide))) (fun _ => vup_ne (Or.inl (by decide)))
    obtain ⟨g, e, h1, h2⟩ := ih (k + 1) F1 (vup f 453 (a + 1 + k) (T (s + k))) (by omega) (by omega) hx2 ((vup_ne (Or.inl (by decide))).trans hs) ((vup_ne (Or.inl (by decide))).trans hz)
    refine ⟨g, ?_, fun i hi hi2 => ?_, fun x y w => ?_⟩
    · (first | (refine (vlt (x := k) (y := f 452 19) (by rw [hz]; omega) (by rw [hz]; omega)).trans ?_) | (refine (vF_g rfl rfl).trans ?_; refine (vF_g rfl rfl).trans ?_; refine (vlt (x := k) (y := f 452 19) (by rw [hz]; omega) (by rw [hz]; omega)).trans ?_) | (refine (vF_g rfl rfl).trans ?_; refine (vlt (x := k) (y := f 452 19) (by rw [hz]; omega) (by rw [hz]; omega)).trans ?_))
      (first | (refine Eq.trans (b := vbnd (vM MT0 (D + 1) 228 [vR 452, vI ((f 452 18 + k) % 4294967296)] f) (fun v g => vB (vM MT0 (D + 1)) (vFn (vM MT0 (D + 1)) nb_X11_newName F1) ((0, 8, 0, 0, 0, 0, 0), []) [(24, 0, 0, 0, 0, 0, 0), (8, 3, 1, 0, 0, 0, 0)] 0 [vR 452, vI a, vI b, vI k] (v :: [vI (((a + 1) % 4294967296 + k) % 4294967296), vR 453]) g) (fun g => vB (vM MT0 (D + 1)) (vFn (vM MT0 (D + 1)) nb_X11_newName F1) ((0, 8, 0, 0, 0, 0, 0), []) [(24, 0, 0, 0, 0, 0, 0), (8, 3, 1, 0, 0, 0, 0)] 0 [vR 452, vI a, vI b, vI k] [vI (((a + 1) % 4294967296 + k) % 4294967296), vR 453] g) (fun x g => gd false (some ((2, x), vW 3, g)))) rfl ?_) | (refine (vF_g rfl rfl).trans ?_; refine (vF_g rfl rfl).trans ?_; refine Eq.trans (b := vbnd (vM MT0 (D + 1) 228 [vR 452, vI ((f 452 18 + k) % 4294967296)] f) (fun v g => vB (vM MT0 (D + 1)) (vFn (vM MT0 (D + 1)) nb_X11_newName F1) ((0, 8, 0, 0, 0, 0, 0), []) [(24, 0, 0, 0, 0, 0, 0), (8, 3, 1, 0, 0, 0, 0)] 0 [vR 452, vI a, vI b, vI k] (v :: [vI (((a + 1) % 4294967296 + k) % 4294967296), vR 453]) g) (fun g => vB (vM MT0 (D + 1)) (vFn (vM MT0 (D + 1)) nb_X11_newName F1) ((0, 8, 0, 0, 0, 0, 0), []) [(24, 0, 0, 0, 0, 0, 0), (8, 3, 1, 0, 0, 0, 0)] 0 [vR 452, vI a, vI b, vI k] [vI (((a + 1) % 4294967296 + k) % 4294967296), vR 453] g) (fun x g => gd false (some ((2, x), vW 3, g)))) rfl ?_) | (refine (vF_g rfl rfl).trans ?_; refine Eq.trans (b := vbnd (vM MT0 (D + 1) 228 [vR 452, vI ((f 452 18 + k) % 4294967296)] f) (fun v g => vB (vM MT0 (D + 1)) (vFn (vM MT0 (D + 1)) nb_X11_newName F1) ((0, 8, 0, 0, 0, 0, 0), []) [(24, 0, 0, 0, 0, 0, 0), (8, 3, 1, 0, 0, 0, 0)] 0 [vR 452, vI a, vI b, vI k] (v :: [vI (((a + 1) % 4294967296 + k) % 4294967296), vR 453]) g) (fun g => vB (vM MT0 (D + 1)) (vFn (vM MT0 (D + 1)) nb_X11_newName F1) ((0, 8, 0, 0, 0, 0, 0), []) [(24, 0, 0, 0, 0, 0, 0), (8, 3, 1, 0, 0, 0, 0)] 0 [vR 452, vI a, vI b, vI k] [vI (((a + 1) % 4294967296 + k) % 4294967296), vR 453] g) (fun x g => gd false (some ((2, x), vW 3, g)))) rfl ?_))
      rw [hq, ha1]
      (first | (refine (vbnd_0 b1).trans ?_) | (refine (vF_g rfl rfl).trans ?_; refine (vF_g rfl rfl).trans ?_; refine (vbnd_0 b1).trans ?_) | (refine (vF_g rfl rfl).trans ?_; refine (vbnd_0 b1).trans ?_))
      (first | (refine Eq.trans (b := gd (Nat.ble (a + 1 + k + 1) 627) (vFn (vM MT0 (D + 1)) nb_X11_newName F1 8 0 [vR 452, vI a, vI b, vI ((k + 1) % 4294967296)] [] (vup f 453 (a + 1 + k) (T (s + k))))) rfl ?_) | (refine (vF_g rfl rfl).trans ?_; refine (vF_g rfl rfl).trans ?_; refine Eq.trans (b := gd (Nat.ble (a + 1 + k + 1) 627) (vFn (vM MT0 (D + 1)) nb_X11_newName F1 8 0 [vR 452, vI a, vI b, vI ((k + 1) % 4294967296)] [] (vup f 453 (a + 1 + k) (T (s + k))))) rfl ?_) | (refine (vF_g rfl rfl).trans ?_; refine Eq.trans (b := gd (Nat.ble (a + 1 + k + 1) 627) (vFn (vM MT0 (D + 1)) nb_X11_newName F1 8 0 [vR 452, vI a, vI b, vI ((k + 1) % 4294967296)] [] (vup f 453 (a + 1 + k) (T (s + k))))) rfl ?_))
      rw [Nat.ble_eq_true_of_le (show a + 1 + k + 1 ≤ 627 by omega), Nat.mod_eq_of_lt (show k + 1 < 4294967296 by omega)]
      exact e
    · by_cases r : i = k
      · subst r
        exact (h2 _ _ (by omega)).trans vup_eq
      · exact h1 i (by omega) hi2
    · exact (h2 x y (by omega)).trans (vup_ne (by omega))
theorem rs_puE {i x : Nat} {n c d p : Nat} {T : Nat → Nat} {E V : Nat → Nat → Nat} {f : Vw} (h : RS n T E V c d p f) (hi : 23 + 15 * c ≤ i) (hi2 : i < 23 + 15 * c + 15) (hj : c < 12) : RS n T E V c d p (vup f 453 i x) := by
  have h1 := h.c9
  have h2 := h.d9
  exact rs_of h (vup_ne (Or.inl (by decide))) (fun _ => vup_ne (Or.inl (by decide))) ((vup_ne (Or.inl (by decide))).trans h.at_) h.le (vup_ne (Or.inl (by decide))) (vup_ne (Or.inl (by decide))) (vup_ne (Or.inr (by omega))) (vup_ne (Or.inr (by omega))) (fun y hy hy2 => vup_ne (Or.inr (by omega))) (fun y hy hy2 => vup_ne (Or.inr (by omega)))
theorem v_newNameE {D : Nat} {n c d p : Nat} {T : Nat → Nat} {E V : Nat → Nat → Nat} {f : Vw} (h : RS n T E V c d p f) (hj : c < 12) : (¬ nOK T p → ∃ g, vM MT0 (D + 4) 242 [vR 452, vI (23 + 15 * c), vI 0] f = some ((1, 0), vW 3, g) ∧ ERR 1 (tS T p) g) ∧ (nOK T p → fidx (fun j => E j 0) (pkr (tN T p)) c 0 ≠ 4294967295 → ∃ g, vM MT0 (D + 4) 242 [vR 452, vI (23 + 15 * c), vI 0] f = some ((1, 0), vW 3, g) ∧ ERR 3 (tS T p) g) ∧ (nOK T p → fidx (fun j => E j 0) (pkr (tN T p)) c 0 = 4294967295 → ∃ g, vM MT0 (D + 4) 242 [vR 452, vI (23 + 15 * c), vI 0] f = some ((1, 0), vW 3, g) ∧ RS n T E V c d (tE T p) g ∧ nmRow g (23 + 15 * c) (pkr (tN T p))) := by
  obtain ⟨w1, w2⟩ := v_isNameR (D := D) h
  have hr := rs_rkv h
  have e20 : rkv f T p 452 20 = 0 := hr.er.1
  have hn := h.tx.1
  have hE := tE_ge h.tx.2.2.2.2 h.le
  have hS := tS_le h.tx.2.2.2.2 h.le
  have hl : fidx (fun j => E j 0) (pkr (tN T p)) c 0 < 4294967296 := by
    have := h.c9
    rcases fidx_lt (g := fun j => E j 0) (x := pkr (tN T p)) c 0 with q | ⟨_, q, _⟩ <;> omega
  refine ⟨fun k => ?_, fun k k2 => ?_, fun k k2 => ?_⟩
  · obtain ⟨g, e, hg⟩ := w2 k
    exact ⟨g, vM_go rfl rfl rfl rfl fun F hF => (by (first | (refine (vbnd_0 e).trans ?_) | (refine (vF_g rfl rfl).trans ?_; refine (vF_g rfl rfl).trans ?_; refine (vbnd_0 e).trans ?_) | (refine (vF_g rfl rfl).trans ?_; refine (vbnd_0 e).trans ?_)); (first | (refine (veq (x := 0) (y := 0) rfl).trans ?_) | (refine (vF_g rfl rfl).trans ?_; refine (vF_g rfl rfl).trans ?_; refine (veq (x := 0) (y := 0) rfl).trans ?_) | (refine (vF_g rfl rfl).trans ?_; refine (veq (x := 0) (y := 0) rfl).trans ?_)); (first | (exact rfl) | (refine (vF_g rfl rfl).trans ?_; refine (vF_g rfl rfl).trans ?_; exact rfl) | (refine (vF_g rfl rfl).trans ?_; refine (vF_g rfl rfl).trans ?_; refine (vF_g rfl rfl).trans ?_; exact rfl) | (refine (vF_g rfl rfl).trans ?_; exact rfl))), hg⟩
  · have e := v_thingE (D := D) h k
    have m : vM MT0 (D + 3) 230 [vR 452, vI 0, vI 3] (rkv f T p) = some ((1, 0), vW 3, flR 3 (rkv f T p)) := by
      rw [v_must (Or.inl rfl) (by rw [e20]; decide), if_pos ⟨rfl, e20⟩]
    exact ⟨_, vM_go rfl rfl rfl rfl fun F hF => (by (first | (refine (vbnd_0 (w1 k)).trans ?_) | (refine (vF_g rfl rfl).trans ?_; refine (vF_g rfl rfl).trans ?_; refine (vbnd_0 (w1 k)).trans ?_) | (refine (vF_g rfl rfl).trans ?_; refine (vbnd_0 (w1 k)).trans ?_)); (first | (refine (vgt (x := 1) (y := 0) (by decide) (by decide)).trans ?_) | (refine (vF_g rfl rfl).trans ?_; refine (vF_g rfl rfl).trans ?_; refine (vgt (x := 1) (y := 0) (by decide) (by decide)).trans ?_) | (refine (vF_g rfl rfl).trans ?_; refine (vgt (x := 1) (y := 0) (by decide) (by decide)).trans ?_)); (first | (refine (vbnd_0 e).trans ?_) | (refine (vF_g rfl rfl).trans ?_; refine (vF_g rfl rfl).trans ?_; refine (vbnd_0 e).trans ?_) | (refine (vF_g rfl rfl).trans ?_; refine (vbnd_0 e).trans ?_)); (first | (refine (vne hl (by decide) k2).trans ?_) | (refine (vF_g rfl rfl).trans ?_; refine (vF_g rfl rfl).trans ?_; refine (vne hl (by decide) k2).trans ?_) | (refine (vF_g rfl rfl).trans ?_; refine (vne hl (by decide) k2).trans ?_)); (first | (refine (vbnd_1 m).trans ?_) | (refine (vF_g rfl rfl).trans ?_; refine (vF_g rfl rfl).trans ?_; refine (vbnd_1 m).trans ?_) | (refine (vF_g rfl rfl).trans ?_; refine (vbnd_1 m).trans ?_)); (first | (refine (vne (x := flR 3 (rkv f T p) 452 20) (y := 0) (by rw [flR_20]; decide) (by decide) (by rw [flR_20]; decide)).trans ?_) | (refine (vF_g rfl rfl).trans ?_; refine (vF_g rfl rfl).trans ?_; refine (vne (x := flR 3 (rkv f T p) 452 20) (y := 0) (by rw [flR_20]; decide) (by decide) (by rw [flR_20]; decide)).trans ?_) | (refine (vF_g rfl rfl).trans ?_; refine (vne (x := flR 3 (rkv f T p) 452 20) (y := 0) (by rw [flR_20]; decide) (by decide) (by rw [flR_20]; decide)).trans ?_)); (first | (exact rfl) | (refine (vF_g rfl rfl).trans ?_; refine (vF_g rfl rfl).trans ?_; exact rfl) | (refine (vF_g rfl rfl).trans ?_; refine (vF_g rfl rfl).trans ?_; refine (vF_g rfl rfl).trans ?_; exact rfl) | (refine (vF_g rfl rfl).trans ?_; exact rfl))), err_fl rkv_18 (by decide) (by decide)⟩
  · have e := v_thingE (D := D) h k
    have m : vM MT0 (D + 3) 230 [vR 452, vI 1, vI 3] (rkv f T p) = some ((1, 0), vW 3, rkv f T p) := by
      rw [v_must (Or.inr rfl) (by rw [e20]; decide), if_neg (fun w => by cases w.1)]
    have hz := tZ_E k.1
    have hz6 := nOK_z.mp k
    obtain ⟨F, hF, go⟩ := vM_at (D := D + 3) (y := 242) (as := [vR 452, vI (23 + 15 * c), vI 0]) (f := f) rfl rfl rfl rfl
    have st : ∀ r, vFn (vM MT0 (D + 3)) nb_X11_newName (F + 55) 8 0 [vR 452, vI (23 + 15 * c), vI 0, vI 0] [] (vup (rkv f T p) 453 (23 + 15 * c) (tZ T p)) = r → vM MT0 (D + 4) 242 [vR 452, vI (23 + 15 * c), vI 0] f = r := by
      intro r hr
      refine go r ?_
      (first | (refine (vbnd_0 (w1 k)).trans ?_) | (refine (vF_g rfl rfl).trans ?_; refine (vF_g rfl rfl).trans ?_; refine (vbnd_0 (w1 k)).trans ?_) | (refine (vF_g rfl rfl).trans ?_; refine (vbnd_0 (w1 k)).trans ?_))
      (first | (refine (vgt (x := 1) (y := 0) (by decide) (by decide)).trans ?_) | (refine (vF_g rfl rfl).trans ?_; refine (vF_g rfl rfl).trans ?_; refine (vgt (x := 1) (y := 0) (by decide) (by decide)).trans ?_) | (refine (vF_g rfl rfl).trans ?_; refine (vgt (x := 1) (y := 0) (by decide) (by decide)).trans ?_))
      (first | (refine (vbnd_0 e).trans ?_) | (refine (vF_g rfl rfl).trans ?_; refine (vF_g rfl rfl).trans ?_; refine (vbnd_0 e).trans ?_) | (refine (vF_g rfl rfl).trans ?_; refine (vbnd_0 e).trans ?_))
      (first | (refine (veq k2).trans ?_) | (refine (vF_g rfl rfl).trans ?_; refine (vF_g rfl rfl).trans ?_; refine (veq k2).trans ?_) | (refine (vF_g rfl rfl).trans ?_; refine (veq k2).trans ?_))
      (first | (refine (vbnd_1 m).trans ?_) | (refine (vF_g rfl rfl).trans ?_; refine (vF_g rfl rfl).trans ?_; refine (vbnd_1 m).trans ?_) | (refine (vF_g rfl rfl).trans ?_; refine (vbnd_1 m).trans ?_))
      (first | (refine (veq e20).trans ?_) | (refine (vF_g rfl rfl).trans ?_; refine (vF_g rfl rfl).trans ?_; refine (veq e20).trans ?_) | (refine (vF_g rfl rfl).trans ?_; refine (veq e20).trans ?_))
      (first | (refine Eq.trans (b := gd (Nat.ble (23 + 15 * c + 1) 627) (vFn (vM MT0 (D + 3)) nb_X11_newName (F + 55) 8 0 [vR 452, vI (23 + 15 * c), vI 0, vI 0] [] (vup (rkv f T p) 453 (23 + 15 * c) (rkv f T p 452 19)))) rfl ?_) | (refine (vF_g rfl rfl).trans ?_; refine (vF_g rfl rfl).trans ?_; refine Eq.trans (b := gd (Nat.ble (23 + 15 * c + 1) 627) (vFn (vM MT0 (D + 3)) nb_X11_newName (F + 55) 8 0 [vR 452, vI (23 + 15 * c), vI 0, vI 0] [] (vup (rkv f T p) 453 (23 + 15 * c) (rkv f T p 452 19)))) rfl ?_) | (refine (vF_g rfl rfl).trans ?_; refine Eq.trans (b := gd (Nat.ble (23 + 15 * c + 1) 627) (vFn (vM MT0 (D + 3)) nb_X11_newName (F + 55) 8 0 [vR 452, vI (23 + 15 * c), vI 0, vI 0] [] (vup (rkv f T p) 453 (23 + 15 * c) (rkv f T p 452 19)))) rfl ?_))
      rw [rkv_19, Nat.ble_eq_true_of_le (show 23 + 15 * c + 1 ≤ 627 by omega)]
      exact hr
    have hr2 : RS n T E V c d (tS T p) (vup (rkv f T p) 453 (23 + 15 * c) (tZ T p)) := rs_puE hr (by omega) (by omega) hj
    obtain ⟨g, e3, g1, g2⟩ := nn_loop (D := D + 2) (a := 23 + 15 * c) (b := 0) (s := tS T p) (z := tZ T p) (T := T) (n := n) hz6.2 (by omega) (by omega) (tZ T p) 0 (F + 55) (vup (rkv f T p) 453 (23 + 15 * c) (tZ T p)) (by omega) (by omega) hr2.tx ((vup_ne (Or.inl (by decide))).trans rkv_18) ((vup_ne (Or.inl (by decide))).trans rkv_19)
    rw [hz, Nat.mod_eq_of_lt (show tE T p < 4294967296 by omega)] at e3
    have h1 := h.c9
    have h2 := h.d9
    have hg : RS n T E V c d (tS T p) g := rs_of hr2 (g2 _ _ (by omega)) (fun _ => g2 _ _ (by omega)) ((g2 _ _ (by omega)).trans hr2.at_) hS.2 (g2 _ _ (by omega)) (g2 _ _ (by omega)) (g2 _ _ (by omega)) (g2 _ _ (by omega)) (fun y hy hy2 => g2 _ _ (by omega)) (fun y hy hy2 => g2 _ _ (by omega))
    refine ⟨_, st _ e3, rs_past hg hE.2, tZ T p, fun i => T (tS T p + i), hz6.1, hz6.2, (vup_ne (Or.inl (by decide))).trans ((g2 _ _ (by omega)).trans vup_eq), fun i hi => ⟨(vup_ne (Or.inl (by decide))).trans (g1 i (Nat.zero_le _) hi), word_l k.1 i (by omega)⟩, ?_⟩
    unfold tN
    rw [show tE T p - tS T p = tZ T p by omega, (nmr_eq (U := fun i => T (tS T p + i)) (tZ T p)).mpr (fun i _ => rfl)]
theorem v_putsE {D j i x : Nat} {f : Vw} (hj : j < 12) (hi : i ≤ 14) : vM MT0 (D + 1) 182 [vR 452, vI j, vI i, vI x] f = some ((1, 0), vW 3, vup f 453 (23 + 15 * j + i) x) := by
  refine vM_go rfl rfl rfl rfl fun F hF => ?_
  (first | (refine Eq.trans (b := gd (Nat.ble (((23 + g_imul 15 j) % 4294967296 + i) % 4294967296 + 1) 627) (some ((1, 0), vW 3, vup f 453 (((23 + g_imul 15 j) % 4294967296 + i) % 4294967296) x))) rfl ?_) | (refine (vF_g rfl rfl).trans ?_; refine (vF_g rfl rfl).trans ?_; refine Eq.trans (b := gd (Nat.ble (((23 + g_imul 15 j) % 4294967296 + i) % 4294967296 + 1) 627) (some ((1, 0), vW 3, vup f 453 (((23 + g_imul 15 j) % 4294967296 + i) % 4294967296) x))) rfl ?_) | (refine (vF_g rfl rfl).trans ?_; refine Eq.trans (b := gd (Nat.ble (((23 + g_imul 15 j) % 4294967296 + i) % 4294967296 + 1) 627) (some ((1, 0), vW 3, vup f 453 (((23 + g_imul 15 j) % 4294967296 + i) % 4294967296) x))) rfl ?_))
  have e : ((23 + g_imul 15 j) % 4294967296 + i) % 4294967296 = 23 + 15 * j + i := by
    rw [g_imul_s (show 15 * j < 2147483648 by omega) (by decide) (by omega)]
    omega
  rw [e, Nat.ble_eq_true_of_le (show 23 + 15 * j + i + 1 ≤ 627 by omega)]
  (first | (exact rfl) | (refine (vF_g rfl rfl).trans ?_; refine (vF_g rfl rfl).trans ?_; exact rfl) | (refine (vF_g rfl rfl).trans ?_; refine (vF_g rfl rfl).trans ?_; refine (vF_g rfl rfl).trans ?_; exact rfl) | (refine (vF_g rfl rfl).trans ?_; exact rfl))
theorem rs_puV {i x : Nat} {n c d p : Nat} {T : Nat → Nat} {E V : Nat → Nat → Nat} {f : Vw} (h : RS n T E V c d p f) (hi : 203 + 17 * d ≤ i) (hi2 : i < 203 + 17 * d + 17) (hj : d < 8) : RS n T E V c d p (vup f 453 i x) := by
  have h1 := h.c9
  have h2 := h.d9
  exact rs_of h (vup_ne (Or.inl (by decide))) (fun _ => vup_ne (Or.inl (by decide))) ((vup_ne (Or.inl (by decide))).trans h.at_) h.le (vup_ne (Or.inl (by decide))) (vup_ne (Or.inl (by decide))) (vup_ne (Or.inr (by omega))) (vup_ne (Or.inr (by omega))) (fun y hy hy2 => vup_ne (Or.inr (by omega))) (fun y hy hy2 => vup_ne (Or.inr (by omega)))
theorem v_newNameV {D : Nat} {n c d p : Nat} {T : Nat → Nat} {E V : Nat → Nat → Nat} {f : Vw} (h : RS n T E V c d p f) (hj : d < 8) : (¬ nOK T p → ∃ g, vM MT0 (D + 4) 242 [vR 452, vI (203 + 17 * d), vI 1] f = some ((1, 0), vW 3, g) ∧ ERR 1 (tS T p) g) ∧ (nOK T p → fidx (fun j => V j 0) (pkr (tN T p)) d 0 ≠ 4294967295 → ∃ g, vM MT0 (D + 4) 242 [vR 452, vI (203 + 17 * d), vI 1] f = some ((1, 0), vW 3, g) ∧ ERR 3 (tS T p) g) ∧ (nOK T p → fidx (fun j => V j 0) (pkr (tN T p)) d 0 = 4294967295 → ∃ g, vM MT0 (D + 4) 242 [vR 452, vI (203 + 17 * d), vI 1] f = some ((1, 0), vW 3, g) ∧ RS n T E V c d (tE T p) g ∧ nmRow g (203 + 17 * d) (pkr (tN T p))) := by
  obtain ⟨w1, w2⟩ := v_isNameR (D := D) h
  have hr := rs_rkv h
  have e20 : rkv f T p 452 20 = 0 := hr.er.1
  have hn := h.tx.1
  have hE := tE_ge h.tx.2.2.2.2 h.le
  have hS := tS_le h.tx.2.2.2.2 h.le
  have hl : fidx (fun j => V j 0) (pkr (tN T p)) d 0 < 4294967296 := by
    have := h.d9
    rcases fidx_lt (g := fun j => V j 0) (x := pkr (tN T p)) d 0 with q | ⟨_, q, _⟩ <;> omega
  refine ⟨fun k => ?_, fun k k2 => ?_, fun k k2 => ?_⟩
  · obtain ⟨g, e, hg⟩ := w2 k
    exact ⟨g, vM_go rfl rfl rfl rfl fun F hF => (by (first | (refine (vbnd_0 e).trans ?_) | (refine (vF_g rfl rfl).trans ?_; refine (vF_g rfl rfl).trans ?_; refine (vbnd_0 e).trans ?_) | (refine (vF_g rfl rfl).trans ?_; refine (vbnd_0 e).trans ?_)); (first | (refine (veq (x := 0) (y := 0) rfl).trans ?_) | (refine (vF_g rfl rfl).trans ?_; refine (vF_g rfl rfl).trans ?_; refine (veq (x := 0) (y := 0) rfl).trans ?_) | (refine (vF_g rfl rfl).trans ?_; refine (veq (x := 0) (y := 0) rfl).trans ?_)); (first | (exact rfl) | (refine (vF_g rfl rfl).trans ?_; refine (vF_g rfl rfl).trans ?_; exact rfl) | (refine (vF_g rfl rfl).trans ?_; refine (vF_g rfl rfl).trans ?_; refine (vF_g rfl rfl).trans ?_; exact rfl) | (refine (vF_g rfl rfl).trans ?_; exact rfl))), hg⟩
  · have e := v_thingV (D := D) h k
    have m : vM MT0 (D + 3) 230 [vR 452, vI 0, vI 3] (rkv f T p) = some ((1, 0), vW 3, flR 3 (rkv f T p)) := by
      rw [v_must (Or.inl rfl) (by rw [e20]; decide), if_pos ⟨rfl, e20⟩]
    exact ⟨_, vM_go rfl rfl rfl rfl fun F hF => (by (first | (refine (vbnd_0 (w1 k)).trans ?_) | (refine (vF_g rfl rfl).trans ?_; refine (vF_g rfl rfl).trans ?_; refine (vbnd_0 (w1 k)).trans ?_) | (refine (vF_g rfl rfl).trans ?_; refine (vbnd_0 (w1 k)).trans ?_)); (first | (refine (vgt (x := 1) (y := 0) (by decide) (by decide)).trans ?_) | (refine (vF_g rfl rfl).trans ?_; refine (vF_g rfl rfl).trans ?_; refine (vgt (x := 1) (y := 0) (by decide) (by decide)).trans ?_) | (refine (vF_g rfl rfl).trans ?_; refine (vgt (x := 1) (y := 0) (by decide) (by decide)).trans ?_)); (first | (refine (vbnd_0 e).trans ?_) | (refine (vF_g rfl rfl).trans ?_; refine (vF_g rfl rfl).trans ?_; refine (vbnd_0 e).trans ?_) | (refine (vF_g rfl rfl).trans ?_; refine (vbnd_0 e).trans ?_)); (first | (refine (vne hl (by decide) k2).trans ?_) | (refine (vF_g rfl rfl).trans ?_; refine (vF_g rfl rfl).trans ?_; refine (vne hl (by decide) k2).trans ?_) | (refine (vF_g rfl rfl).trans ?_; refine (vne hl (by decide) k2).trans ?_)); (first | (refine (vbnd_1 m).trans ?_) | (refine (vF_g rfl rfl).trans ?_; refine (vF_g rfl rfl).trans ?_; refine (vbnd_1 m).trans ?_) | (refine (vF_g rfl rfl).trans ?_; refine (vbnd_1 m).trans ?_)); (first | (refine (vne (x := flR 3 (rkv f T p) 452 20) (y := 0) (by rw [flR_20]; decide) (by decide) (by rw [flR_20]; decide)).trans ?_) | (refine (vF_g rfl rfl).trans ?_; refine (vF_g rfl rfl).trans ?_; refine (vne (x := flR 3 (rkv f T p) 452 20) (y := 0) (by rw [flR_20]; decide) (by decide) (by rw [flR_20]; decide)).trans ?_) | (refine (vF_g rfl rfl).trans ?_; refine (vne (x := flR 3 (rkv f T p) 452 20) (y := 0) (by rw [flR_20]; decide) (by decide) (by rw [flR_20]; decide)).trans ?_)); (first | (exact rfl) | (refine (vF_g rfl rfl).trans ?_; refine (vF_g rfl rfl).trans ?_; exact rfl) | (refine (vF_g rfl rfl).trans ?_; refine (vF_g rfl rfl).trans ?_; refine (vF_g rfl rfl).trans ?_; exact rfl) | (refine (vF_g rfl rfl).trans ?_; exact rfl))), err_fl rkv_18 (by decide) (by decide)⟩
  · have e := v_thingV (D := D) h k
    have m : vM MT0 (D + 3) 230 [vR 452, vI 1, vI 3] (rkv f T p) = some ((1, 0), vW 3, rkv f T p) := by
      rw [v_must (Or.inr rfl) (by rw [e20]; decide), if_neg (fun w => by cases w.1)]
    have hz := tZ_E k.1
    have hz6 := nOK_z.mp k
    obtain ⟨F, hF, go⟩ := vM_at (D := D + 3) (y := 242) (as := [vR 452, vI (203 + 17 * d), vI 1]) (f := f) rfl rfl rfl rfl
    have st : ∀ r, vFn (vM MT0 (D + 3)) nb_X11_newName (F + 55) 8 0 [vR 452, vI (203 + 17 * d), vI 1, vI 0] [] (vup (rkv f T p) 453 (203 + 17 * d) (tZ T p)) = r → vM MT0 (D + 4) 242 [vR 452, vI (203 + 17 * d), vI 1] f = r := by
      intro r hr
      refine go r ?_
      (first | (refine (vbnd_0 (w1 k)).trans ?_) | (refine (vF_g rfl rfl).trans ?_; refine (vF_g rfl rfl).trans ?_; refine (vbnd_0 (w1 k)).trans ?_) | (refine (vF_g rfl rfl).trans ?_; refine (vbnd_0 (w1 k)).trans ?_))
      (first | (refine (vgt (x := 1) (y := 0) (by decide) (by decide)).trans ?_) | (refine (vF_g rfl rfl).trans ?_; refine (vF_g rfl rfl).trans ?_; refine (vgt (x := 1) (y := 0) (by decide) (by decide)).trans ?_) | (refine (vF_g rfl rfl).trans ?_; refine (vgt (x := 1) (y := 0) (by decide) (by decide)).trans ?_))
      (first | (refine (vbnd_0 e).trans ?_) | (refine (vF_g rfl rfl).trans ?_; refine (vF_g rfl rfl).trans ?_; refine (vbnd_0 e).trans ?_) | (refine (vF_g rfl rfl).trans ?_; refine (vbnd_0 e).trans ?_))
      (first | (refine (veq k2).trans ?_) | (refine (vF_g rfl rfl).trans ?_; refine (vF_g rfl rfl).trans ?_; refine (veq k2).trans ?_) | (refine (vF_g rfl rfl).trans ?_; refine (veq k2).trans ?_))
      (first | (refine (vbnd_1 m).trans ?_) | (refine (vF_g rfl rfl).trans ?_; refine (vF_g rfl rfl).trans ?_; refine (vbnd_1 m).trans ?_) | (refine (vF_g rfl rfl).trans ?_; refine (vbnd_1 m).trans ?_))
      (first | (refine (veq e20).trans ?_) | (refine (vF_g rfl rfl).trans ?_; refine (vF_g rfl rfl).trans ?_; refine (veq e20).trans ?_) | (refine (vF_g rfl rfl).trans ?_; refine (veq e20).trans ?_))
      (first | (refine Eq.trans (b := gd (Nat.ble (203 + 17 * d + 1) 627) (vFn (vM MT0 (D + 3)) nb_X11_newName (F + 55) 8 0 [vR 452, vI (203 + 17 * d), vI 1, vI 0] [] (vup (rkv f T p) 453 (203 + 17 * d) (rkv f T p 452 19)))) rfl ?_) | (refine (vF_g rfl rfl).trans ?_; refine (vF_g rfl rfl).trans ?_; refine Eq.trans (b := gd (Nat.ble (203 + 17 * d + 1) 627) (vFn (vM MT0 (D + 3)) nb_X11_newName (F + 55) 8 0 [vR 452, vI (203 + 17 * d), vI 1, vI 0] [] (vup (rkv f T p) 453 (203 + 17 * d) (rkv f T p 452 19)))) rfl ?_) | (refine (vF_g rfl rfl).trans ?_; refine Eq.trans (b := gd (Nat.ble (203 + 17 * d + 1) 627) (vFn (vM MT0 (D + 3)) nb_X11_newName (F + 55) 8 0 [vR 452, vI (203 + 17 * d), vI 1, vI 0] [] (vup (rkv f T p) 453 (203 + 17 * d) (rkv f T p 452 19)))) rfl ?_))
      rw [rkv_19, Nat.ble_eq_true_of_le (show 203 + 17 * d + 1 ≤ 627 by omega)]
      exact hr
    have hr2 : RS n T E V c d (tS T p) (vup (rkv f T p) 453 (203 + 17 * d) (tZ T p)) := rs_puV hr (by omega) (by omega) hj
    obtain ⟨g, e3, g1, g2⟩ := nn_loop (D := D + 2) (a := 203 + 17 * d) (b := 1) (s := tS T p) (z := tZ T p) (T := T) (n := n) hz6.2 (by omega) (by omega) (tZ T p) 0 (F + 55) (vup (rkv f T p) 453 (203 + 17 * d) (tZ T p)) (by omega) (by omega) hr2.tx ((vup_ne (Or.inl (by decide))).trans rkv_18) ((vup_ne (Or.inl (by decide))).trans rkv_19)
    rw [hz, Nat.mod_eq_of_lt (show tE T p < 4294967296 by omega)] at e3
    have h1 := h.c9
    have h2 := h.d9
    have hg : RS n T E V c d (tS T p) g := rs_of hr2 (g2 _ _ (by omega)) (fun _ => g2 _ _ (by omega)) ((g2 _ _ (by omega)).trans hr2.at_) hS.2 (g2 _ _ (by omega)) (g2 _ _ (by omega)) (g2 _ _ (by omega)) (g2 _ _ (by omega)) (fun y hy hy2 => g2 _ _ (by omega)) (fun y hy hy2 => g2 _ _ (by omega))
    refine ⟨_, st _ e3, rs_past hg hE.2, tZ T p, fun i => T (tS T p + i), hz6.1, hz6.2, (vup_ne (Or.inl (by decide))).trans ((g2 _ _ (by omega)).trans vup_eq), fun i hi => ⟨(vup_ne (Or.inl (by decide))).trans (g1 i (Nat.zero_le _) hi), word_l k.1 i (by omega)⟩, ?_⟩
    unfold tN
    rw [show tE T p - tS T p = tZ T p by omega, (nmr_eq (U := fun i => T (tS T p + i)) (tZ T p)).mpr (fun i _ => rfl)]
theorem v_putsV {D j i x : Nat} {f : Vw} (hj : j < 8) (hi : i ≤ 14) : vM MT0 (D + 1) 184 [vR 452, vI j, vI i, vI x] f = some ((1, 0), vW 3, vup f 453 (203 + 17 * j + i) x) := by
  refine vM_go rfl rfl rfl rfl fun F hF => ?_
  (first | (refine Eq.trans (b := gd (Nat.ble (((203 + g_imul 17 j) % 4294967296 + i) % 4294967296 + 1) 627) (some ((1, 0), vW 3, vup f 453 (((203 + g_imul 17 j) % 4294967296 + i) % 4294967296) x))) rfl ?_) | (refine (vF_g rfl rfl).trans ?_; refine (vF_g rfl rfl).trans ?_; refine Eq.trans (b := gd (Nat.ble (((203 + g_imul 17 j) % 4294967296 + i) % 4294967296 + 1) 627) (some ((1, 0), vW 3, vup f 453 (((203 + g_imul 17 j) % 4294967296 + i) % 4294967296) x))) rfl ?_) | (refine (vF_g rfl rfl).trans ?_; refine Eq.trans (b := gd (Nat.ble (((203 + g_imul 17 j) % 4294967296 + i) % 4294967296 + 1) 627) (some ((1, 0), vW 3, vup f 453 (((203 + g_imul 17 j) % 4294967296 + i) % 4294967296) x))) rfl ?_))
  have e : ((203 + g_imul 17 j) % 4294967296 + i) % 4294967296 = 203 + 17 * j + i := by
    rw [g_imul_s (show 17 * j < 2147483648 by omega) (by decide) (by omega)]
    omega
  rw [e, Nat.ble_eq_true_of_le (show 203 + 17 * j + i + 1 ≤ 627 by omega)]
  (first | (exact rfl) | (refine (vF_g rfl rfl).trans ?_; refine (vF_g rfl rfl).trans ?_; exact rfl) | (refine (vF_g rfl rfl).trans ?_; refine (vF_g rfl rfl).trans ?_; refine (vF_g rfl rfl).trans ?_; exact rfl) | (refine (vF_g rfl rfl).trans ?_; exact rfl))
theorem rs_addE {n c d p : Nat} {T : Nat → Nat} {E V : Nat → Nat → Nat} {f : Vw} {r : Nat → Nat} (h : RS n T E V c d p f) (hj : c < 12) (h0 : nmRow f (23 + 15 * c) (r 0)) (h1 : ∀ i, 1 ≤ i → i ≤ 4 → f 453 (29 + 15 * c + i) = r i) : RS n T (ad E c r) V (c + 1) d p (vup f 453 0 (c + 1)) := by
  have o : ∀ i, i ≠ 0 → vup f 453 0 (c + 1) 453 i = f 453 i := fun i hi => vup_ne (Or.inr hi)
  refine ⟨txR_of h.tx (vup_ne (Or.inl (by decide))) (fun _ => vup_ne (Or.inl (by decide))), (vup_ne (Or.inl (by decide))).trans h.at_, h.le, ⟨(vup_ne (Or.inl (by decide))).trans h.er.1, (vup_ne (Or.inl (by decide))).trans h.er.2⟩, vup_eq, by omega, (o 1 (by decide)).trans h.d0, h.d9, fun j hj2 => ?_, fun j hj2 => ⟨nmRow_of (h.nV j hj2).1 (fun k _ => o _ (by omega)), fun i hi hi2 => (o _ (by omega)).trans ((h.nV j hj2).2 i hi hi2)⟩⟩
  by_cases q : j = c
  · subst q
    rw [ad_e]
    exact ⟨nmRow_of h0 (fun k _ => o _ (by omega)), fun i hi hi2 => (o _ (by omega)).trans (h1 i hi hi2)⟩
  · rw [ad_n q]
    exact ⟨nmRow_of (h.nE j (by omega)).1 (fun k _ => o _ (by omega)), fun i hi hi2 => (o _ (by omega)).trans ((h.nE j (by omega)).2 i hi hi2)⟩
theorem rs_addV {n c d p : Nat} {T : Nat → Nat} {E V : Nat → Nat → Nat} {f : Vw} {r : Nat → Nat} (h : RS n T E V c d p f) (hj : d < 8) (h0 : nmRow f (203 + 17 * d) (r 0)) (h1 : ∀ i, 1 ≤ i → i ≤ 4 → f 453 (209 + 17 * d + i) = r i) : RS n T E (ad V d r) c (d + 1) p (vup f 453 1 (d + 1)) := by
  have o : ∀ i, i ≠ 1 → vup f 453 1 (d + 1) 453 i = f 453 i := fun i hi => vup_ne (Or.inr hi)
  refine ⟨txR_of h.tx (vup_ne (Or.inl (by decide))) (fun _ => vup_ne (Or.inl (by decide))), (vup_ne (Or.inl (by decide))).trans h.at_, h.le, ⟨(vup_ne (Or.inl (by decide))).trans h.er.1, (vup_ne (Or.inl (by decide))).trans h.er.2⟩, (o 0 (by decide)).trans h.c0, h.c9, vup_eq, by omega, fun j hj2 => ⟨nmRow_of (h.nE j hj2).1 (fun k _ => o _ (by omega)), fun i hi hi2 => (o _ (by omega)).trans ((h.nE j hj2).2 i hi hi2)⟩, fun j hj2 => ?_⟩
  by_cases q : j = d
  · subst q
    rw [ad_e]
    exact ⟨nmRow_of h0 (fun k _ => o _ (by omega)), fun i hi hi2 => (o _ (by omega)).trans (h1 i hi hi2)⟩
  · rw [ad_n q]
    exact ⟨nmRow_of (h.nV j (by omega)).1 (fun k _ => o _ (by omega)), fun i hi hi2 => (o _ (by omega)).trans ((h.nV j (by omega)).2 i hi hi2)⟩
