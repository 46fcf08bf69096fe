/-! the reference's load -/
theorem v_fogR {D n c d p : Nat} {T : Nat → Nat} {E V : Nat → Nat → Nat} {f : Vw} (h : RS n T E V c d p f) (hf : f 453 4 = 0) : ((oFog T p).1 = 0 → ∃ g, vM MT0 (D + 5) 247 [vR 452] f = some ((1, 0), vW 3, g) ∧ RS n T E V c d (oFog T p).2 g) ∧ ((oFog T p).1 ≠ 0 → ∃ g, vM MT0 (D + 5) 247 [vR 452] f = some ((1, 0), vW 3, g) ∧ ERR (oFog T p).1 (oFog T p).2 g) := by
  unfold oFog
  obtain ⟨w1, w2⟩ := v_keyword (D := D) (w := 27) h (by decide) (by decide) (by decide)
  by_cases k1 : wOKc T 27 p
  rotate_left
  · rw [oW_1 k1]
    obtain ⟨g, e, hg, fr⟩ := w2 k1
    have m1 : vM MT0 (D + 4) 230 [vR 452, vI 1, vI 4] g = some ((1, 0), vW 3, g) := by
      rw [v_must (Or.inr rfl) (by rw [hg.1]; exact hg.2.2.2), if_neg (fun w => by cases w.1)]
    have g4 : g 453 4 < 12 := by
      rw [fr _ _ (by decide), hf]
      decide
    exact ⟨fun w => absurd w n01, fun _ => ⟨g, vM_go rfl rfl rfl rfl fun F hF => (by (first | (refine (vbnd_1 e).trans ?_) | (refine (vF_g rfl rfl).trans ?_; refine (vF_g rfl rfl).trans ?_; refine (vbnd_1 e).trans ?_) | (refine (vF_g rfl rfl).trans ?_; refine (vbnd_1 e).trans ?_)); (first | (exact (fg_1 (F := F + 56) (Or.inl rfl) (e_number hg) (Or.inl ⟨rfl, g4⟩) m1 ((by (first | (refine (vne (x := g 452 20) (y := 0) (by rw [hg.1]; exact hg.2.2.2) (by decide) (by rw [hg.1]; exact hg.2.2.1)).trans ?_) | (refine (vF_g rfl rfl).trans ?_; refine (vF_g rfl rfl).trans ?_; refine (vne (x := g 452 20) (y := 0) (by rw [hg.1]; exact hg.2.2.2) (by decide) (by rw [hg.1]; exact hg.2.2.1)).trans ?_) | (refine (vF_g rfl rfl).trans ?_; refine (vne (x := g 452 20) (y := 0) (by rw [hg.1]; exact hg.2.2.2) (by decide) (by rw [hg.1]; exact hg.2.2.1)).trans ?_)); (first | (exact rfl) | (refine (vF_g rfl rfl).trans ?_; refine (vF_g rfl rfl).trans ?_; exact rfl) | (refine (vF_g rfl rfl).trans ?_; refine (vF_g rfl rfl).trans ?_; refine (vF_g rfl rfl).trans ?_; exact rfl) | (refine (vF_g rfl rfl).trans ?_; exact rfl)))))) | (refine (vF_g rfl rfl).trans ?_; refine (vF_g rfl rfl).trans ?_; exact (fg_1 (F := F + 56) (Or.inl rfl) (e_number hg) (Or.inl ⟨rfl, g4⟩) m1 ((by (first | (refine (vne (x := g 452 20) (y := 0) (by rw [hg.1]; exact hg.2.2.2) (by decide) (by rw [hg.1]; exact hg.2.2.1)).trans ?_) | (refine (vF_g rfl rfl).trans ?_; refine (vF_g rfl rfl).trans ?_; refine (vne (x := g 452 20) (y := 0) (by rw [hg.1]; exact hg.2.2.2) (by decide) (by rw [hg.1]; exact hg.2.2.1)).trans ?_) | (refine (vF_g rfl rfl).trans ?_; refine (vne (x := g 452 20) (y := 0) (by rw [hg.1]; exact hg.2.2.2) (by decide) (by rw [hg.1]; exact hg.2.2.1)).trans ?_)); (first | (exact rfl) | (refine (vF_g rfl rfl).trans ?_; refine (vF_g rfl rfl).trans ?_; exact rfl) | (refine (vF_g rfl rfl).trans ?_; refine (vF_g rfl rfl).trans ?_; refine (vF_g rfl rfl).trans ?_; exact rfl) | (refine (vF_g rfl rfl).trans ?_; exact rfl)))))) | (refine (vF_g rfl rfl).trans ?_; exact (fg_1 (F := F + 56) (Or.inl rfl) (e_number hg) (Or.inl ⟨rfl, g4⟩) m1 ((by (first | (refine (vne (x := g 452 20) (y := 0) (by rw [hg.1]; exact hg.2.2.2) (by decide) (by rw [hg.1]; exact hg.2.2.1)).trans ?_) | (refine (vF_g rfl rfl).trans ?_; refine (vF_g rfl rfl).trans ?_; refine (vne (x := g 452 20) (y := 0) (by rw [hg.1]; exact hg.2.2.2) (by decide) (by rw [hg.1]; exact hg.2.2.1)).trans ?_) | (refine (vF_g rfl rfl).trans ?_; refine (vne (x := g 452 20) (y := 0) (by rw [hg.1]; exact hg.2.2.2) (by decide) (by rw [hg.1]; exact hg.2.2.1)).trans ?_)); (first | (exact rfl) | (refine (vF_g rfl rfl).trans ?_; refine (vF_g rfl rfl).trans ?_; exact rfl) | (refine (vF_g rfl rfl).trans ?_; refine (vF_g rfl rfl).trans ?_; refine (vF_g rfl rfl).trans ?_; exact rfl) | (refine (vF_g rfl rfl).trans ?_; exact rfl)))))))), hg⟩⟩
  rw [oW_0 k1]
  obtain ⟨g, e, hg, fr⟩ := w1 k1
  obtain ⟨F, hF, go⟩ := vM_at (D := D + 4) (y := 247) (as := [vR 452]) (f := f) rfl rfl rfl rfl
  have st : ∀ r, vFn (vM MT0 (D + 4)) nb_X11_fogLine (F + 59) 1 0 [vR 452, vW 3] [] g = r → vM MT0 (D + 5) 247 [vR 452] f = r := fun r hr => go r ((by (first | (refine (vbnd_1 e).trans ?_) | (refine (vF_g rfl rfl).trans ?_; refine (vF_g rfl rfl).trans ?_; refine (vbnd_1 e).trans ?_) | (refine (vF_g rfl rfl).trans ?_; refine (vbnd_1 e).trans ?_)); (first | (exact hr) | (refine (vF_g rfl rfl).trans ?_; refine (vF_g rfl rfl).trans ?_; exact hr) | (refine (vF_g rfl rfl).trans ?_; exact hr))))
  obtain ⟨t1, t2⟩ := v_fogLR (D := D) 12 0 (tE T p) 0 (F + 59) g (vW 3) (Or.inl rfl) (by decide) (by omega) hg (Or.inl rfl) ((fr _ _ (by decide)).trans hf)
  refine ⟨fun w => ?_, fun w => ?_⟩
  · obtain ⟨g', a, b⟩ := t1 w
    exact ⟨g', st _ a, b⟩
  · obtain ⟨g', a, b⟩ := t2 w
    exact ⟨g', st _ a, b⟩
theorem cp_is {D : Nat} : ∀ (m k F : Nat) (f : Vw), k + m = 627 → 2 * m + 3 ≤ F → (∃ g, vFn (vM MT0 D) nb_X11_copies F 1 0 [vR 453, vI 0, vR 455, vI 0, vI k] [] f = some ((1, 0), vW 3, g) ∧ (∀ i, k ≤ i → i < 627 → g 455 i = f 453 i) ∧ (∀ i, i < k → g 455 i = f 455 i) ∧ ∀ x y, x ≠ 455 → g x y = f x y) ∧ (∃ g, vFn (vM MT0 D) nb_X11_copies F 1 0 [vR 455, vI 0, vR 453, vI 0, vI k] [] f = some ((1, 0), vW 3, g) ∧ (∀ i, k ≤ i → i < 627 → g 453 i = f 455 i) ∧ (∀ i, i < k → g 453 i = f 453 i) ∧ ∀ x y, x ≠ 453 → g x y = f x y) := by
  intro m
  induction m with
  | zero =>
    intro k F f hk hF
    obtain ⟨F1, rfl⟩ : ∃ F1, F = F1 + 3 := ⟨F - 3, by omega⟩
    exact ⟨⟨f, (by (first | (refine (vge2 (x := k) (y := 627) (by omega) (by omega)).trans ?_) | (refine (vF_g rfl rfl).trans ?_; refine (vF_g rfl rfl).trans ?_; refine (vge2 (x := k) (y := 627) (by omega) (by omega)).trans ?_) | (refine (vF_g rfl rfl).trans ?_; refine (vge2 (x := k) (y := 627) (by omega) (by omega)).trans ?_)); (first | (exact rfl) | (refine (vF_g rfl rfl).trans ?_; refine (vF_g rfl rfl).trans ?_; exact rfl) | (refine (vF_g rfl rfl).trans ?_; refine (vF_g rfl rfl).trans ?_; refine (vF_g rfl rfl).trans ?_; exact rfl) | (refine (vF_g rfl rfl).trans ?_; exact rfl))), fun i a b => by omega, fun _ _ => rfl, fun _ _ _ => rfl⟩, ⟨f, (by (first | (refine (vge2 (x := k) (y := 627) (by omega) (by omega)).trans ?_) | (refine (vF_g rfl rfl).trans ?_; refine (vF_g rfl rfl).trans ?_; refine (vge2 (x := k) (y := 627) (by omega) (by omega)).trans ?_) | (refine (vF_g rfl rfl).trans ?_; refine (vge2 (x := k) (y := 627) (by omega) (by omega)).trans ?_)); (first | (exact rfl) | (refine (vF_g rfl rfl).trans ?_; refine (vF_g rfl rfl).trans ?_; exact rfl) | (refine (vF_g rfl rfl).trans ?_; refine (vF_g rfl rfl).trans ?_; refine (vF_g rfl rfl).trans ?_; exact rfl) | (refine (vF_g rfl rfl).trans ?_; exact rfl))), fun i a b => by omega, fun _ _ => rfl, fun _ _ _ => rfl⟩⟩
  | succ m ih =>
    intro k F f hk hF
    obtain ⟨F1, rfl⟩ : ∃ F1, F = F1 + 2 := ⟨F - 2, by omega⟩
    have hX : (0 + k) % 4294967296 = k := by omega
    have hb : Nat.ble (k + 1) 627 = true := Nat.ble_eq_true_of_le (by omega)
    constructor
    · obtain ⟨⟨g, e, h1, h2, h3⟩, _⟩ := ih (k + 1) F1 (vup f 455 k (f 453 k)) (by omega) (by omega)
      refine ⟨g, ?_, fun i a b => ?_, fun i a => (h2 i (by omega)).trans (vup_ne (Or.inr (by omega))), fun x y w => (h3 x y w).trans (vup_ne (Or.inl w))⟩
      · (first | (refine (vlt (x := k) (y := 627) (by decide) (by omega)).trans ?_) | (refine (vF_g rfl rfl).trans ?_; refine (vF_g rfl rfl).trans ?_; refine (vlt (x := k) (y := 627) (by decide) (by omega)).trans ?_) | (refine (vF_g rfl rfl).trans ?_; refine (vlt (x := k) (y := 627) (by decide) (by omega)).trans ?_))
        (first | (refine Eq.trans (b := gd (Nat.ble ((0 + k) % 4294967296 + 1) 627) (gd (Nat.ble ((0 + k) % 4294967296 + 1) 627) (vFn (vM MT0 D) nb_X11_copies F1 1 0 [vR 453, vI 0, vR 455, vI 0, vI ((k + 1) % 4294967296)] [] (vup f 455 ((0 + k) % 4294967296) (f 453 ((0 + k) % 4294967296)))))) rfl ?_) | (refine (vF_g rfl rfl).trans ?_; refine (vF_g rfl rfl).trans ?_; refine Eq.trans (b := gd (Nat.ble ((0 + k) % 4294967296 + 1) 627) (gd (Nat.ble ((0 + k) % 4294967296 + 1) 627) (vFn (vM MT0 D) nb_X11_copies F1 1 0 [vR 453, vI 0, vR 455, vI 0, vI ((k + 1) % 4294967296)] [] (vup f 455 ((0 + k) % 4294967296) (f 453 ((0 + k) % 4294967296)))))) rfl ?_) | (refine (vF_g rfl rfl).trans ?_; refine Eq.trans (b := gd (Nat.ble ((0 + k) % 4294967296 + 1) 627) (gd (Nat.ble ((0 + k) % 4294967296 + 1) 627) (vFn (vM MT0 D) nb_X11_copies F1 1 0 [vR 453, vI 0, vR 455, vI 0, vI ((k + 1) % 4294967296)] [] (vup f 455 ((0 + k) % 4294967296) (f 453 ((0 + k) % 4294967296)))))) rfl ?_))
        rw [hX, hb, Nat.mod_eq_of_lt (show k + 1 < 4294967296 by omega)]
        exact e
      · by_cases r : i = k
        · subst r
          exact (h2 i (by omega)).trans vup_eq
        · exact (h1 i (by omega) b).trans (vup_ne (Or.inl (by decide)))
    · obtain ⟨_, ⟨g, e, h1, h2, h3⟩⟩ := ih (k + 1) F1 (vup f 453 k (f 455 k)) (by omega) (by omega)
      refine ⟨g, ?_, fun i a b => ?_, fun i a => (h2 i (by omega)).trans (vup_ne (Or.inr (by omega))), fun x y w => (h3 x y w).trans (vup_ne (Or.inl w))⟩
      · (first | (refine (vlt (x := k) (y := 627) (by decide) (by omega)).trans ?_) | (refine (vF_g rfl rfl).trans ?_; refine (vF_g rfl rfl).trans ?_; refine (vlt (x := k) (y := 627) (by decide) (by omega)).trans ?_) | (refine (vF_g rfl rfl).trans ?_; refine (vlt (x := k) (y := 627) (by decide) (by omega)).trans ?_))
        (first | (refine Eq.trans (b := gd (Nat.ble ((0 + k) % 4294967296 + 1) 627) (gd (Nat.ble ((0 + k) % 4294967296 + 1) 627) (vFn (vM MT0 D) nb_X11_copies F1 1 0 [vR 455, vI 0, vR 453, vI 0, vI ((k + 1) % 4294967296)] [] (vup f 453 ((0 + k) % 4294967296) (f 455 ((0 + k) % 4294967296)))))) rfl ?_) | (refine (vF_g rfl rfl).trans ?_; refine (vF_g rfl rfl).trans ?_; refine Eq.trans (b := gd (Nat.ble ((0 + k) % 4294967296 + 1) 627) (gd (Nat.ble ((0 + k) % 4294967296 + 1) 627) (vFn (vM MT0 D) nb_X11_copies F1 1 0 [vR 455, vI 0, vR 453, vI 0, vI ((k + 1) % 4294967296)] [] (vup f 453 ((0 + k) % 4294967296) (f 455 ((0 + k) % 4294967296)))))) rfl ?_) | (refine (vF_g rfl rfl).trans ?_; refine Eq.trans (b := gd (Nat.ble ((0 + k) % 4294967296 + 1) 627) (gd (Nat.ble ((0 + k) % 4294967296 + 1) 627) (vFn (vM MT0 D) nb_X11_copies F1 1 0 [vR 455, vI 0, vR 453, vI 0, vI ((k + 1) % 4294967296)] [] (vup f 453 ((0 + k) % 4294967296) (f 455 ((0 + k) % 4294967296)))))) rfl ?_))
        rw [hX, hb, Nat.mod_eq_of_lt (show k + 1 < 4294967296 by omega)]
        exact e
      · by_cases r : i = k
        · subst r
          exact (h2 i (by omega)).trans vup_eq
        · exact (h1 i (by omega) b).trans (vup_ne (Or.inl (by decide)))
theorem v_copy1 {D : Nat} {f : Vw} : ∃ g, vM MT0 (D + 1) 178 [vR 453, vI 0, vR 455, vI 0] f = some ((1, 0), vW 3, g) ∧ (∀ i, i < 627 → g 455 i = f 453 i) ∧ ∀ x y, x ≠ 455 → g x y = f x y := by
  obtain ⟨F, hF, go⟩ := vM_at (D := D) (y := 178) (as := [vR 453, vI 0, vR 455, vI 0]) (f := f) rfl rfl rfl rfl
  obtain ⟨⟨g, e, h1, _, h3⟩, _⟩ := cp_is (D := D) 627 0 (F + 59) f (by decide) (by omega)
  exact ⟨g, go _ <| (by (first | (refine Eq.trans (b := vFn (vM MT0 D) nb_X11_copies (F + 59) 1 0 [vR 453, vI 0, vR 455, vI 0, vI 0] [] f) rfl ?_) | (refine (vF_g rfl rfl).trans ?_; refine (vF_g rfl rfl).trans ?_; refine Eq.trans (b := vFn (vM MT0 D) nb_X11_copies (F + 59) 1 0 [vR 453, vI 0, vR 455, vI 0, vI 0] [] f) rfl ?_) | (refine (vF_g rfl rfl).trans ?_; refine Eq.trans (b := vFn (vM MT0 D) nb_X11_copies (F + 59) 1 0 [vR 453, vI 0, vR 455, vI 0, vI 0] [] f) rfl ?_)); (first | (exact e) | (refine (vF_g rfl rfl).trans ?_; refine (vF_g rfl rfl).trans ?_; exact e) | (refine (vF_g rfl rfl).trans ?_; exact e))), fun i hi => h1 i (Nat.zero_le i) hi, h3⟩
theorem v_copy2 {D : Nat} {f : Vw} : ∃ g, vM MT0 (D + 1) 178 [vR 455, vI 0, vR 453, vI 0] f = some ((1, 0), vW 3, g) ∧ (∀ i, i < 627 → g 453 i = f 455 i) ∧ ∀ x y, x ≠ 453 → g x y = f x y := by
  obtain ⟨F, hF, go⟩ := vM_at (D := D) (y := 178) (as := [vR 455, vI 0, vR 453, vI 0]) (f := f) rfl rfl rfl rfl
  obtain ⟨_, ⟨g, e, h1, _, h3⟩⟩ := cp_is (D := D) 627 0 (F + 59) f (by decide) (by omega)
  exact ⟨g, go _ <| (by (first | (refine Eq.trans (b := vFn (vM MT0 D) nb_X11_copies (F + 59) 1 0 [vR 455, vI 0, vR 453, vI 0, vI 0] [] f) rfl ?_) | (refine (vF_g rfl rfl).trans ?_; refine (vF_g rfl rfl).trans ?_; refine Eq.trans (b := vFn (vM MT0 D) nb_X11_copies (F + 59) 1 0 [vR 455, vI 0, vR 453, vI 0, vI 0] [] f) rfl ?_) | (refine (vF_g rfl rfl).trans ?_; refine Eq.trans (b := vFn (vM MT0 D) nb_X11_copies (F + 59) 1 0 [vR 455, vI 0, vR 453, vI 0, vI 0] [] f) rfl ?_)); (first | (exact e) | (refine (vF_g rfl rfl).trans ?_; refine (vF_g rfl rfl).trans ?_; exact e) | (refine (vF_g rfl rfl).trans ?_; exact e))), fun i hi => h1 i (Nat.zero_le i) hi, h3⟩
/-- the state's row made empty -/
theorem ze_is {D : Nat} : ∀ (m k c F : Nat) (f : Vw), k + m = 627 → c + 2 * m + 2 ≤ F → ∃ g c', c ≤ c' ∧ vFn (vM MT0 D) nb_X11_load F 1 0 [vR 452, vI k] [] f = vFn (vM MT0 D) nb_X11_load c' 3 0 [vR 452, vI 627] [] g ∧ (∀ i, k ≤ i → i < 627 → g 453 i = 0) ∧ (∀ i, i < k → g 453 i = f 453 i) ∧ ∀ x y, x ≠ 453 → g x y = f x y := by
  intro m
  induction m with
  | zero =>
    intro k c F f hk hF
    obtain ⟨F1, rfl⟩ : ∃ F1, F = F1 + 1 := ⟨F - 1, by omega⟩
    have e : k = 627 := by omega
    subst e
    exact ⟨f, F1, by omega, (by (first | (refine (vge2 (x := 627) (y := 627) (by decide) (by decide)).trans ?_) | (refine (vF_g rfl rfl).trans ?_; refine (vF_g rfl rfl).trans ?_; refine (vge2 (x := 627) (y := 627) (by decide) (by decide)).trans ?_) | (refine (vF_g rfl rfl).trans ?_; refine (vge2 (x := 627) (y := 627) (by decide) (by decide)).trans ?_)); (first | (exact rfl) | (refine (vF_g rfl rfl).trans ?_; refine (vF_g rfl rfl).trans ?_; exact rfl) | (refine (vF_g rfl rfl).trans ?_; refine (vF_g rfl rfl).trans ?_; refine (vF_g rfl rfl).trans ?_; exact rfl) | (refine (vF_g rfl rfl).trans ?_; exact rfl))), fun i a b => by omega, fun _ _ => rfl, fun _ _ _ => rfl⟩
  | succ m ih =>
    intro k c F f hk hF
    obtain ⟨F1, rfl⟩ : ∃ F1, F = F1 + 2 := ⟨F - 2, by omega⟩
    obtain ⟨g, c', h0, e, h1, h2, h3⟩ := ih (k + 1) c F1 (vup f 453 k 0) (by omega) (by omega)
    refine ⟨g, c', h0, ?_, fun i a b => ?_, fun i a => (h2 i (by omega)).trans (vup_ne (Or.inr (by omega))), fun x y w => (h3 x y w).trans (vup_ne (Or.inl w))⟩
    · (first | (refine (vlt (x := k) (y := 627) (by decide) (by omega)).trans ?_) | (refine (vF_g rfl rfl).trans ?_; refine (vF_g rfl rfl).trans ?_; refine (vlt (x := k) (y := 627) (by decide) (by omega)).trans ?_) | (refine (vF_g rfl rfl).trans ?_; refine (vlt (x := k) (y := 627) (by decide) (by omega)).trans ?_))
      (first | (refine Eq.trans (b := gd (Nat.ble (k + 1) 627) (vFn (vM MT0 D) nb_X11_load F1 1 0 [vR 452, vI ((k + 1) % 4294967296)] [] (vup f 453 k 0))) rfl ?_) | (refine (vF_g rfl rfl).trans ?_; refine (vF_g rfl rfl).trans ?_; refine Eq.trans (b := gd (Nat.ble (k + 1) 627) (vFn (vM MT0 D) nb_X11_load F1 1 0 [vR 452, vI ((k + 1) % 4294967296)] [] (vup f 453 k 0))) rfl ?_) | (refine (vF_g rfl rfl).trans ?_; refine Eq.trans (b := gd (Nat.ble (k + 1) 627) (vFn (vM MT0 D) nb_X11_load F1 1 0 [vR 452, vI ((k + 1) % 4294967296)] [] (vup f 453 k 0))) rfl ?_))
      rw [Nat.ble_eq_true_of_le (show k + 1 ≤ 627 by omega), Nat.mod_eq_of_lt (show k + 1 < 4294967296 by omega)]
      exact e
    · by_cases r : i = k
      · subst r
        exact (h2 i (by omega)).trans vup_eq
      · exact h1 i (by omega) b
noncomputable def sta (f : Vw) : Vw := vup (vup (vup (vup f 452 17 0) 452 18 0) 452 20 0) 452 21 4294967295
theorem v_starts {D : Nat} {f : Vw} : vM MT0 (D + 1) 243 [vR 452] f = some ((1, 0), vW 3, sta f) := vM_go rfl rfl rfl rfl fun F hF => (by (first | (exact rfl) | (refine (vF_g rfl rfl).trans ?_; refine (vF_g rfl rfl).trans ?_; exact rfl) | (refine (vF_g rfl rfl).trans ?_; refine (vF_g rfl rfl).trans ?_; refine (vF_g rfl rfl).trans ?_; exact rfl) | (refine (vF_g rfl rfl).trans ?_; exact rfl)))
noncomputable def ens (f : Vw) : Vw := vup (vup (vup f 452 16 0) 452 22 (vup f 452 16 0 452 20)) 452 23 (vup (vup f 452 16 0) 452 22 (vup f 452 16 0 452 20) 452 21)
theorem v_ends {D : Nat} {f : Vw} (h : f 452 20 < 4294967296) : vM MT0 (D + 1) 244 [vR 452] f = some ((0, 0), vI (if f 452 20 = 0 then 1 else 0), ens f) := by
  have e : ens f 452 20 = f 452 20 := (vup_ne (Or.inr (by decide))).trans ((vup_ne (Or.inr (by decide))).trans (vup_ne (Or.inr (by decide))))
  by_cases q : f 452 20 = 0
  · rw [if_pos q]
    refine vM_go rfl rfl rfl rfl fun F hF => ?_
    (first | (refine (veq (e.trans q)).trans ?_) | (refine (vF_g rfl rfl).trans ?_; refine (vF_g rfl rfl).trans ?_; refine (veq (e.trans q)).trans ?_) | (refine (vF_g rfl rfl).trans ?_; refine (veq (e.trans q)).trans ?_))
    (first | (exact rfl) | (refine (vF_g rfl rfl).trans ?_; refine (vF_g rfl rfl).trans ?_; exact rfl) | (refine (vF_g rfl rfl).trans ?_; refine (vF_g rfl rfl).trans ?_; refine (vF_g rfl rfl).trans ?_; exact rfl) | (refine (vF_g rfl rfl).trans ?_; exact rfl))
  · rw [if_neg q]
    refine vM_go rfl rfl rfl rfl fun F hF => ?_
    (first | (refine (vne (x := ens f 452 20) (y := 0) (by rw [e]; exact h) (by decide) (by rw [e]; exact q)).trans ?_) | (refine (vF_g rfl rfl).trans ?_; refine (vF_g rfl rfl).trans ?_; refine (vne (x := ens f 452 20) (y := 0) (by rw [e]; exact h) (by decide) (by rw [e]; exact q)).trans ?_) | (refine (vF_g rfl rfl).trans ?_; refine (vne (x := ens f 452 20) (y := 0) (by rw [e]; exact h) (by decide) (by rw [e]; exact q)).trans ?_))
    (first | (exact rfl) | (refine (vF_g rfl rfl).trans ?_; refine (vF_g rfl rfl).trans ?_; exact rfl) | (refine (vF_g rfl rfl).trans ?_; refine (vF_g rfl rfl).trans ?_; refine (vF_g rfl rfl).trans ?_; exact rfl) | (refine (vF_g rfl rfl).trans ?_; exact rfl))
theorem v_passes {D b : Nat} {f : Vw} (h : b = 0 ∨ b = 1) : vM MT0 (D + 1) 176 [vR 452, vI b] f = some ((0, 0), vI b, vup f 452 6 (1 - b)) := by
  rcases h with rfl | rfl
  · refine vM_go rfl rfl rfl rfl fun F hF => ?_
    (first | (refine (veq (x := 0) (y := 0) rfl).trans ?_) | (refine (vF_g rfl rfl).trans ?_; refine (vF_g rfl rfl).trans ?_; refine (veq (x := 0) (y := 0) rfl).trans ?_) | (refine (vF_g rfl rfl).trans ?_; refine (veq (x := 0) (y := 0) rfl).trans ?_))
    (first | (exact rfl) | (refine (vF_g rfl rfl).trans ?_; refine (vF_g rfl rfl).trans ?_; exact rfl) | (refine (vF_g rfl rfl).trans ?_; refine (vF_g rfl rfl).trans ?_; refine (vF_g rfl rfl).trans ?_; exact rfl) | (refine (vF_g rfl rfl).trans ?_; exact rfl))
  · refine vM_go rfl rfl rfl rfl fun F hF => ?_
    (first | (refine (vgt (x := 1) (y := 0) (by decide) (by decide)).trans ?_) | (refine (vF_g rfl rfl).trans ?_; refine (vF_g rfl rfl).trans ?_; refine (vgt (x := 1) (y := 0) (by decide) (by decide)).trans ?_) | (refine (vF_g rfl rfl).trans ?_; refine (vgt (x := 1) (y := 0) (by decide) (by decide)).trans ?_))
    (first | (exact rfl) | (refine (vF_g rfl rfl).trans ?_; refine (vF_g rfl rfl).trans ?_; exact rfl) | (refine (vF_g rfl rfl).trans ?_; refine (vF_g rfl rfl).trans ?_; refine (vF_g rfl rfl).trans ?_; exact rfl) | (refine (vF_g rfl rfl).trans ?_; exact rfl))
theorem oStm_i {T : Nat → Nat} {c d p q : Nat} {E V : Nat → Nat → Nat} (h : tS T p = tS T q) : oStm T c d E V p = oStm T c d E V q := by
  unfold oStm
  rw [tK_i h, tE_i h, h]
theorem tK_0 {T : Nat → Nat} {p : Nat} (hT : T (tS T p) < 256 ∨ T (tS T p) = 4294967295) : tK T p = 0 ↔ T (tS T p) = 4294967295 := by
  unfold tK kd9
  constructor
  · intro w
    by_cases a : 97 ≤ T (tS T p) ∧ T (tS T p) ≤ 122
    · rw [if_pos a] at w
      cases w
    · rw [if_neg a] at w
      by_cases b : 48 ≤ T (tS T p) ∧ T (tS T p) ≤ 57
      · rw [if_pos b] at w
        cases w
      · rw [if_neg b] at w
        by_cases q : T (tS T p) = 59
        · rw [if_pos q] at w
          cases w
        · rw [if_neg q] at w
          by_cases q2 : T (tS T p) = 32
          · rw [if_pos q2] at w
            cases w
          · rw [if_neg q2] at w
            by_cases q3 : T (tS T p) = 4294967295
            · exact q3
            · rw [if_neg q3] at w
              cases w
  · intro w
    rw [w]
    (first | (exact rfl) | (refine (vF_g rfl rfl).trans ?_; refine (vF_g rfl rfl).trans ?_; exact rfl) | (refine (vF_g rfl rfl).trans ?_; refine (vF_g rfl rfl).trans ?_; refine (vF_g rfl rfl).trans ?_; exact rfl) | (refine (vF_g rfl rfl).trans ?_; exact rfl))
/-- statement after statement -/
theorem v_allR {D n : Nat} {T : Nat → Nat} : ∀ (m c d p F : Nat) (E V : Nat → Nat → Nat) (f : Vw), n < p + m → 5 * m + 12 ≤ F → RS n T E V c d p f → ∃ g F', 4 ≤ F' ∧ vFn (vM MT0 (D + 7)) nb_X11_load F 5 0 [vR 452, vI 627] [] f = vFn (vM MT0 (D + 7)) nb_X11_load F' 10 0 [vR 452, vI 627] [] g ∧ ((oAll T m c d E V p).1.1 = 0 → ∃ p', RS n T (oAll T m c d E V p).2.2.1 (oAll T m c d E V p).2.2.2 (oAll T m c d E V p).2.1.1 (oAll T m c d E V p).2.1.2 p' g) ∧ ((oAll T m c d E V p).1.1 ≠ 0 → ERR (oAll T m c d E V p).1.1 (oAll T m c d E V p).1.2 g) := by
  intro m
  induction m with
  | zero =>
    intro c d p F E V f hp hF h
    have := h.le
    omega
  | succ m ih =>
    intro c d p F E V f hp hF h
    obtain ⟨F1, rfl⟩ : ∃ F1, F = F1 + 5 := ⟨F - 5, by omega⟩
    have hT := h.tx.2.2.2.1 (tS T p)
    have hc9 := h.c9
    have hd9 := h.d9
    have x := v_nextR (D := D + 5) h.tx h.at_ h.le
    have hi := tS_i h.tx.1 h.tx.2.2.2.2 h.le
    by_cases A : tK T p = 0 ∧ 0 < c ∧ 0 < d
    · rw [show oAll T (m + 1) c d E V p = ((0, p), (c, d), (E, V)) from (if_pos A.1).trans (if_pos A.2)]
      exact ⟨rkv f T p, F1 + 1, by omega, (by (first | (refine (veq h.er.1).trans ?_) | (refine (vF_g rfl rfl).trans ?_; refine (vF_g rfl rfl).trans ?_; refine (veq h.er.1).trans ?_) | (refine (vF_g rfl rfl).trans ?_; refine (veq h.er.1).trans ?_)); (first | (refine (vgt (x := f 453 0) (y := 0) (by rw [h.c0]; omega) (by rw [h.c0]; exact A.2.1)).trans ?_) | (refine (vF_g rfl rfl).trans ?_; refine (vF_g rfl rfl).trans ?_; refine (vgt (x := f 453 0) (y := 0) (by rw [h.c0]; omega) (by rw [h.c0]; exact A.2.1)).trans ?_) | (refine (vF_g rfl rfl).trans ?_; refine (vgt (x := f 453 0) (y := 0) (by rw [h.c0]; omega) (by rw [h.c0]; exact A.2.1)).trans ?_)); (first | (refine (vgt (x := f 453 1) (y := 0) (by rw [h.d0]; omega) (by rw [h.d0]; exact A.2.2)).trans ?_) | (refine (vF_g rfl rfl).trans ?_; refine (vF_g rfl rfl).trans ?_; refine (vgt (x := f 453 1) (y := 0) (by rw [h.d0]; omega) (by rw [h.d0]; exact A.2.2)).trans ?_) | (refine (vF_g rfl rfl).trans ?_; refine (vgt (x := f 453 1) (y := 0) (by rw [h.d0]; omega) (by rw [h.d0]; exact A.2.2)).trans ?_)); (first | (refine (vbnd_0 x).trans ?_) | (refine (vF_g rfl rfl).trans ?_; refine (vF_g rfl rfl).trans ?_; refine (vbnd_0 x).trans ?_) | (refine (vF_g rfl rfl).trans ?_; refine (vbnd_0 x).trans ?_)); (first | (exact (veq ((tK_0 hT).mp A.1))) | (refine (vF_g rfl rfl).trans ?_; refine (vF_g rfl rfl).trans ?_; exact (veq ((tK_0 hT).mp A.1))) | (refine (vF_g rfl rfl).trans ?_; exact (veq ((tK_0 hT).mp A.1))))), fun _ => ⟨_, rs_rkv h⟩, fun w => absurd rfl w⟩
    · have eo : oAll T (m + 1) c d E V p = if (oStm T c d E V p).1.1 = 0 then oAll T m (oStm T c d E V p).2.1.1 (oStm T c d E V p).2.1.2 (oStm T c d E V p).2.2.1 (oStm T c d E V p).2.2.2 (oStm T c d E V p).1.2 else oStm T c d E V p := by
        by_cases k0 : tK T p = 0
        · have n9 : ∀ w, ¬ wOKc T w p := fun w z => by
            have := z.1
            omega
          rw [oStm_n (n9 28) (n9 29) (n9 30)]
          exact (if_pos k0).trans ((if_neg (fun w => A ⟨k0, w⟩)).trans (if_neg n01).symm)
        · exact if_neg k0
      rw [eo]
      have to9 : ∃ f9 F9, F1 + 1 ≤ F9 ∧ (f9 = f ∨ f9 = rkv f T p) ∧ ∀ r, vFn (vM MT0 (D + 7)) nb_X11_load F9 9 0 [vR 452, vI 627] [] f9 = r → vFn (vM MT0 (D + 7)) nb_X11_load (F1 + 5) 5 0 [vR 452, vI 627] [] f = r := by
        by_cases c0 : c = 0
        · exact ⟨f, F1 + 3, by omega, Or.inl rfl, fun r hr => (by (first | (refine (veq h.er.1).trans ?_) | (refine (vF_g rfl rfl).trans ?_; refine (vF_g rfl rfl).trans ?_; refine (veq h.er.1).trans ?_) | (refine (vF_g rfl rfl).trans ?_; refine (veq h.er.1).trans ?_)); (first | (refine (veq (h.c0.trans c0)).trans ?_) | (refine (vF_g rfl rfl).trans ?_; refine (vF_g rfl rfl).trans ?_; refine (veq (h.c0.trans c0)).trans ?_) | (refine (vF_g rfl rfl).trans ?_; refine (veq (h.c0.trans c0)).trans ?_)); (first | (exact hr) | (refine (vF_g rfl rfl).trans ?_; refine (vF_g rfl rfl).trans ?_; exact hr) | (refine (vF_g rfl rfl).trans ?_; exact hr)))⟩
        · by_cases d0 : d = 0
          · exact ⟨f, F1 + 2, by omega, Or.inl rfl, fun r hr => (by (first | (refine (veq h.er.1).trans ?_) | (refine (vF_g rfl rfl).trans ?_; refine (vF_g rfl rfl).trans ?_; refine (veq h.er.1).trans ?_) | (refine (vF_g rfl rfl).trans ?_; refine (veq h.er.1).trans ?_)); (first | (refine (vgt (x := f 453 0) (y := 0) (by rw [h.c0]; omega) (by rw [h.c0]; omega)).trans ?_) | (refine (vF_g rfl rfl).trans ?_; refine (vF_g rfl rfl).trans ?_; refine (vgt (x := f 453 0) (y := 0) (by rw [h.c0]; omega) (by rw [h.c0]; omega)).trans ?_) | (refine (vF_g rfl rfl).trans ?_; refine (vgt (x := f 453 0) (y := 0) (by rw [h.c0]; omega) (by rw [h.c0]; omega)).trans ?_)); (first | (refine (veq (h.d0.trans d0)).trans ?_) | (refine (vF_g rfl rfl).trans ?_; refine (vF_g rfl rfl).trans ?_; refine (veq (h.d0.trans d0)).trans ?_) | (refine (vF_g rfl rfl).trans ?_; refine (veq (h.d0.trans d0)).trans ?_)); (first | (exact hr) | (refine (vF_g rfl rfl).trans ?_; refine (vF_g rfl rfl).trans ?_; exact hr) | (refine (vF_g rfl rfl).trans ?_; exact hr)))⟩
          · have k0 : ¬ T (tS T p) = 4294967295 := fun w => A ⟨(tK_0 hT).mpr w, by omega, by omega⟩
            exact ⟨rkv f T p, F1 + 1, by omega, Or.inr rfl, fun r hr => (by (first | (refine (veq h.er.1).trans ?_) | (refine (vF_g rfl rfl).trans ?_; refine (vF_g rfl rfl).trans ?_; refine (veq h.er.1).trans ?_) | (refine (vF_g rfl rfl).trans ?_; refine (veq h.er.1).trans ?_)); (first | (refine (vgt (x := f 453 0) (y := 0) (by rw [h.c0]; omega) (by rw [h.c0]; omega)).trans ?_) | (refine (vF_g rfl rfl).trans ?_; refine (vF_g rfl rfl).trans ?_; refine (vgt (x := f 453 0) (y := 0) (by rw [h.c0]; omega) (by rw [h.c0]; omega)).trans ?_) | (refine (vF_g rfl rfl).trans ?_; refine (vgt (x := f 453 0) (y := 0) (by rw [h.c0]; omega) (by rw [h.c0]; omega)).trans ?_)); (first | (refine (vgt (x := f 453 1) (y := 0) (by rw [h.d0]; omega) (by rw [h.d0]; omega)).trans ?_) | (refine (vF_g rfl rfl).trans ?_; refine (vF_g rfl rfl).trans ?_; refine (vgt (x := f 453 1) (y := 0) (by rw [h.d0]; omega) (by rw [h.d0]; omega)).trans ?_) | (refine (vF_g rfl rfl).trans ?_; refine (vgt (x := f 453 1) (y := 0) (by rw [h.d0]; omega) (by rw [h.d0]; omega)).trans ?_)); (first | (refine (vbnd_0 x).trans ?_) | (refine (vF_g rfl rfl).trans ?_; refine (vF_g rfl rfl).trans ?_; refine (vbnd_0 x).trans ?_) | (refine (vF_g rfl rfl).trans ?_; refine (vbnd_0 x).trans ?_)); (first | (refine (vne (x := T (tS T p)) (y := 4294967295) (by omega) (by decide) k0).trans ?_) | (refine (vF_g rfl rfl).trans ?_; refine (vF_g rfl rfl).trans ?_; refine (vne (x := T (tS T p)) (y := 4294967295) (by omega) (by decide) k0).trans ?_) | (refine (vF_g rfl rfl).trans ?_; refine (vne (x := T (tS T p)) (y := 4294967295) (by omega) (by decide) k0).trans ?_)); (first | (exact hr) | (refine (vF_g rfl rfl).trans ?_; refine (vF_g rfl rfl).trans ?_; exact hr) | (refine (vF_g rfl rfl).trans ?_; exact hr)))⟩
      obtain ⟨f9, F9, hF9, hf9, s9⟩ := to9
      obtain ⟨p9, h9, hp9⟩ : ∃ p9, RS n T E V c d p9 f9 ∧ tS T p9 = tS T p := by
        rcases hf9 with rfl | rfl
        · exact ⟨p, h, rfl⟩
        · exact ⟨tS T p, rs_rkv h, hi⟩
      obtain ⟨w1, w2⟩ := v_stmR (D := D + 1) h9
      rw [oStm_i hp9] at w1 w2
      obtain ⟨F2, rfl⟩ : ∃ F2, F9 = F2 + 1 := ⟨F9 - 1, by omega⟩
      by_cases k1 : (oStm T c d E V p).1.1 = 0
      · rw [if_pos k1]
        obtain ⟨g, e, hg⟩ := w1 k1
        have hlt := mo_Stm h.tx.2.2.2.2 h.le k1
        obtain ⟨g', F', a1, a2, a3⟩ := ih _ _ _ F2 _ _ g (by omega) (by omega) hg
        exact ⟨g', F', a1, s9 _ ((by (first | (refine (vbnd_1 e).trans ?_) | (refine (vF_g rfl rfl).trans ?_; refine (vF_g rfl rfl).trans ?_; refine (vbnd_1 e).trans ?_) | (refine (vF_g rfl rfl).trans ?_; refine (vbnd_1 e).trans ?_)); (first | (exact a2) | (refine (vF_g rfl rfl).trans ?_; refine (vF_g rfl rfl).trans ?_; exact a2) | (refine (vF_g rfl rfl).trans ?_; exact a2)))), a3⟩
      · rw [if_neg k1]
        obtain ⟨g, e, hg⟩ := w2 k1
        obtain ⟨F3, rfl⟩ : ∃ F3, F2 = F3 + 1 := ⟨F2 - 1, by omega⟩
        exact ⟨g, F3, by omega, s9 _ ((by (first | (refine (vbnd_1 e).trans ?_) | (refine (vF_g rfl rfl).trans ?_; refine (vF_g rfl rfl).trans ?_; refine (vbnd_1 e).trans ?_) | (refine (vF_g rfl rfl).trans ?_; refine (vbnd_1 e).trans ?_)); (first | (exact (vne (by rw [hg.1]; exact hg.2.2.2) (by decide) (by rw [hg.1]; exact hg.2.2.1))) | (refine (vF_g rfl rfl).trans ?_; refine (vF_g rfl rfl).trans ?_; exact (vne (by rw [hg.1]; exact hg.2.2.2) (by decide) (by rw [hg.1]; exact hg.2.2.1))) | (refine (vF_g rfl rfl).trans ?_; exact (vne (by rw [hg.1]; exact hg.2.2.2) (by decide) (by rw [hg.1]; exact hg.2.2.1)))))), fun w => absurd w k1, fun _ => hg⟩
theorem ld_3 {D F a : Nat} {f g1 g2 g3 : Vw} {r : Option VR} (e1 : vM MT0 (D + 1) 233 [vR 452, vW 21] (sta f) = some ((1, 0), vW 3, g1)) (e2 : vM MT0 (D + 1) 235 [vR 452, vI 1, vI 30] g1 = some ((0, 0), vI a, g2)) (e3 : vM MT0 (D + 1) 234 [vR 452] (vup g2 453 3 a) = some ((1, 0), vW 3, g3)) (e4 : vc3 (bv (g3 452 20)) (bv 0) (vFn (vM MT0 (D + 1)) nb_X11_load F 5 0 [vR 452, vI 627] [] g3) (vFn (vM MT0 (D + 1)) nb_X11_load F 4 0 [vR 452, vI 627] [] g3) (vFn (vM MT0 (D + 1)) nb_X11_load F 5 0 [vR 452, vI 627] [] g3) = r) : vFn (vM MT0 (D + 1)) nb_X11_load (F + 1) 3 0 [vR 452, vI 627] [] f = r := (by (first | (refine (vbnd_1 v_starts).trans ?_) | (refine (vF_g rfl rfl).trans ?_; refine (vF_g rfl rfl).trans ?_; refine (vbnd_1 v_starts).trans ?_) | (refine (vF_g rfl rfl).trans ?_; refine (vbnd_1 v_starts).trans ?_)); (first | (refine (vbnd_1 e1).trans ?_) | (refine (vF_g rfl rfl).trans ?_; refine (vF_g rfl rfl).trans ?_; refine (vbnd_1 e1).trans ?_) | (refine (vF_g rfl rfl).trans ?_; refine (vbnd_1 e1).trans ?_)); (first | (refine (vbnd_0 e2).trans ?_) | (refine (vF_g rfl rfl).trans ?_; refine (vF_g rfl rfl).trans ?_; refine (vbnd_0 e2).trans ?_) | (refine (vF_g rfl rfl).trans ?_; refine (vbnd_0 e2).trans ?_)); (first | (refine (vbnd_1 e3).trans ?_) | (refine (vF_g rfl rfl).trans ?_; refine (vF_g rfl rfl).trans ?_; refine (vbnd_1 e3).trans ?_) | (refine (vF_g rfl rfl).trans ?_; refine (vbnd_1 e3).trans ?_)); (first | (exact e4) | (refine (vF_g rfl rfl).trans ?_; refine (vF_g rfl rfl).trans ?_; exact e4) | (refine (vF_g rfl rfl).trans ?_; exact e4)))
/-- the reference's load, out of the text alone -/
theorem v_loadR {D n : Nat} {T : Nat → Nat} {f : Vw} (hx : TxR f n T) : ((oCfg T).1.1 = 0 → ∃ g p', vM MT0 (D + 8) 252 [vR 452] f = some ((0, 0), vI (oCfg T).2.1.1, g) ∧ g 452 6 = 0 ∧ g 452 22 = 0 ∧ g 452 23 = 4294967295 ∧ ∃ g0, RS n T (oCfg T).2.2.1 (oCfg T).2.2.2 (oCfg T).2.1.1 (oCfg T).2.1.2 p' g0 ∧ ∀ i, g 453 i = g0 453 i) ∧ ((oCfg T).1.1 ≠ 0 → ∃ g, vM MT0 (D + 8) 252 [vR 452] f = some ((0, 0), vI 0, g) ∧ g 452 6 = 1 ∧ g 452 22 = (oCfg T).1.1 ∧ g 452 23 = (oCfg T).1.2) := by
  have hn := hx.1
  obtain ⟨f1, e1, _, fr1⟩ := v_copy1 (D := D + 6) (f := f)
  obtain ⟨F0, hF0, go⟩ := vM_at (D := D + 7) (y := 252) (as := [vR 452]) (f := f) rfl rfl rfl rfl
  obtain ⟨f2, F2, hF2, e2, z2, _, fr2⟩ := ze_is (D := D + 7) 627 0 990000 (F0 + 59) f1 (by decide) (by omega)
  have o2 : ∀ a b, a ≠ 453 → a ≠ 455 → f2 a b = f a b := fun a b h1 h2 => (fr2 a b h1).trans (fr1 a b h2)
  have os : ∀ a b, a ≠ 452 → sta f2 a b = f2 a b := fun a b w => (vup_ne (Or.inl w)).trans ((vup_ne (Or.inl w)).trans ((vup_ne (Or.inl w)).trans (vup_ne (Or.inl w))))
  have s0 : ∀ r, vFn (vM MT0 (D + 7)) nb_X11_load F2 3 0 [vR 452, vI 627] [] f2 = r → vM MT0 (D + 8) 252 [vR 452] f = r := fun r hr => go r ((by (first | (refine (vbnd_1 e1).trans ?_) | (refine (vF_g rfl rfl).trans ?_; refine (vF_g rfl rfl).trans ?_; refine (vbnd_1 e1).trans ?_) | (refine (vF_g rfl rfl).trans ?_; refine (vbnd_1 e1).trans ?_)); (first | (refine Eq.trans (b := vFn (vM MT0 (D + 7)) nb_X11_load (F0 + 59) 1 0 [vR 452, vI 0] [] f1) rfl ?_) | (refine (vF_g rfl rfl).trans ?_; refine (vF_g rfl rfl).trans ?_; refine Eq.trans (b := vFn (vM MT0 (D + 7)) nb_X11_load (F0 + 59) 1 0 [vR 452, vI 0] [] f1) rfl ?_) | (refine (vF_g rfl rfl).trans ?_; refine Eq.trans (b := vFn (vM MT0 (D + 7)) nb_X11_load (F0 + 59) 1 0 [vR 452, vI 0] [] f1) rfl ?_)); refine e2.trans ?_; (first | (exact hr) | (refine (vF_g rfl rfl).trans ?_; refine (vF_g rfl rfl).trans ?_; exact hr) | (refine (vF_g rfl rfl).trans ?_; exact hr))))
  have h0 : RS n T (fun _ _ => 0) (fun _ _ => 0) 0 0 0 (sta f2) := ⟨txR_of hx ((vup_ne (Or.inr (by decide))).trans ((vup_ne (Or.inr (by decide))).trans ((vup_ne (Or.inr (by decide))).trans ((vup_ne (Or.inr (by decide))).trans (o2 _ _ (by decide) (by decide)))))) (fun i => (os _ _ (by decide)).trans (o2 _ _ (by decide) (by decide))), (vup_ne (Or.inr (by decide))).trans ((vup_ne (Or.inr (by decide))).trans ((vup_ne (Or.inr (by decide))).trans vup_eq)), Nat.zero_le _, ⟨(vup_ne (Or.inr (by decide))).trans vup_eq, vup_eq⟩, (os _ _ (by decide)).trans (z2 0 (by decide) (by decide)), by decide, (os _ _ (by decide)).trans (z2 1 (by decide) (by decide)), by decide, fun j hj => absurd hj (Nat.not_lt_zero j), fun j hj => absurd hj (Nat.not_lt_zero j)⟩
  have z4 : sta f2 453 4 = 0 := (os _ _ (by decide)).trans (z2 4 (by decide) (by decide))
  -- what follows where the parser's error stands or not
  have fine : ∀ g F', 4 ≤ F' → g 452 20 = 0 → ∃ g', vFn (vM MT0 (D + 7)) nb_X11_load F' 10 0 [vR 452, vI 627] [] g = some ((0, 0), vI (g 453 0), g') ∧ g' 452 6 = 0 ∧ g' 452 22 = 0 ∧ g' 452 23 = g 452 21 ∧ ∀ i, g' 453 i = g 453 i := by
    intro g F' hF' hg
    obtain ⟨F3, rfl⟩ : ∃ F3, F' = F3 + 4 := ⟨F' - 4, by omega⟩
    have a := v_ends (D := D + 6) (f := g) (by rw [hg]; decide)
    rw [if_pos hg] at a
    have b := v_passes (D := D + 6) (b := 1) (f := ens g) (Or.inr rfl)
    refine ⟨vup (vup (ens g) 452 6 (1 - 1)) 452 5 0, (by (first | (refine (vbnd_0 a).trans ?_) | (refine (vF_g rfl rfl).trans ?_; refine (vF_g rfl rfl).trans ?_; refine (vbnd_0 a).trans ?_) | (refine (vF_g rfl rfl).trans ?_; refine (vbnd_0 a).trans ?_)); (first | (refine (vbnd_0 b).trans ?_) | (refine (vF_g rfl rfl).trans ?_; refine (vF_g rfl rfl).trans ?_; refine (vbnd_0 b).trans ?_) | (refine (vF_g rfl rfl).trans ?_; refine (vbnd_0 b).trans ?_)); (first | (refine (vgt (x := 1) (y := 0) (by decide) (by decide)).trans ?_) | (refine (vF_g rfl rfl).trans ?_; refine (vF_g rfl rfl).trans ?_; refine (vgt (x := 1) (y := 0) (by decide) (by decide)).trans ?_) | (refine (vF_g rfl rfl).trans ?_; refine (vgt (x := 1) (y := 0) (by decide) (by decide)).trans ?_)); (first | (exact rfl) | (refine (vF_g rfl rfl).trans ?_; refine (vF_g rfl rfl).trans ?_; exact rfl) | (refine (vF_g rfl rfl).trans ?_; refine (vF_g rfl rfl).trans ?_; refine (vF_g rfl rfl).trans ?_; exact rfl) | (refine (vF_g rfl rfl).trans ?_; exact rfl))), (vup_ne (Or.inr (by decide))).trans vup_eq, ?_, ?_, fun i => rfl⟩
    · exact (vup_ne (Or.inr (by decide))).trans ((vup_ne (Or.inr (by decide))).trans ((vup_ne (Or.inr (by decide))).trans (vup_eq.trans ((vup_ne (Or.inr (by decide))).trans hg))))
    · exact (vup_ne (Or.inr (by decide))).trans ((vup_ne (Or.inr (by decide))).trans (vup_eq.trans ((vup_ne (Or.inr (by decide))).trans (vup_ne (Or.inr (by decide))))))
  have bad : ∀ g F' e q, 4 ≤ F' → ERR e q g → ∃ g', vFn (vM MT0 (D + 7)) nb_X11_load F' 10 0 [vR 452, vI 627] [] g = some ((0, 0), vI 0, g') ∧ g' 452 6 = 1 ∧ g' 452 22 = e ∧ g' 452 23 = q := by
    intro g F' e q hF' hg
    obtain ⟨F3, rfl⟩ : ∃ F3, F' = F3 + 4 := ⟨F' - 4, by omega⟩
    have a := v_ends (D := D + 6) (f := g) (by rw [hg.1]; exact hg.2.2.2)
    rw [if_neg (by rw [hg.1]; exact hg.2.2.1)] at a
    have b := v_passes (D := D + 6) (b := 0) (f := ens g) (Or.inl rfl)
    obtain ⟨g', c1, _, c3⟩ := v_copy2 (D := D + 6) (f := vup (ens g) 452 6 (1 - 0))
    refine ⟨g', (by (first | (refine (vbnd_0 a).trans ?_) | (refine (vF_g rfl rfl).trans ?_; refine (vF_g rfl rfl).trans ?_; refine (vbnd_0 a).trans ?_) | (refine (vF_g rfl rfl).trans ?_; refine (vbnd_0 a).trans ?_)); (first | (refine (vbnd_0 b).trans ?_) | (refine (vF_g rfl rfl).trans ?_; refine (vF_g rfl rfl).trans ?_; refine (vbnd_0 b).trans ?_) | (refine (vF_g rfl rfl).trans ?_; refine (vbnd_0 b).trans ?_)); (first | (refine (veq (x := 0) (y := 0) rfl).trans ?_) | (refine (vF_g rfl rfl).trans ?_; refine (vF_g rfl rfl).trans ?_; refine (veq (x := 0) (y := 0) rfl).trans ?_) | (refine (vF_g rfl rfl).trans ?_; refine (veq (x := 0) (y := 0) rfl).trans ?_)); (first | (refine (vbnd_1 c1).trans ?_) | (refine (vF_g rfl rfl).trans ?_; refine (vF_g rfl rfl).trans ?_; refine (vbnd_1 c1).trans ?_) | (refine (vF_g rfl rfl).trans ?_; refine (vbnd_1 c1).trans ?_)); (first | (exact rfl) | (refine (vF_g rfl rfl).trans ?_; refine (vF_g rfl rfl).trans ?_; exact rfl) | (refine (vF_g rfl rfl).trans ?_; refine (vF_g rfl rfl).trans ?_; refine (vF_g rfl rfl).trans ?_; exact rfl) | (refine (vF_g rfl rfl).trans ?_; exact rfl))), (c3 _ _ (by decide)).trans vup_eq, ?_, ?_⟩
    · exact (c3 _ _ (by decide)).trans ((vup_ne (Or.inr (by decide))).trans ((vup_ne (Or.inr (by decide))).trans (vup_eq.trans ((vup_ne (Or.inr (by decide))).trans hg.1))))
    · exact (c3 _ _ (by decide)).trans ((vup_ne (Or.inr (by decide))).trans (vup_eq.trans ((vup_ne (Or.inr (by decide))).trans ((vup_ne (Or.inr (by decide))).trans hg.2.1))))
  obtain ⟨F3, rfl⟩ : ∃ F3, F2 = F3 + 1 := ⟨F2 - 1, by omega⟩
  obtain ⟨F4, rfl⟩ : ∃ F4, F3 = F4 + 1 := ⟨F3 - 1, by omega⟩
  have off : ∀ e q g3, ERR e q g3 → ∀ r, vFn (vM MT0 (D + 7)) nb_X11_load F4 10 0 [vR 452, vI 627] [] g3 = r → vc3 (bv (g3 452 20)) (bv 0) (vFn (vM MT0 (D + 7)) nb_X11_load (F4 + 1) 5 0 [vR 452, vI 627] [] g3) (vFn (vM MT0 (D + 7)) nb_X11_load (F4 + 1) 4 0 [vR 452, vI 627] [] g3) (vFn (vM MT0 (D + 7)) nb_X11_load (F4 + 1) 5 0 [vR 452, vI 627] [] g3) = r := fun e q g3 hg r hr => (by (first | (refine (vne (by rw [hg.1]; exact hg.2.2.2) (by decide) (by rw [hg.1]; exact hg.2.2.1)).trans ?_) | (refine (vF_g rfl rfl).trans ?_; refine (vF_g rfl rfl).trans ?_; refine (vne (by rw [hg.1]; exact hg.2.2.2) (by decide) (by rw [hg.1]; exact hg.2.2.1)).trans ?_) | (refine (vF_g rfl rfl).trans ?_; refine (vne (by rw [hg.1]; exact hg.2.2.2) (by decide) (by rw [hg.1]; exact hg.2.2.1)).trans ?_)); (first | (refine (vne (by rw [hg.1]; exact hg.2.2.2) (by decide) (by rw [hg.1]; exact hg.2.2.1)).trans ?_) | (refine (vF_g rfl rfl).trans ?_; refine (vF_g rfl rfl).trans ?_; refine (vne (by rw [hg.1]; exact hg.2.2.2) (by decide) (by rw [hg.1]; exact hg.2.2.1)).trans ?_) | (refine (vF_g rfl rfl).trans ?_; refine (vne (by rw [hg.1]; exact hg.2.2.2) (by decide) (by rw [hg.1]; exact hg.2.2.1)).trans ?_)); (first | (exact hr) | (refine (vF_g rfl rfl).trans ?_; refine (vF_g rfl rfl).trans ?_; exact hr) | (refine (vF_g rfl rfl).trans ?_; exact hr)))
  unfold oCfg
  obtain ⟨w1, w2⟩ := v_keyword (D := D + 3) (w := 21) h0 (by decide) (by decide) (by decide)
  have es : oSeason T 0 = oW T 21 0 fun p => oN T p 1 30 fun p => oS T p fun p => (0, p) := rfl
  by_cases k1 : wOKc T 21 0
  rotate_left
  · rw [oW_1 k1] at es
    rw [es, if_neg n01]
    obtain ⟨g1, a1, hg, _⟩ := w2 k1
    have hg3 : ERR 1 (tS T 0) (vup g1 453 3 1) := err_up hg (Or.inl (by decide))
    obtain ⟨g', b1, b2⟩ := bad _ F4 _ _ (by omega) hg3
    exact ⟨fun w => absurd w n01, fun _ => ⟨g', s0 _ (ld_3 a1 (e_number hg) (e_semi hg3) (off _ _ _ hg3 _ b1)), b2⟩⟩
  rw [oW_0 k1] at es
  obtain ⟨g1, a1, r1, fr3⟩ := w1 k1
  obtain ⟨u1, u2⟩ := v_numR (D := D + 4) (lo := 1) (hi := 30) r1 (by decide) (by decide)
  by_cases k2 : nuC T (tE T 0) 1 30 = 0
  rotate_left
  · rw [oN_1 k2] at es
    rw [es, if_neg k2]
    obtain ⟨g2, a2, hg⟩ := u2 k2
    have hg3 : ERR (nuC T (tE T 0) 1 30) (tS T (tE T 0)) (vup g2 453 3 1) := err_up hg (Or.inl (by decide))
    obtain ⟨g', b1, b2⟩ := bad _ F4 _ _ (by omega) hg3
    exact ⟨fun w => absurd w k2, fun _ => ⟨g', s0 _ (ld_3 a1 a2 (e_semi hg3) (off _ _ _ hg3 _ b1)), b2⟩⟩
  rw [oN_0 k2] at es
  obtain ⟨g2, a2, r2, fr4, _⟩ := u1 k2
  have r3 : RS n T (fun _ _ => 0) (fun _ _ => 0) 0 0 (tE T (tE T 0)) (vup g2 453 3 (tV T (tE T 0))) := rs_lo r2 (by decide) (by decide)
  obtain ⟨y1, y2⟩ := v_semiR (D := D + 4) r3
  by_cases k3 : tK T (tE T (tE T 0)) = 3
  rotate_left
  · rw [oS_1 k3] at es
    rw [es, if_neg n01]
    obtain ⟨g3, a3, hg3⟩ := y2 k3
    obtain ⟨g', b1, b2⟩ := bad _ F4 _ _ (by omega) hg3
    exact ⟨fun w => absurd w n01, fun _ => ⟨g', s0 _ (ld_3 a1 a2 a3 (off _ _ _ hg3 _ b1)), b2⟩⟩
  rw [oS_0 k3] at es
  obtain ⟨g3, a3, r4, fr5⟩ := y1 k3
  rw [es, if_pos rfl]
  have z5 : g3 453 4 = 0 := (fr5 _ _ (by decide)).trans ((vup_ne (Or.inr (by decide))).trans ((fr4 _ _ (by decide)).trans ((fr3 _ _ (by decide)).trans z4)))
  obtain ⟨x1, x2⟩ := v_fogR (D := D + 2) r4 z5
  have s4 : ∀ r, vFn (vM MT0 (D + 7)) nb_X11_load (F4 + 1) 4 0 [vR 452, vI 627] [] g3 = r → vM MT0 (D + 8) 252 [vR 452] f = r := fun r hr => s0 _ (ld_3 a1 a2 a3 ((by (first | (refine (veq r4.er.1).trans ?_) | (refine (vF_g rfl rfl).trans ?_; refine (vF_g rfl rfl).trans ?_; refine (veq r4.er.1).trans ?_) | (refine (vF_g rfl rfl).trans ?_; refine (veq r4.er.1).trans ?_)); (first | (exact hr) | (refine (vF_g rfl rfl).trans ?_; refine (vF_g rfl rfl).trans ?_; exact hr) | (refine (vF_g rfl rfl).trans ?_; exact hr)))))
  obtain ⟨F5, rfl⟩ : ∃ F5, F4 = F5 + 1 := ⟨F4 - 1, by omega⟩
  show ((if (oFog T (tE T (tE T (tE T 0)))).1 = 0 then oAll T 901 0 0 (fun _ _ => 0) (fun _ _ => 0) (oFog T (tE T (tE T (tE T 0)))).2 else (oFog T (tE T (tE T (tE T 0))), (0, 0), (fun _ _ => 0, fun _ _ => 0))).1.1 = 0 → _) ∧ _
  by_cases k4 : (oFog T (tE T (tE T (tE T 0)))).1 = 0
  · rw [if_pos k4]
    obtain ⟨g4, a4, r5⟩ := x1 k4
    obtain ⟨g5, F', c1, c2, c3, c4⟩ := v_allR (D := D) 901 0 0 _ (F5 + 1) _ _ g4 (by omega) (by omega) r5
    refine ⟨fun w => ?_, fun w => ?_⟩
    · obtain ⟨p', r6⟩ := c3 w
      obtain ⟨g', b1, b2, b3, b4, b5⟩ := fine g5 F' c1 r6.er.1
      rw [r6.c0] at b1
      exact ⟨g', p', s4 _ ((by (first | (refine (vbnd_1 a4).trans ?_) | (refine (vF_g rfl rfl).trans ?_; refine (vF_g rfl rfl).trans ?_; refine (vbnd_1 a4).trans ?_) | (refine (vF_g rfl rfl).trans ?_; refine (vbnd_1 a4).trans ?_)); refine c2.trans ?_; (first | (exact b1) | (refine (vF_g rfl rfl).trans ?_; refine (vF_g rfl rfl).trans ?_; exact b1) | (refine (vF_g rfl rfl).trans ?_; exact b1)))), b2, b3, b4.trans r6.er.2, g5, r6, b5⟩
    · obtain ⟨g', b1, b2⟩ := bad g5 F' _ _ c1 (c4 w)
      exact ⟨g', s4 _ ((by (first | (refine (vbnd_1 a4).trans ?_) | (refine (vF_g rfl rfl).trans ?_; refine (vF_g rfl rfl).trans ?_; refine (vbnd_1 a4).trans ?_) | (refine (vF_g rfl rfl).trans ?_; refine (vbnd_1 a4).trans ?_)); refine c2.trans ?_; (first | (exact b1) | (refine (vF_g rfl rfl).trans ?_; refine (vF_g rfl rfl).trans ?_; exact b1) | (refine (vF_g rfl rfl).trans ?_; exact b1)))), b2⟩
  · rw [if_neg k4]
    obtain ⟨g4, a4, hg⟩ := x2 k4
    obtain ⟨g', b1, b2⟩ := bad g4 F5 _ _ (by omega) hg
    exact ⟨fun w => absurd w k4, fun _ => ⟨g', s4 _ ((by (first | (refine (vbnd_1 a4).trans ?_) | (refine (vF_g rfl rfl).trans ?_; refine (vF_g rfl rfl).trans ?_; refine (vbnd_1 a4).trans ?_) | (refine (vF_g rfl rfl).trans ?_; refine (vbnd_1 a4).trans ?_)); (first | (refine (vne (by rw [hg.1]; exact hg.2.2.2) (by decide) (by rw [hg.1]; exact hg.2.2.1)).trans ?_) | (refine (vF_g rfl rfl).trans ?_; refine (vF_g rfl rfl).trans ?_; refine (vne (by rw [hg.1]; exact hg.2.2.2) (by decide) (by rw [hg.1]; exact hg.2.2.1)).trans ?_) | (refine (vF_g rfl rfl).trans ?_; refine (vne (by rw [hg.1]; exact hg.2.2.2) (by decide) (by rw [hg.1]; exact hg.2.2.1)).trans ?_)); (first | (exact b1) | (refine (vF_g rfl rfl).trans ?_; refine (vF_g rfl rfl).trans ?_; exact b1) | (refine (vF_g rfl rfl).trans ?_; exact b1)))), b2⟩⟩
