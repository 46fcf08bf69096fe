section
/-! the program's parser of configurations, to its end -/
noncomputable def oSeason (T : Nat → Nat) (p : Nat) : Nat × Nat := oW T 21 p fun p => oN T p 1 30 fun p => oS T p fun p => (0, p)
noncomputable def oFogL (T : Nat → Nat) : Nat → Nat → Nat → Nat → Nat × Nat
  | 0, _, q, _ => (4, q)
  | m + 1, i, _, p => if 0 < i ∧ tK T p = 3 then (0, tE T p) else if nuC T p 0 9 = 0 then oFogL T m (i + 1) (tS T p) (tE T p) else (nuC T p 0 9, tS T p)
noncomputable def oFog (T : Nat → Nat) (p : Nat) : Nat × Nat := oW T 27 p fun p => oFogL T 13 0 0 p
theorem n01 {x : Nat} : ¬ ((1, x) : Nat × Nat).1 = 0 := fun w => absurd (show 1 = 0 from w) (by decide)
theorem n41 {x : Nat} : ¬ ((4, x) : Nat × Nat).1 = 0 := fun w => absurd (show 4 = 0 from w) (by decide)
theorem n31 {x : Nat} : ¬ ((3, x) : Nat × Nat).1 = 0 := fun w => absurd (show 3 = 0 from w) (by decide)
variable {B : Vw}
theorem v_word {D w : Nat} {n c d p : Nat} {T : Nat → Nat} {E V : Nat → Nat → Nat} {f : Vw} (h : VCS n T E V c d p f) (h0 : OK0 B f) (hw1 : 20 ≤ w) (hw2 : w ≤ 30) : (wOKc T w p → ∃ g, vM MT0 (D + 3) 51 [vR 446, vW w] f = some ((0, 0), vI 1, g) ∧ VCS n T E V c d (tE T p) g ∧ OK0 B g ∧ g 446 3 = tS T p ∧ ∀ a b, a ≠ 446 → g a b = f a b) ∧ (¬ wOKc T w p → ∃ g, vM MT0 (D + 3) 51 [vR 446, vW w] f = some ((0, 0), vI 0, g) ∧ ER B 1 (tS T p) g) := by
  obtain ⟨w1, w2⟩ := v_takeWord (D := D) hw1 hw2 h.tx h.at_ h.le
  exact ⟨fun k => ⟨_, w1 k, cs_tk h, ok_tk h0, tkq_3, fun _ _ w => tk9_o w⟩, fun k => ⟨_, w2 k, er_tk h0⟩⟩
theorem v_season {D : Nat} {n c d p : Nat} {T : Nat → Nat} {E V : Nat → Nat → Nat} {f : Vw} (h : VCS n T E V c d p f) (h0 : OK0 B f) : ((oSeason T p).1 = 0 → ∃ g, vM MT0 (D + 4) 14 [vR 447] f = some ((0, 0), vI 1, g) ∧ VCS n T E V c d (oSeason T p).2 g ∧ OK0 B g) ∧ ((oSeason T p).1 ≠ 0 → ∃ g, vM MT0 (D + 4) 14 [vR 447] f = some ((0, 0), vI 0, g) ∧ ER B (oSeason T p).1 (oSeason T p).2 g) := by
  unfold oSeason
  obtain ⟨w1, w2⟩ := v_word (D := D) (w := 21) h h0 (by decide) (by decide)
  by_cases k1 : wOKc T 21 p
  rotate_left
  · rw [oW_1 k1]
    obtain ⟨g, e, hg⟩ := w2 k1
    exact ⟨fun w => absurd w n01, fun _ => ⟨g, vM_go rfl rfl rfl rfl fun F hF => (by (first | (refine (vbnd_0 e).trans ?_) | (refine (vF_g rfl rfl).trans ?_; refine (vF_g rfl rfl).trans ?_; refine (vbnd_0 e).trans ?_) | (refine (vF_g rfl rfl).trans ?_; refine (vbnd_0 e).trans ?_)); (first | (refine (veq (x := 0) (y := 0) rfl).trans ?_) | (refine (vF_g rfl rfl).trans ?_; refine (vF_g rfl rfl).trans ?_; refine (veq (x := 0) (y := 0) rfl).trans ?_) | (refine (vF_g rfl rfl).trans ?_; refine (veq (x := 0) (y := 0) rfl).trans ?_)); (first | (exact rfl) | (refine (vF_g rfl rfl).trans ?_; refine (vF_g rfl rfl).trans ?_; exact rfl) | (refine (vF_g rfl rfl).trans ?_; refine (vF_g rfl rfl).trans ?_; refine (vF_g rfl rfl).trans ?_; exact rfl) | (refine (vF_g rfl rfl).trans ?_; exact rfl))), hg⟩⟩
  rw [oW_0 k1]
  obtain ⟨g1, e1, c1, o1, _, _⟩ := w1 k1
  obtain ⟨u1, u2⟩ := v_num (D := D) (lo := 1) (hi := 30) c1 o1 (by decide) (by decide)
  by_cases k2 : nuC T (tE T p) 1 30 = 0
  rotate_left
  · rw [oN_1 k2]
    obtain ⟨g, e, hg, _⟩ := u2 k2
    exact ⟨fun w => absurd w k2, fun _ => ⟨g, vM_go rfl rfl rfl rfl fun F hF => (by (first | (refine (vbnd_0 e1).trans ?_) | (refine (vF_g rfl rfl).trans ?_; refine (vF_g rfl rfl).trans ?_; refine (vbnd_0 e1).trans ?_) | (refine (vF_g rfl rfl).trans ?_; refine (vbnd_0 e1).trans ?_)); (first | (refine (vgt (x := 1) (y := 0) (by decide) (by decide)).trans ?_) | (refine (vF_g rfl rfl).trans ?_; refine (vF_g rfl rfl).trans ?_; refine (vgt (x := 1) (y := 0) (by decide) (by decide)).trans ?_) | (refine (vF_g rfl rfl).trans ?_; refine (vgt (x := 1) (y := 0) (by decide) (by decide)).trans ?_)); (first | (refine (vbnd_0 e).trans ?_) | (refine (vF_g rfl rfl).trans ?_; refine (vF_g rfl rfl).trans ?_; refine (vbnd_0 e).trans ?_) | (refine (vF_g rfl rfl).trans ?_; refine (vbnd_0 e).trans ?_)); (first | (refine (veq (x := 0) (y := 0) rfl).trans ?_) | (refine (vF_g rfl rfl).trans ?_; refine (vF_g rfl rfl).trans ?_; refine (veq (x := 0) (y := 0) rfl).trans ?_) | (refine (vF_g rfl rfl).trans ?_; refine (veq (x := 0) (y := 0) rfl).trans ?_)); (first | (exact rfl) | (refine (vF_g rfl rfl).trans ?_; refine (vF_g rfl rfl).trans ?_; exact rfl) | (refine (vF_g rfl rfl).trans ?_; refine (vF_g rfl rfl).trans ?_; refine (vF_g rfl rfl).trans ?_; exact rfl) | (refine (vF_g rfl rfl).trans ?_; exact rfl))), hg⟩⟩
  rw [oN_0 k2]
  obtain ⟨g2, e2, c2, o2, _, _⟩ := u1 k2
  have c3 : VCS n T E V c d (tE T (tE T p)) (vup g2 85 0 (g2 446 5)) := by
    have := c2.c9
    have := c2.d9
    exact cs_up c2 (by decide) (by decide) (fun _ => ⟨fun j hj => by omega, fun j hj => by omega⟩)
  obtain ⟨y1, y2⟩ := v_semi (D := D) c3 (ok_up o2 (by decide))
  have s : ∀ r, vM MT0 (D + 3) 52 [vR 446] (vup g2 85 0 (g2 446 5)) = r → ∀ b g, b = 0 ∨ b = 1 → r = some ((0, 0), vI b, g) → vM MT0 (D + 4) 14 [vR 447] f = some ((0, 0), vI b, g) := by
    intro r hr b g h9 hb
    rcases h9 with rfl | rfl
    · refine vM_go rfl rfl rfl rfl fun F hF => ?_
      (first | (refine (vbnd_0 e1).trans ?_) | (refine (vF_g rfl rfl).trans ?_; refine (vF_g rfl rfl).trans ?_; refine (vbnd_0 e1).trans ?_) | (refine (vF_g rfl rfl).trans ?_; refine (vbnd_0 e1).trans ?_))
      (first | (refine (vgt (x := 1) (y := 0) (by decide) (by decide)).trans ?_) | (refine (vF_g rfl rfl).trans ?_; refine (vF_g rfl rfl).trans ?_; refine (vgt (x := 1) (y := 0) (by decide) (by decide)).trans ?_) | (refine (vF_g rfl rfl).trans ?_; refine (vgt (x := 1) (y := 0) (by decide) (by decide)).trans ?_))
      (first | (refine (vbnd_0 e2).trans ?_) | (refine (vF_g rfl rfl).trans ?_; refine (vF_g rfl rfl).trans ?_; refine (vbnd_0 e2).trans ?_) | (refine (vF_g rfl rfl).trans ?_; refine (vbnd_0 e2).trans ?_))
      (first | (refine (vgt (x := 1) (y := 0) (by decide) (by decide)).trans ?_) | (refine (vF_g rfl rfl).trans ?_; refine (vF_g rfl rfl).trans ?_; refine (vgt (x := 1) (y := 0) (by decide) (by decide)).trans ?_) | (refine (vF_g rfl rfl).trans ?_; refine (vgt (x := 1) (y := 0) (by decide) (by decide)).trans ?_))
      (first | (refine (vbnd_0 (hr.trans hb)).trans ?_) | (refine (vF_g rfl rfl).trans ?_; refine (vF_g rfl rfl).trans ?_; refine (vbnd_0 (hr.trans hb)).trans ?_) | (refine (vF_g rfl rfl).trans ?_; refine (vbnd_0 (hr.trans hb)).trans ?_))
      (first | (exact rfl) | (refine (vF_g rfl rfl).trans ?_; refine (vF_g rfl rfl).trans ?_; exact rfl) | (refine (vF_g rfl rfl).trans ?_; refine (vF_g rfl rfl).trans ?_; refine (vF_g rfl rfl).trans ?_; exact rfl) | (refine (vF_g rfl rfl).trans ?_; exact rfl))
    · refine vM_go rfl rfl rfl rfl fun F hF => ?_
      (first | (refine (vbnd_0 e1).trans ?_) | (refine (vF_g rfl rfl).trans ?_; refine (vF_g rfl rfl).trans ?_; refine (vbnd_0 e1).trans ?_) | (refine (vF_g rfl rfl).trans ?_; refine (vbnd_0 e1).trans ?_))
      (first | (refine (vgt (x := 1) (y := 0) (by decide) (by decide)).trans ?_) | (refine (vF_g rfl rfl).trans ?_; refine (vF_g rfl rfl).trans ?_; refine (vgt (x := 1) (y := 0) (by decide) (by decide)).trans ?_) | (refine (vF_g rfl rfl).trans ?_; refine (vgt (x := 1) (y := 0) (by decide) (by decide)).trans ?_))
      (first | (refine (vbnd_0 e2).trans ?_) | (refine (vF_g rfl rfl).trans ?_; refine (vF_g rfl rfl).trans ?_; refine (vbnd_0 e2).trans ?_) | (refine (vF_g rfl rfl).trans ?_; refine (vbnd_0 e2).trans ?_))
      (first | (refine (vgt (x := 1) (y := 0) (by decide) (by decide)).trans ?_) | (refine (vF_g rfl rfl).trans ?_; refine (vF_g rfl rfl).trans ?_; refine (vgt (x := 1) (y := 0) (by decide) (by decide)).trans ?_) | (refine (vF_g rfl rfl).trans ?_; refine (vgt (x := 1) (y := 0) (by decide) (by decide)).trans ?_))
      (first | (refine (vbnd_0 (hr.trans hb)).trans ?_) | (refine (vF_g rfl rfl).trans ?_; refine (vF_g rfl rfl).trans ?_; refine (vbnd_0 (hr.trans hb)).trans ?_) | (refine (vF_g rfl rfl).trans ?_; refine (vbnd_0 (hr.trans hb)).trans ?_))
      (first | (exact rfl) | (refine (vF_g rfl rfl).trans ?_; refine (vF_g rfl rfl).trans ?_; exact rfl) | (refine (vF_g rfl rfl).trans ?_; refine (vF_g rfl rfl).trans ?_; refine (vF_g rfl rfl).trans ?_; exact rfl) | (refine (vF_g rfl rfl).trans ?_; exact rfl))
  by_cases k3 : tK T (tE T (tE T p)) = 3
  · rw [oS_0 k3]
    obtain ⟨g, e, hg, og, _⟩ := y1 k3
    exact ⟨fun _ => ⟨g, s _ e _ _ (Or.inr rfl) rfl, hg, og⟩, fun w => absurd rfl w⟩
  · rw [oS_1 k3]
    obtain ⟨g, e, hg, _⟩ := y2 k3
    exact ⟨fun w => absurd w n01, fun _ => ⟨g, s _ e _ _ (Or.inl rfl) rfl, hg⟩⟩
theorem v_chk9 {D n p lo hi : Nat} {T : Nat → Nat} {f : Vw} (hx : TxC f n T) (hp : p ≤ n) (hlo : lo < 10000) (hhi : hi < 10000) : (nuC T p lo hi = 0 → vM MT0 (D + 2) 56 [vR 446, vI lo, vI hi] (tk9 f T p) = some ((0, 0), vI 1, tk9 f T p)) ∧ (nuC T p lo hi ≠ 0 → vM MT0 (D + 2) 56 [vR 446, vI lo, vI hi] (tk9 f T p) = some ((0, 0), vI 0, fl (nuC T p lo hi) (tk9 f T p))) := by
  obtain ⟨a1, a2⟩ := tS_le hx.2.2.2.2 hp
  obtain ⟨b1, b2⟩ := tE_le hx.2.2.2.2 hp
  have hn := hx.1
  have hk : tK T p ≤ 5 := kd9_l _
  have e := v_checkNumber (D := D) (f := tk9 f T p) (lo := lo) (hi := hi) (by rw [tkq_2]; omega) (by rw [tkq_4]; omega) (fun c1 c2 => by rw [tkq_2] at c1; rw [tkq_4] at c2; rw [tkq_5]; have := tV_4 c1 c2; omega) (by omega) (by omega)
  rw [tkq_2, tkq_4, tkq_5] at e
  unfold nuC
  by_cases c1 : tK T p = 2 ∧ tE T p - tS T p ≤ 4
  · rw [if_pos c1] at e ⊢
    by_cases c2 : lo ≤ tV T p ∧ tV T p ≤ hi
    · rw [if_pos c2] at e ⊢
      exact ⟨fun _ => e, fun h => absurd rfl h⟩
    · rw [if_neg c2] at e ⊢
      exact ⟨fun h => (by cases h), fun _ => e⟩
  · rw [if_neg c1] at e ⊢
    exact ⟨fun h => (by cases h), fun _ => e⟩
theorem v_addLevel {D i x : Nat} {f : Vw} (hi : f 85 2 = i) (h9 : i ≤ 12) : ∃ g, vM MT0 (D + 1) 43 [vR 85, vI x] f = some ((1, 0), vW 3, g) ∧ (i < 12 → g 85 2 = i + 1) ∧ ∀ a b, a ≠ 85 → a ≠ 86 → g a b = f a b := by
  by_cases q : i < 12
  · refine ⟨vup (vup f 86 (f 85 2) x) 85 2 ((vup f 86 (f 85 2) x 85 2 + 1) % 4294967296), ?_, fun _ => ?_, fun a b h1 h2 => (vup_ne (Or.inl h1)).trans (vup_ne (Or.inl h2))⟩
    · refine vM_go rfl rfl rfl rfl fun F hF => ?_
      (first | (refine (vlt (x := f 85 2) (y := 12) (by decide) (by rw [hi]; exact q)).trans ?_) | (refine (vF_g rfl rfl).trans ?_; refine (vF_g rfl rfl).trans ?_; refine (vlt (x := f 85 2) (y := 12) (by decide) (by rw [hi]; exact q)).trans ?_) | (refine (vF_g rfl rfl).trans ?_; refine (vlt (x := f 85 2) (y := 12) (by decide) (by rw [hi]; exact q)).trans ?_))
      (first | (refine Eq.trans (b := gd (Nat.ble (f 85 2 + 1) 12) (vFn (vM MT0 D) nb_X6_addLevel (F + 58) 2 0 (iniL 2 [vR 85, vI x]) [] (vup (vup f 86 (f 85 2) x) 85 2 ((vup f 86 (f 85 2) x 85 2 + 1) % 4294967296)))) rfl ?_) | (refine (vF_g rfl rfl).trans ?_; refine (vF_g rfl rfl).trans ?_; refine Eq.trans (b := gd (Nat.ble (f 85 2 + 1) 12) (vFn (vM MT0 D) nb_X6_addLevel (F + 58) 2 0 (iniL 2 [vR 85, vI x]) [] (vup (vup f 86 (f 85 2) x) 85 2 ((vup f 86 (f 85 2) x 85 2 + 1) % 4294967296)))) rfl ?_) | (refine (vF_g rfl rfl).trans ?_; refine Eq.trans (b := gd (Nat.ble (f 85 2 + 1) 12) (vFn (vM MT0 D) nb_X6_addLevel (F + 58) 2 0 (iniL 2 [vR 85, vI x]) [] (vup (vup f 86 (f 85 2) x) 85 2 ((vup f 86 (f 85 2) x 85 2 + 1) % 4294967296)))) rfl ?_))
      rw [Nat.ble_eq_true_of_le (show f 85 2 + 1 ≤ 12 by omega)]
      (first | (exact rfl) | (refine (vF_g rfl rfl).trans ?_; refine (vF_g rfl rfl).trans ?_; exact rfl) | (refine (vF_g rfl rfl).trans ?_; refine (vF_g rfl rfl).trans ?_; refine (vF_g rfl rfl).trans ?_; exact rfl) | (refine (vF_g rfl rfl).trans ?_; exact rfl))
    · rw [vup_eq, vup_ne (f := f) (show (85 : Nat) ≠ 86 ∨ (2 : Nat) ≠ f 85 2 from Or.inl (by decide)), hi, Nat.mod_eq_of_lt (by omega)]
  · exact ⟨f, vM_go rfl rfl rfl rfl fun F hF => (by (first | (refine (vge2 (x := f 85 2) (y := 12) (by omega) (by omega)).trans ?_) | (refine (vF_g rfl rfl).trans ?_; refine (vF_g rfl rfl).trans ?_; refine (vge2 (x := f 85 2) (y := 12) (by omega) (by omega)).trans ?_) | (refine (vF_g rfl rfl).trans ?_; refine (vge2 (x := f 85 2) (y := 12) (by omega) (by omega)).trans ?_)); (first | (exact rfl) | (refine (vF_g rfl rfl).trans ?_; refine (vF_g rfl rfl).trans ?_; exact rfl) | (refine (vF_g rfl rfl).trans ?_; refine (vF_g rfl rfl).trans ?_; refine (vF_g rfl rfl).trans ?_; exact rfl) | (refine (vF_g rfl rfl).trans ?_; exact rfl))), fun w => absurd w q, fun _ _ _ _ => rfl⟩
theorem v_fogL {D n c d : Nat} {T : Nat → Nat} {E V : Nat → Nat → Nat} : ∀ (m i p q F : Nat) (f : Vw), i + m = 13 → 5 * m + 5 ≤ F → VCS n T E V c d p f → OK0 B f → f 446 3 = q → (i ≤ 12 → f 85 2 = i) → (((oFogL T m i q p).1 = 0 → ∃ g, vFn (vM MT0 (D + 3)) nb_X2_takeFog F 3 0 [vR 447, vI i] [] f = some ((0, 0), vI 1, g) ∧ VCS n T E V c d (oFogL T m i q p).2 g ∧ OK0 B g) ∧ ((oFogL T m i q p).1 ≠ 0 → ∃ g, vFn (vM MT0 (D + 3)) nb_X2_takeFog F 3 0 [vR 447, vI i] [] f = some ((0, 0), vI 0, g) ∧ ER B (oFogL T m i q p).1 (oFogL T m i q p).2 g)) := by
  intro m
  induction m with
  | zero =>
    intro i p q F f hi hF h h0 hq _
    obtain ⟨F1, rfl⟩ : ∃ F1, F = F1 + 3 := ⟨F - 3, by omega⟩
    exact ⟨fun w => absurd w n41, fun _ => ⟨fl 4 f, (by (first | (refine (vgt (x := i) (y := 12) (by omega) (by omega)).trans ?_) | (refine (vF_g rfl rfl).trans ?_; refine (vF_g rfl rfl).trans ?_; refine (vgt (x := i) (y := 12) (by omega) (by omega)).trans ?_) | (refine (vF_g rfl rfl).trans ?_; refine (vgt (x := i) (y := 12) (by omega) (by omega)).trans ?_)); (first | (refine (vbnd_0 v_fail9).trans ?_) | (refine (vF_g rfl rfl).trans ?_; refine (vF_g rfl rfl).trans ?_; refine (vbnd_0 v_fail9).trans ?_) | (refine (vF_g rfl rfl).trans ?_; refine (vbnd_0 v_fail9).trans ?_)); (first | (exact rfl) | (refine (vF_g rfl rfl).trans ?_; refine (vF_g rfl rfl).trans ?_; exact rfl) | (refine (vF_g rfl rfl).trans ?_; refine (vF_g rfl rfl).trans ?_; refine (vF_g rfl rfl).trans ?_; exact rfl) | (refine (vF_g rfl rfl).trans ?_; exact rfl))), er_fl hq h0⟩⟩
  | succ m ih =>
    intro i p q F f hi hF h h0 hq hl
    obtain ⟨F1, rfl⟩ : ∃ F1, F = F1 + 4 := ⟨F - 4, by omega⟩
    have c1 := cs_tk h
    have o1 := ok_tk (p := p) (T := T) h0
    have s1 : ∀ r, vFn (vM MT0 (D + 3)) nb_X2_takeFog (F1 + 3) 4 0 [vR 447, vI i] [] f = r → vFn (vM MT0 (D + 3)) nb_X2_takeFog (F1 + 4) 3 0 [vR 447, vI i] [] f = r := fun r hr => (by (first | (refine (vle2 (x := i) (y := 12) (by decide) (by omega)).trans ?_) | (refine (vF_g rfl rfl).trans ?_; refine (vF_g rfl rfl).trans ?_; refine (vle2 (x := i) (y := 12) (by decide) (by omega)).trans ?_) | (refine (vF_g rfl rfl).trans ?_; refine (vle2 (x := i) (y := 12) (by decide) (by omega)).trans ?_)); (first | (exact hr) | (refine (vF_g rfl rfl).trans ?_; refine (vF_g rfl rfl).trans ?_; exact hr) | (refine (vF_g rfl rfl).trans ?_; exact hr)))
    have s7 : ¬ (0 < i ∧ tK T p = 3) → ∃ F2, F1 ≤ F2 ∧ ∀ r, vFn (vM MT0 (D + 3)) nb_X2_takeFog (F2 + 1) 7 0 [vR 447, vI i] [] (tk9 f T p) = r → vFn (vM MT0 (D + 3)) nb_X2_takeFog (F1 + 4) 3 0 [vR 447, vI i] [] f = r := by
      intro hn
      by_cases q0 : 0 < i
      · have hk : tK T p ≠ 3 := fun w => hn ⟨q0, w⟩
        have hk9 : tK T p ≤ 5 := kd9_l _
        exact ⟨F1, by omega, fun r hr => s1 r ((by (first | (refine (vbnd_1 (v_next9 h.tx h.at_ h.le)).trans ?_) | (refine (vF_g rfl rfl).trans ?_; refine (vF_g rfl rfl).trans ?_; refine (vbnd_1 (v_next9 h.tx h.at_ h.le)).trans ?_) | (refine (vF_g rfl rfl).trans ?_; refine (vbnd_1 (v_next9 h.tx h.at_ h.le)).trans ?_)); (first | (refine (vgt (x := i) (y := 0) (by omega) q0).trans ?_) | (refine (vF_g rfl rfl).trans ?_; refine (vF_g rfl rfl).trans ?_; refine (vgt (x := i) (y := 0) (by omega) q0).trans ?_) | (refine (vF_g rfl rfl).trans ?_; refine (vgt (x := i) (y := 0) (by omega) q0).trans ?_)); (first | (refine (vne (x := tk9 f T p 446 2) (y := 3) (show tk9 f T p 446 2 < 4294967296 by rw [tkq_2]; omega) (by decide) (by rw [tkq_2]; exact hk)).trans ?_) | (refine (vF_g rfl rfl).trans ?_; refine (vF_g rfl rfl).trans ?_; refine (vne (x := tk9 f T p 446 2) (y := 3) (show tk9 f T p 446 2 < 4294967296 by rw [tkq_2]; omega) (by decide) (by rw [tkq_2]; exact hk)).trans ?_) | (refine (vF_g rfl rfl).trans ?_; refine (vne (x := tk9 f T p 446 2) (y := 3) (show tk9 f T p 446 2 < 4294967296 by rw [tkq_2]; omega) (by decide) (by rw [tkq_2]; exact hk)).trans ?_)); (first | (exact hr) | (refine (vF_g rfl rfl).trans ?_; refine (vF_g rfl rfl).trans ?_; exact hr) | (refine (vF_g rfl rfl).trans ?_; exact hr))))⟩
      · have e0 : i = 0 := by omega
        subst e0
        exact ⟨F1 + 1, by omega, fun r hr => s1 r ((by (first | (refine (vbnd_1 (v_next9 h.tx h.at_ h.le)).trans ?_) | (refine (vF_g rfl rfl).trans ?_; refine (vF_g rfl rfl).trans ?_; refine (vbnd_1 (v_next9 h.tx h.at_ h.le)).trans ?_) | (refine (vF_g rfl rfl).trans ?_; refine (vbnd_1 (v_next9 h.tx h.at_ h.le)).trans ?_)); (first | (refine (veq (x := 0) (y := 0) rfl).trans ?_) | (refine (vF_g rfl rfl).trans ?_; refine (vF_g rfl rfl).trans ?_; refine (veq (x := 0) (y := 0) rfl).trans ?_) | (refine (vF_g rfl rfl).trans ?_; refine (veq (x := 0) (y := 0) rfl).trans ?_)); (first | (exact hr) | (refine (vF_g rfl rfl).trans ?_; refine (vF_g rfl rfl).trans ?_; exact hr) | (refine (vF_g rfl rfl).trans ?_; exact hr))))⟩
    by_cases k0 : 0 < i ∧ tK T p = 3
    · have e : oFogL T (m + 1) i q p = (0, tE T p) := if_pos k0
      rw [e]
      exact ⟨fun _ => ⟨_, s1 _ ((by (first | (refine (vbnd_1 (v_next9 h.tx h.at_ h.le)).trans ?_) | (refine (vF_g rfl rfl).trans ?_; refine (vF_g rfl rfl).trans ?_; refine (vbnd_1 (v_next9 h.tx h.at_ h.le)).trans ?_) | (refine (vF_g rfl rfl).trans ?_; refine (vbnd_1 (v_next9 h.tx h.at_ h.le)).trans ?_)); (first | (refine (vgt (x := i) (y := 0) (by omega) k0.1).trans ?_) | (refine (vF_g rfl rfl).trans ?_; refine (vF_g rfl rfl).trans ?_; refine (vgt (x := i) (y := 0) (by omega) k0.1).trans ?_) | (refine (vF_g rfl rfl).trans ?_; refine (vgt (x := i) (y := 0) (by omega) k0.1).trans ?_)); (first | (refine (veq (show tk9 f T p 446 2 = 3 from tkq_2.trans k0.2)).trans ?_) | (refine (vF_g rfl rfl).trans ?_; refine (vF_g rfl rfl).trans ?_; refine (veq (show tk9 f T p 446 2 = 3 from tkq_2.trans k0.2)).trans ?_) | (refine (vF_g rfl rfl).trans ?_; refine (veq (show tk9 f T p 446 2 = 3 from tkq_2.trans k0.2)).trans ?_)); (first | (exact rfl) | (refine (vF_g rfl rfl).trans ?_; refine (vF_g rfl rfl).trans ?_; exact rfl) | (refine (vF_g rfl rfl).trans ?_; refine (vF_g rfl rfl).trans ?_; refine (vF_g rfl rfl).trans ?_; exact rfl) | (refine (vF_g rfl rfl).trans ?_; exact rfl)))), c1, o1⟩, fun w => absurd rfl w⟩
    obtain ⟨F2, hF2, s2⟩ := s7 k0
    obtain ⟨u1, u2⟩ := v_chk9 (D := D + 1) (lo := 0) (hi := 9) h.tx h.le (by decide) (by decide)
    by_cases k1 : nuC T p 0 9 = 0
    · have e : oFogL T (m + 1) i q p = oFogL T m (i + 1) (tS T p) (tE T p) := (if_neg k0).trans (if_pos k1)
      rw [e]
      obtain ⟨g, eg, lg, fg⟩ := v_addLevel (D := D + 2) (i := i) (x := tk9 f T p 446 5) (f := tk9 f T p) ((tk9_o (by decide)).trans (hl (by omega))) (by omega)
      have cg : VCS n T E V c d (tE T p) g := by
        have h1 := c1.c9
        have h2 := c1.d9
        exact cs_of c1 (fun _ => fg _ _ (by decide) (by decide)) (fun _ => fg _ _ (by decide) (by decide)) ((fg _ _ (by decide) (by decide)).trans c1.at_) c1.le (fg _ _ (by decide) (by decide)) (fg _ _ (by decide) (by decide)) (fun j hj i _ => fg _ _ (by omega) (by omega)) (fun j hj i _ => fg _ _ (by omega) (by omega))
      have og : OK0 B g := ok_of o1 (fg _ _ (by decide) (by decide)) (fg _ _ (by decide) (by decide)) (fun k i hk _ => fg _ _ (by omega) (by omega))
      obtain ⟨F3, rfl⟩ : ∃ F3, F2 = F3 + 1 := ⟨F2 - 1, by omega⟩
      have s3 : ∀ r, vFn (vM MT0 (D + 3)) nb_X2_takeFog F3 3 0 [vR 447, vI (i + 1)] [] g = r → vFn (vM MT0 (D + 3)) nb_X2_takeFog (F1 + 4) 3 0 [vR 447, vI i] [] f = r := by
        intro r hr
        refine s2 r ?_
        (first | (refine (vbnd_0 (u1 k1)).trans ?_) | (refine (vF_g rfl rfl).trans ?_; refine (vF_g rfl rfl).trans ?_; refine (vbnd_0 (u1 k1)).trans ?_) | (refine (vF_g rfl rfl).trans ?_; refine (vbnd_0 (u1 k1)).trans ?_))
        (first | (refine (vgt (x := 1) (y := 0) (by decide) (by decide)).trans ?_) | (refine (vF_g rfl rfl).trans ?_; refine (vF_g rfl rfl).trans ?_; refine (vgt (x := 1) (y := 0) (by decide) (by decide)).trans ?_) | (refine (vF_g rfl rfl).trans ?_; refine (vgt (x := 1) (y := 0) (by decide) (by decide)).trans ?_))
        (first | (refine (vbnd_1 eg).trans ?_) | (refine (vF_g rfl rfl).trans ?_; refine (vF_g rfl rfl).trans ?_; refine (vbnd_1 eg).trans ?_) | (refine (vF_g rfl rfl).trans ?_; refine (vbnd_1 eg).trans ?_))
        (first | (refine Eq.trans (b := vFn (vM MT0 (D + 3)) nb_X2_takeFog F3 3 0 [vR 447, vI ((i + 1) % 4294967296)] [] g) rfl ?_) | (refine (vF_g rfl rfl).trans ?_; refine (vF_g rfl rfl).trans ?_; refine Eq.trans (b := vFn (vM MT0 (D + 3)) nb_X2_takeFog F3 3 0 [vR 447, vI ((i + 1) % 4294967296)] [] g) rfl ?_) | (refine (vF_g rfl rfl).trans ?_; refine Eq.trans (b := vFn (vM MT0 (D + 3)) nb_X2_takeFog F3 3 0 [vR 447, vI ((i + 1) % 4294967296)] [] g) rfl ?_))
        rw [Nat.mod_eq_of_lt (show i + 1 < 4294967296 by omega)]
        exact hr
      obtain ⟨t1, t2⟩ := ih (i + 1) (tE T p) (tS T p) F3 g (by omega) (by omega) cg og ((fg _ _ (by decide) (by decide)).trans tkq_3) (fun _ => lg (by omega))
      refine ⟨fun w => ?_, fun w => ?_⟩
      · obtain ⟨g', a, b⟩ := t1 w
        exact ⟨g', s3 _ a, b⟩
      · obtain ⟨g', a, b⟩ := t2 w
        exact ⟨g', s3 _ a, b⟩
    · have e : oFogL T (m + 1) i q p = (nuC T p 0 9, tS T p) := (if_neg k0).trans (if_neg k1)
      rw [e]
      obtain ⟨F3, rfl⟩ : ∃ F3, F2 = F3 + 1 := ⟨F2 - 1, by omega⟩
      exact ⟨fun w => absurd w k1, fun _ => ⟨_, s2 _ ((by (first | (refine (vbnd_0 (u2 k1)).trans ?_) | (refine (vF_g rfl rfl).trans ?_; refine (vF_g rfl rfl).trans ?_; refine (vbnd_0 (u2 k1)).trans ?_) | (refine (vF_g rfl rfl).trans ?_; refine (vbnd_0 (u2 k1)).trans ?_)); (first | (refine (veq (x := 0) (y := 0) rfl).trans ?_) | (refine (vF_g rfl rfl).trans ?_; refine (vF_g rfl rfl).trans ?_; refine (veq (x := 0) (y := 0) rfl).trans ?_) | (refine (vF_g rfl rfl).trans ?_; refine (veq (x := 0) (y := 0) rfl).trans ?_)); (first | (exact rfl) | (refine (vF_g rfl rfl).trans ?_; refine (vF_g rfl rfl).trans ?_; exact rfl) | (refine (vF_g rfl rfl).trans ?_; refine (vF_g rfl rfl).trans ?_; refine (vF_g rfl rfl).trans ?_; exact rfl) | (refine (vF_g rfl rfl).trans ?_; exact rfl)))), er_tk h0⟩⟩
theorem v_fog {D : Nat} {n c d p : Nat} {T : Nat → Nat} {E V : Nat → Nat → Nat} {f : Vw} (h : VCS n T E V c d p f) (h0 : OK0 B f) : ((oFog T p).1 = 0 → ∃ g, vM MT0 (D + 4) 15 [vR 447] f = some ((0, 0), vI 1, g) ∧ VCS n T E V c d (oFog T p).2 g ∧ OK0 B g) ∧ ((oFog T p).1 ≠ 0 → ∃ g, vM MT0 (D + 4) 15 [vR 447] f = some ((0, 0), vI 0, g) ∧ ER B (oFog T p).1 (oFog T p).2 g) := by
  unfold oFog
  have c0 : VCS n T E V c d p (vup f 85 2 0) := by
    have := h.c9
    have := h.d9
    exact cs_up h (by decide) (by decide) (fun _ => ⟨fun j hj => by omega, fun j hj => by omega⟩)
  obtain ⟨w1, w2⟩ := v_word (D := D) (w := 27) c0 (ok_up h0 (by decide)) (by decide) (by decide)
  by_cases k1 : wOKc T 27 p
  rotate_left
  · rw [oW_1 k1]
    obtain ⟨g, e, hg⟩ := w2 k1
    exact ⟨fun w => absurd w n01, fun _ => ⟨g, vM_go rfl rfl rfl rfl fun F hF => (by (first | (refine (vbnd_0 e).trans ?_) | (refine (vF_g rfl rfl).trans ?_; refine (vF_g rfl rfl).trans ?_; refine (vbnd_0 e).trans ?_) | (refine (vF_g rfl rfl).trans ?_; refine (vbnd_0 e).trans ?_)); (first | (refine (veq (x := 0) (y := 0) rfl).trans ?_) | (refine (vF_g rfl rfl).trans ?_; refine (vF_g rfl rfl).trans ?_; refine (veq (x := 0) (y := 0) rfl).trans ?_) | (refine (vF_g rfl rfl).trans ?_; refine (veq (x := 0) (y := 0) rfl).trans ?_)); (first | (exact rfl) | (refine (vF_g rfl rfl).trans ?_; refine (vF_g rfl rfl).trans ?_; exact rfl) | (refine (vF_g rfl rfl).trans ?_; refine (vF_g rfl rfl).trans ?_; refine (vF_g rfl rfl).trans ?_; exact rfl) | (refine (vF_g rfl rfl).trans ?_; exact rfl))), hg⟩⟩
  rw [oW_0 k1]
  obtain ⟨g1, e1, c1, o1, q1, f1⟩ := w1 k1
  obtain ⟨F, hF, go⟩ := vM_at (D := D + 3) (y := 15) (as := [vR 447]) (f := f) rfl rfl rfl rfl
  have s : ∀ r, vFn (vM MT0 (D + 3)) nb_X2_takeFog (F + 58) 3 0 [vR 447, vI 0] [] g1 = r → vM MT0 (D + 4) 15 [vR 447] f = r := fun r hr => go r ((by (first | (refine (vbnd_0 e1).trans ?_) | (refine (vF_g rfl rfl).trans ?_; refine (vF_g rfl rfl).trans ?_; refine (vbnd_0 e1).trans ?_) | (refine (vF_g rfl rfl).trans ?_; refine (vbnd_0 e1).trans ?_)); (first | (refine (vgt (x := 1) (y := 0) (by decide) (by decide)).trans ?_) | (refine (vF_g rfl rfl).trans ?_; refine (vF_g rfl rfl).trans ?_; refine (vgt (x := 1) (y := 0) (by decide) (by decide)).trans ?_) | (refine (vF_g rfl rfl).trans ?_; refine (vgt (x := 1) (y := 0) (by decide) (by decide)).trans ?_)); (first | (exact hr) | (refine (vF_g rfl rfl).trans ?_; refine (vF_g rfl rfl).trans ?_; exact hr) | (refine (vF_g rfl rfl).trans ?_; exact hr))))
  have e0 : oFogL T 13 0 0 (tE T p) = oFogL T 13 0 (tS T p) (tE T p) := rfl
  rw [e0]
  obtain ⟨t1, t2⟩ := v_fogL (D := D) 13 0 (tE T p) (tS T p) (F + 58) g1 (by decide) (by omega) c1 o1 q1 (fun _ => (f1 _ _ (by decide)).trans vup_eq)
  refine ⟨fun w => ?_, fun w => ?_⟩
  · obtain ⟨g', a, b⟩ := t1 w
    exact ⟨g', s _ a, b⟩
  · obtain ⟨g', a, b⟩ := t2 w
    exact ⟨g', s _ a, b⟩
theorem v_noteTest {D j x : Nat} {f : Vw} (hj : j < 8) : ∃ y, vM MT0 (D + 1) 63 [vR (61 + 3 * j), vI x] f = some ((1, 0), vW 3, vup f (61 + 3 * j) 7 y) := by
  rcases (show j = 0 ∨ j = 1 ∨ j = 2 ∨ j = 3 ∨ j = 4 ∨ j = 5 ∨ j = 6 ∨ j = 7 by omega) with rfl | rfl | rfl | rfl | rfl | rfl | rfl | rfl <;> exact ⟨_, vM_go rfl rfl rfl rfl fun F hF => (by (first | (exact rfl) | (refine (vF_g rfl rfl).trans ?_; refine (vF_g rfl rfl).trans ?_; exact rfl) | (refine (vF_g rfl rfl).trans ?_; refine (vF_g rfl rfl).trans ?_; refine (vF_g rfl rfl).trans ?_; exact rfl) | (refine (vF_g rfl rfl).trans ?_; exact rfl)))⟩
theorem te_2_1 {D F j : Nat} {f h : Vw} {r : Option VR} (hj : j < 8) (hv : f 446 5 = j) (e : vM MT0 D 57 [vR 446, vR 46] f = some ((0, 0), vI 1, h)) (e4 : vFn (vM MT0 D) nb_X2_takeTest F 4 0 [vR 447, vR (61 + 3 * j)] [] h = r) : vFn (vM MT0 D) nb_X2_takeTest (F + 1) 2 0 [vR 447, vW 3] [] f = r := by
  obtain ⟨f0, rfl⟩ : ∃ f0, f = vup f0 446 5 j := ⟨f, (vup_id hv).symm⟩
  rcases (show j = 0 ∨ j = 1 ∨ j = 2 ∨ j = 3 ∨ j = 4 ∨ j = 5 ∨ j = 6 ∨ j = 7 by omega) with rfl | rfl | rfl | rfl | rfl | rfl | rfl | rfl <;> exact (by (first | (refine (vbnd_0 e).trans ?_) | (refine (vF_g rfl rfl).trans ?_; refine (vF_g rfl rfl).trans ?_; refine (vbnd_0 e).trans ?_) | (refine (vF_g rfl rfl).trans ?_; refine (vbnd_0 e).trans ?_)); (first | (refine (vgt (x := 1) (y := 0) (by decide) (by decide)).trans ?_) | (refine (vF_g rfl rfl).trans ?_; refine (vF_g rfl rfl).trans ?_; refine (vgt (x := 1) (y := 0) (by decide) (by decide)).trans ?_) | (refine (vF_g rfl rfl).trans ?_; refine (vgt (x := 1) (y := 0) (by decide) (by decide)).trans ?_)); (first | (exact e4) | (refine (vF_g rfl rfl).trans ?_; refine (vF_g rfl rfl).trans ?_; exact e4) | (refine (vF_g rfl rfl).trans ?_; exact e4)))
theorem te_2_0 {D F j : Nat} {f h : Vw} {r : Option VR} (hj : j < 8) (hv : f 446 5 = j) (e : vM MT0 D 57 [vR 446, vR 46] f = some ((0, 0), vI 0, h)) (e4 : vFn (vM MT0 D) nb_X2_takeTest F 3 0 [vR 447, vR (61 + 3 * j)] [] h = r) : vFn (vM MT0 D) nb_X2_takeTest (F + 1) 2 0 [vR 447, vW 3] [] f = r := by
  obtain ⟨f0, rfl⟩ : ∃ f0, f = vup f0 446 5 j := ⟨f, (vup_id hv).symm⟩
  rcases (show j = 0 ∨ j = 1 ∨ j = 2 ∨ j = 3 ∨ j = 4 ∨ j = 5 ∨ j = 6 ∨ j = 7 by omega) with rfl | rfl | rfl | rfl | rfl | rfl | rfl | rfl <;> exact (by (first | (refine (vbnd_0 e).trans ?_) | (refine (vF_g rfl rfl).trans ?_; refine (vF_g rfl rfl).trans ?_; refine (vbnd_0 e).trans ?_) | (refine (vF_g rfl rfl).trans ?_; refine (vbnd_0 e).trans ?_)); (first | (refine (veq (x := 0) (y := 0) rfl).trans ?_) | (refine (vF_g rfl rfl).trans ?_; refine (vF_g rfl rfl).trans ?_; refine (veq (x := 0) (y := 0) rfl).trans ?_) | (refine (vF_g rfl rfl).trans ?_; refine (veq (x := 0) (y := 0) rfl).trans ?_)); (first | (exact e4) | (refine (vF_g rfl rfl).trans ?_; refine (vF_g rfl rfl).trans ?_; exact e4) | (refine (vF_g rfl rfl).trans ?_; exact e4)))
theorem te_4 {D F j b : Nat} {f g h : Vw} (hj : j < 8) (hb : b ≤ 1) (e1 : vM MT0 D 63 [vR (61 + 3 * j), vI (f 446 5)] f = some ((1, 0), vW 3, g)) (e2 : vM MT0 D 52 [vR 446] g = some ((0, 0), vI b, h)) : vFn (vM MT0 D) nb_X2_takeTest (F + 1) 4 0 [vR 447, vR (61 + 3 * j)] [] f = some ((0, 0), vI b, h) := by
  rcases (show b = 0 ∨ b = 1 by omega) with rfl | rfl
  all_goals (rcases (show j = 0 ∨ j = 1 ∨ j = 2 ∨ j = 3 ∨ j = 4 ∨ j = 5 ∨ j = 6 ∨ j = 7 by omega) with rfl | rfl | rfl | rfl | rfl | rfl | rfl | rfl <;> exact (by (first | (refine (vbnd_1 e1).trans ?_) | (refine (vF_g rfl rfl).trans ?_; refine (vF_g rfl rfl).trans ?_; refine (vbnd_1 e1).trans ?_) | (refine (vF_g rfl rfl).trans ?_; refine (vbnd_1 e1).trans ?_)); (first | (refine (vbnd_0 e2).trans ?_) | (refine (vF_g rfl rfl).trans ?_; refine (vF_g rfl rfl).trans ?_; refine (vbnd_0 e2).trans ?_) | (refine (vF_g rfl rfl).trans ?_; refine (vbnd_0 e2).trans ?_)); (first | (exact rfl) | (refine (vF_g rfl rfl).trans ?_; refine (vF_g rfl rfl).trans ?_; exact rfl) | (refine (vF_g rfl rfl).trans ?_; refine (vF_g rfl rfl).trans ?_; refine (vF_g rfl rfl).trans ?_; exact rfl) | (refine (vF_g rfl rfl).trans ?_; exact rfl))))
theorem v_test {D : Nat} {n c d p : Nat} {T : Nat → Nat} {E V : Nat → Nat → Nat} {f : Vw} (h : VCS n T E V c d p f) (h0 : OK0 B f) : ((oTest T (fun j => E j 0) (fun j => V j 0) c d p).1 = 0 → ∃ g, vM MT0 (D + 5) 19 [vR 447] f = some ((0, 0), vI 1, g) ∧ VCS n T E V c d (oTest T (fun j => E j 0) (fun j => V j 0) c d p).2 g ∧ OK0 B g) ∧ ((oTest T (fun j => E j 0) (fun j => V j 0) c d p).1 ≠ 0 → ∃ g, vM MT0 (D + 5) 19 [vR 447] f = some ((0, 0), vI 0, g) ∧ ER B (oTest T (fun j => E j 0) (fun j => V j 0) c d p).1 (oTest T (fun j => E j 0) (fun j => V j 0) c d p).2 g) := by
  unfold oTest
  obtain ⟨a1, a2, a3⟩ := v_takeValley46 (D := D) (N := fun j => V j 0) h.tx h.at_ h.le h.d0 h.d9 (fun j hj => ⟨(h.nV j hj).2 0 (by decide), (h.nV j hj).1⟩)
  by_cases k1 : nOK T p
  rotate_left
  · rw [oIt_2 k1]
    exact ⟨fun w => absurd w n01, fun _ => ⟨_, vM_go rfl rfl rfl rfl fun F hF => (by (first | (refine (vbnd_0 (a1 k1)).trans ?_) | (refine (vF_g rfl rfl).trans ?_; refine (vF_g rfl rfl).trans ?_; refine (vbnd_0 (a1 k1)).trans ?_) | (refine (vF_g rfl rfl).trans ?_; refine (vbnd_0 (a1 k1)).trans ?_)); (first | (refine (veq (x := 0) (y := 0) rfl).trans ?_) | (refine (vF_g rfl rfl).trans ?_; refine (vF_g rfl rfl).trans ?_; refine (veq (x := 0) (y := 0) rfl).trans ?_) | (refine (vF_g rfl rfl).trans ?_; refine (veq (x := 0) (y := 0) rfl).trans ?_)); (first | (exact rfl) | (refine (vF_g rfl rfl).trans ?_; refine (vF_g rfl rfl).trans ?_; exact rfl) | (refine (vF_g rfl rfl).trans ?_; refine (vF_g rfl rfl).trans ?_; refine (vF_g rfl rfl).trans ?_; exact rfl) | (refine (vF_g rfl rfl).trans ?_; exact rfl))), er_tk h0⟩⟩
  by_cases k2 : fidx (fun j => V j 0) (pkr (tN T p)) d 0 = 4294967295
  · rw [oIt_1 k1 k2]
    exact ⟨fun w => absurd w n31, fun _ => ⟨_, vM_go rfl rfl rfl rfl fun F hF => (by (first | (refine (vbnd_0 (a2 k1 k2)).trans ?_) | (refine (vF_g rfl rfl).trans ?_; refine (vF_g rfl rfl).trans ?_; refine (vbnd_0 (a2 k1 k2)).trans ?_) | (refine (vF_g rfl rfl).trans ?_; refine (vbnd_0 (a2 k1 k2)).trans ?_)); (first | (refine (veq (x := 0) (y := 0) rfl).trans ?_) | (refine (vF_g rfl rfl).trans ?_; refine (vF_g rfl rfl).trans ?_; refine (veq (x := 0) (y := 0) rfl).trans ?_) | (refine (vF_g rfl rfl).trans ?_; refine (veq (x := 0) (y := 0) rfl).trans ?_)); (first | (exact rfl) | (refine (vF_g rfl rfl).trans ?_; refine (vF_g rfl rfl).trans ?_; exact rfl) | (refine (vF_g rfl rfl).trans ?_; refine (vF_g rfl rfl).trans ?_; refine (vF_g rfl rfl).trans ?_; exact rfl) | (refine (vF_g rfl rfl).trans ?_; exact rfl))), er_fl ((vup_ne (Or.inr (by decide))).trans tkq_3) (ok_5 (ok_tk h0))⟩⟩
  rw [oIt_0 k1 k2]
  have hv : fidx (fun j => V j 0) (pkr (tN T p)) d 0 < 8 := by
    have := h.d9
    rcases fidx_lt (g := fun j => V j 0) (x := pkr (tN T p)) d 0 with q | ⟨_, q, _⟩
    · exact absurd q k2
    · omega
  have e1 := a3 k1 k2
  have c1 : VCS n T E V c d (tE T p) (vup (tk9 f T p) 446 5 (fidx (fun j => V j 0) (pkr (tN T p)) d 0)) := cs_fr (cs_tk h) (fun _ _ w => vup_ne (Or.inl w)) ((vup_ne (Or.inr (by decide))).trans (cs_tk h).at_) (cs_tk h).le
  have o1 : OK0 B (vup (tk9 f T p) 446 5 (fidx (fun j => V j 0) (pkr (tN T p)) d 0)) := ok_5 (ok_tk (p := p) (T := T) h0)
  have x1 : vup (tk9 f T p) 446 5 (fidx (fun j => V j 0) (pkr (tN T p)) d 0) 446 5 = fidx (fun j => V j 0) (pkr (tN T p)) d 0 := vup_eq
  generalize fidx (fun j => V j 0) (pkr (tN T p)) d 0 = vv at *
  generalize vup (tk9 f T p) 446 5 vv = g1 at *
  have s1 : ∀ r, (∀ F, vFn (vM MT0 (D + 4)) nb_X2_takeTest (F + 59) 2 0 [vR 447, vW 3] [] g1 = r) → vM MT0 (D + 5) 19 [vR 447] f = r := fun r hr => vM_go rfl rfl rfl rfl fun F hF => (by (first | (refine (vbnd_0 e1).trans ?_) | (refine (vF_g rfl rfl).trans ?_; refine (vF_g rfl rfl).trans ?_; refine (vbnd_0 e1).trans ?_) | (refine (vF_g rfl rfl).trans ?_; refine (vbnd_0 e1).trans ?_)); (first | (refine (vgt (x := 1) (y := 0) (by decide) (by decide)).trans ?_) | (refine (vF_g rfl rfl).trans ?_; refine (vF_g rfl rfl).trans ?_; refine (vgt (x := 1) (y := 0) (by decide) (by decide)).trans ?_) | (refine (vF_g rfl rfl).trans ?_; refine (vgt (x := 1) (y := 0) (by decide) (by decide)).trans ?_)); (first | (exact (hr F)) | (refine (vF_g rfl rfl).trans ?_; refine (vF_g rfl rfl).trans ?_; exact (hr F)) | (refine (vF_g rfl rfl).trans ?_; exact (hr F))))
  obtain ⟨b1, b2, b3⟩ := v_takeEcho46 (D := D) (N := fun j => E j 0) c1.tx c1.at_ c1.le c1.c0 c1.c9 (fun j hj => ⟨(c1.nE j hj).2 0 (by decide), (c1.nE j hj).1⟩)
  by_cases k3 : nOK T (tE T p)
  rotate_left
  · rw [oIt_2 k3]
    exact ⟨fun w => absurd w n01, fun _ => ⟨_, s1 _ (fun F => te_2_0 hv x1 (b1 k3) (by (first | (exact rfl) | (refine (vF_g rfl rfl).trans ?_; refine (vF_g rfl rfl).trans ?_; exact rfl) | (refine (vF_g rfl rfl).trans ?_; refine (vF_g rfl rfl).trans ?_; refine (vF_g rfl rfl).trans ?_; exact rfl) | (refine (vF_g rfl rfl).trans ?_; exact rfl)))), er_tk o1⟩⟩
  by_cases k4 : fidx (fun j => E j 0) (pkr (tN T (tE T p))) c 0 = 4294967295
  · rw [oIt_1 k3 k4]
    exact ⟨fun w => absurd w n31, fun _ => ⟨_, s1 _ (fun F => te_2_0 hv x1 (b2 k3 k4) (by (first | (exact rfl) | (refine (vF_g rfl rfl).trans ?_; refine (vF_g rfl rfl).trans ?_; exact rfl) | (refine (vF_g rfl rfl).trans ?_; refine (vF_g rfl rfl).trans ?_; refine (vF_g rfl rfl).trans ?_; exact rfl) | (refine (vF_g rfl rfl).trans ?_; exact rfl)))), er_fl ((vup_ne (Or.inr (by decide))).trans tkq_3) (ok_5 (ok_tk o1))⟩⟩
  rw [oIt_0 k3 k4]
  have e2 := b3 k3 k4
  have c2 : VCS n T E V c d (tE T (tE T p)) (vup (tk9 g1 T (tE T p)) 446 5 (fidx (fun j => E j 0) (pkr (tN T (tE T p))) c 0)) := cs_fr (cs_tk c1) (fun _ _ w => vup_ne (Or.inl w)) ((vup_ne (Or.inr (by decide))).trans (cs_tk c1).at_) (cs_tk c1).le
  have o2 : OK0 B (vup (tk9 g1 T (tE T p)) 446 5 (fidx (fun j => E j 0) (pkr (tN T (tE T p))) c 0)) := ok_5 (ok_tk (p := tE T p) (T := T) o1)
  generalize vup (tk9 g1 T (tE T p)) 446 5 (fidx (fun j => E j 0) (pkr (tN T (tE T p))) c 0) = g2 at *
  obtain ⟨y, e3⟩ := v_noteTest (D := D + 3) (x := g2 446 5) (f := g2) hv
  have c3 : VCS n T E V c d (tE T (tE T p)) (vup g2 (61 + 3 * vv) 7 y) := by
    have := c2.c9
    exact cs_up c2 ⟨by omega, by omega, by omega⟩ (by omega) (fun w => absurd w (by decide))
  obtain ⟨y1, y2⟩ := v_semi (D := D + 1) c3 (ok_up o2 (by omega))
  by_cases k5 : tK T (tE T (tE T p)) = 3
  · rw [oS_0 k5]
    obtain ⟨g, e, hg, og, _⟩ := y1 k5
    exact ⟨fun _ => ⟨g, s1 _ (fun F => te_2_1 hv x1 e2 (te_4 hv (by decide) e3 e)), hg, og⟩, fun w => absurd rfl w⟩
  · rw [oS_1 k5]
    obtain ⟨g, e, hg, _⟩ := y2 k5
    exact ⟨fun w => absurd w n01, fun _ => ⟨g, s1 _ (fun F => te_2_1 hv x1 e2 (te_4 hv (by decide) e3 e)), hg⟩⟩
end
section
/-! the program's parser of configurations: the statements one after the other -/
noncomputable def oStm (T : Nat → Nat) (c d : Nat) (E V : Nat → Nat → Nat) (p : Nat) : (Nat × Nat) × (Nat × Nat) × ((Nat → Nat → Nat) × (Nat → Nat → Nat)) :=
  if tK T p = 1 ∧ tE T p - tS T p = (wrd 28).length ∧ wq T (wrd 28) (tS T p) = true then (oEcho T (fun j => E j 0) c (tS T p) (tE T p), (c + 1, d), (ad E c (rwE T (tE T p)), V))
  else if tK T p = 1 ∧ tE T p - tS T p = (wrd 29).length ∧ wq T (wrd 29) (tS T p) = true then (oValley T (fun j => V j 0) d (tS T p) (tE T p), (c, d + 1), (E, ad V d (rwE T (tE T p))))
  else if tK T p = 1 ∧ tE T p - tS T p = (wrd 30).length ∧ wq T (wrd 30) (tS T p) = true then (oTest T (fun j => E j 0) (fun j => V j 0) c d (tE T p), (c, d), (E, V))
  else ((1, tS T p), (c, d), (E, V))
theorem oStm_e {T : Nat → Nat} {c d p : Nat} {E V : Nat → Nat → Nat} (h : wOKc T 28 p) : oStm T c d E V p = (oEcho T (fun j => E j 0) c (tS T p) (tE T p), (c + 1, d), (ad E c (rwE T (tE T p)), V)) := if_pos h
theorem oStm_v {T : Nat → Nat} {c d p : Nat} {E V : Nat → Nat → Nat} (h : ¬ wOKc T 28 p) (h2 : wOKc T 29 p) : oStm T c d E V p = (oValley T (fun j => V j 0) d (tS T p) (tE T p), (c, d + 1), (E, ad V d (rwE T (tE T p)))) := (if_neg h).trans (if_pos h2)
theorem oStm_t {T : Nat → Nat} {c d p : Nat} {E V : Nat → Nat → Nat} (h : ¬ wOKc T 28 p) (h2 : ¬ wOKc T 29 p) (h3 : wOKc T 30 p) : oStm T c d E V p = (oTest T (fun j => E j 0) (fun j => V j 0) c d (tE T p), (c, d), (E, V)) := (if_neg h).trans ((if_neg h2).trans (if_pos h3))
theorem oStm_n {T : Nat → Nat} {c d p : Nat} {E V : Nat → Nat → Nat} (h : ¬ wOKc T 28 p) (h2 : ¬ wOKc T 29 p) (h3 : ¬ wOKc T 30 p) : oStm T c d E V p = ((1, tS T p), (c, d), (E, V)) := (if_neg h).trans ((if_neg h2).trans (if_neg h3))
noncomputable def oAll (T : Nat → Nat) : Nat → Nat → Nat → (Nat → Nat → Nat) → (Nat → Nat → Nat) → Nat → (Nat × Nat) × (Nat × Nat) × ((Nat → Nat → Nat) × (Nat → Nat → Nat))
  | 0, c, d, E, V, p => ((4, p), (c, d), (E, V))
  | m + 1, c, d, E, V, p => if tK T p = 0 then (if 0 < c ∧ 0 < d then ((0, p), (c, d), (E, V)) else ((1, tS T p), (c, d), (E, V)))
    else if (oStm T c d E V p).1.1 = 0 then oAll T m (oStm T c d E V p).2.1.1 (oStm T c d E V p).2.1.2 (oStm T c d E V p).2.2.1 (oStm T c d E V p).2.2.2 (oStm T c d E V p).1.2 else oStm T c d E V p
/-! the text's place only goes forward -/
def Mono (n : Nat) (k : Nat → Nat × Nat) : Prop := ∀ p, p ≤ n → (k p).1 = 0 → p ≤ (k p).2
theorem mo_0 {n : Nat} : Mono n fun p => (0, p) := fun p _ _ => Nat.le_refl p
theorem tE_ge {T : Nat → Nat} {n p : Nat} (hT : ∀ i, n ≤ i → T i = 4294967295) (hp : p ≤ n) : p ≤ tE T p ∧ tE T p ≤ n := by
  have h1 := tS_le hT hp
  have h2 := tE_le hT hp
  exact ⟨by omega, h2.2⟩
theorem mo_N {T : Nat → Nat} {n lo hi : Nat} {k : Nat → Nat × Nat} (hT : ∀ i, n ≤ i → T i = 4294967295) (h : Mono n k) : Mono n fun p => oN T p lo hi k := by
  intro p hp h0
  have h1 := tE_ge hT hp
  by_cases q : nuC T p lo hi = 0
  · have e : oN T p lo hi k = k (tE T p) := oN_0 q
    show p ≤ (oN T p lo hi k).2
    have h0 : (oN T p lo hi k).1 = 0 := h0
    rw [e] at h0 ⊢
    have := h _ h1.2 h0
    omega
  · have e : oN T p lo hi k = (nuC T p lo hi, tS T p) := oN_1 q
    have h0 : (oN T p lo hi k).1 = 0 := h0
    rw [e] at h0
    exact absurd h0 q
theorem mo_S {T : Nat → Nat} {n : Nat} {k : Nat → Nat × Nat} (hT : ∀ i, n ≤ i → T i = 4294967295) (h : Mono n k) : Mono n fun p => oS T p k := by
  intro p hp h0
  have h1 := tE_ge hT hp
  by_cases q : tK T p = 3
  · have e : oS T p k = k (tE T p) := oS_0 q
    show p ≤ (oS T p k).2
    have h0 : (oS T p k).1 = 0 := h0
    rw [e] at h0 ⊢
    have := h _ h1.2 h0
    omega
  · have e : oS T p k = (1, tS T p) := oS_1 q
    have h0 : (oS T p k).1 = 0 := h0
    rw [e] at h0
    exact absurd h0 n01
theorem mo_New {T N : Nat → Nat} {n c : Nat} {k : Nat → Nat × Nat} (hT : ∀ i, n ≤ i → T i = 4294967295) (h : Mono n k) : Mono n fun p => oNew T N c p k := by
  intro p hp h0
  have h1 := tE_ge hT hp
  show p ≤ (oNew T N c p k).2
  have h0 : (oNew T N c p k).1 = 0 := h0
  by_cases q : nOK T p
  · by_cases q2 : fidx N (pkr (tN T p)) c 0 = 4294967295
    · rw [oNew_0 q q2] at h0 ⊢
      have := h _ h1.2 h0
      omega
    · rw [oNew_1 q q2] at h0
      exact absurd h0 n31
  · rw [oNew_2 q] at h0
    exact absurd h0 n01
theorem mo_It {T N : Nat → Nat} {n c : Nat} {k : Nat → Nat × Nat} (hT : ∀ i, n ≤ i → T i = 4294967295) (h : Mono n k) : Mono n fun p => oIt T N c p k := by
  intro p hp h0
  have h1 := tE_ge hT hp
  show p ≤ (oIt T N c p k).2
  have h0 : (oIt T N c p k).1 = 0 := h0
  by_cases q : nOK T p
  · by_cases q2 : fidx N (pkr (tN T p)) c 0 = 4294967295
    · rw [oIt_1 q q2] at h0
      exact absurd h0 n31
    · rw [oIt_0 q q2] at h0 ⊢
      have := h _ h1.2 h0
      omega
  · rw [oIt_2 q] at h0
    exact absurd h0 n01
theorem mo_Echo {T N : Nat → Nat} {n c q p : Nat} (hT : ∀ i, n ≤ i → T i = 4294967295) (hp : p ≤ n) (h : (oEcho T N c q p).1 = 0) : p ≤ (oEcho T N c q p).2 := by
  unfold oEcho at h ⊢
  by_cases hc : 12 ≤ c
  · rw [if_pos hc] at h
    exact absurd h n41
  · rw [if_neg hc] at h ⊢
    exact mo_New hT (mo_N hT (mo_N hT (mo_N hT (mo_N hT (mo_S hT mo_0))))) p hp h
theorem mo_Valley {T N : Nat → Nat} {n c q p : Nat} (hT : ∀ i, n ≤ i → T i = 4294967295) (hp : p ≤ n) (h : (oValley T N c q p).1 = 0) : p ≤ (oValley T N c q p).2 := by
  unfold oValley at h ⊢
  by_cases hc : 8 ≤ c
  · rw [if_pos hc] at h
    exact absurd h n41
  · rw [if_neg hc] at h ⊢
    exact mo_New hT (mo_N hT (mo_N hT (mo_N hT (mo_N hT (mo_S hT mo_0))))) p hp h
theorem mo_Test {T N M : Nat → Nat} {n c d p : Nat} (hT : ∀ i, n ≤ i → T i = 4294967295) (hp : p ≤ n) (h : (oTest T N M c d p).1 = 0) : p ≤ (oTest T N M c d p).2 := mo_It hT (mo_It hT (mo_S hT mo_0)) p hp h
theorem tE_gt {T : Nat → Nat} {n p : Nat} (hT : ∀ i, n ≤ i → T i = 4294967295) (hp : p ≤ n) (h : tK T p = 1) : p < tE T p := by
  have h1 := tS_le hT hp
  have h2 := word_1 h
  omega
theorem mo_Stm {T : Nat → Nat} {n c d p : Nat} {E V : Nat → Nat → Nat} (hT : ∀ i, n ≤ i → T i = 4294967295) (hp : p ≤ n) (h : (oStm T c d E V p).1.1 = 0) : p < (oStm T c d E V p).1.2 := by
  have h1 := tE_ge hT hp
  by_cases k1 : wOKc T 28 p
  · rw [oStm_e k1] at h ⊢
    have := tE_gt hT hp k1.1
    have : tE T p ≤ (oEcho T (fun j => E j 0) c (tS T p) (tE T p)).2 := mo_Echo hT h1.2 h
    show p < (oEcho T (fun j => E j 0) c (tS T p) (tE T p)).2
    omega
  · by_cases k2 : wOKc T 29 p
    · rw [oStm_v k1 k2] at h ⊢
      have := tE_gt hT hp k2.1
      have : tE T p ≤ (oValley T (fun j => V j 0) d (tS T p) (tE T p)).2 := mo_Valley hT h1.2 h
      show p < (oValley T (fun j => V j 0) d (tS T p) (tE T p)).2
      omega
    · by_cases k3 : wOKc T 30 p
      · rw [oStm_t k1 k2 k3] at h ⊢
        have := tE_gt hT hp k3.1
        have : tE T p ≤ (oTest T (fun j => E j 0) (fun j => V j 0) c d (tE T p)).2 := mo_Test hT h1.2 h
        show p < (oTest T (fun j => E j 0) (fun j => V j 0) c d (tE T p)).2
        omega
      · rw [oStm_n k1 k2 k3] at h
        exact absurd h n01
/-! the program's statements -/
variable {B : Vw}
theorem v_stm {D n c d p : Nat} {T : Nat → Nat} {E V : Nat → Nat → Nat} {f : Vw} (h : VCS n T E V c d p f) (h0 : OK0 B f) : ((oStm T c d E V p).1.1 = 0 → ∃ g, vM MT0 (D + 6) 16 [vR 447] (tk9 f T p) = some ((0, 0), vI 1, g) ∧ VCS n T (oStm T c d E V p).2.2.1 (oStm T c d E V p).2.2.2 (oStm T c d E V p).2.1.1 (oStm T c d E V p).2.1.2 (oStm T c d E V p).1.2 g ∧ OK0 B g) ∧ ((oStm T c d E V p).1.1 ≠ 0 → ∃ g, vM MT0 (D + 6) 16 [vR 447] (tk9 f T p) = some ((0, 0), vI 0, g) ∧ ER B (oStm T c d E V p).1.1 (oStm T c d E V p).1.2 g) := by
  have hx := txC_tk (p := p) h.tx
  have c1 := cs_tk h
  have o1 := ok_tk (p := p) (T := T) h0
  obtain ⟨a1, a2⟩ := v_wordIs9 (D := D + 3) (w := 28) (f := f) (by decide) (by decide) hx h.le tkq_2 tkq_3 tkq_4
  obtain ⟨b1, b2⟩ := v_wordIs9 (D := D + 3) (w := 29) (f := f) (by decide) (by decide) hx h.le tkq_2 tkq_3 tkq_4
  obtain ⟨d1, d2⟩ := v_wordIs9 (D := D + 3) (w := 30) (f := f) (by decide) (by decide) hx h.le tkq_2 tkq_3 tkq_4
  have re : ∀ b g, b = 0 ∨ b = 1 → vM MT0 (D + 5) 17 [vR 447] (tk9 f T p) = some ((0, 0), vI b, g) → wOKc T 28 p → vM MT0 (D + 6) 16 [vR 447] (tk9 f T p) = some ((0, 0), vI b, g) := by
    intro b g h9 e k
    rcases h9 with rfl | rfl
    · refine vM_go rfl rfl rfl rfl fun F hF => ?_
      (first | (refine (vbnd_0 (a1 k)).trans ?_) | (refine (vF_g rfl rfl).trans ?_; refine (vF_g rfl rfl).trans ?_; refine (vbnd_0 (a1 k)).trans ?_) | (refine (vF_g rfl rfl).trans ?_; refine (vbnd_0 (a1 k)).trans ?_))
      (first | (refine (vgt (x := 1) (y := 0) (by decide) (by decide)).trans ?_) | (refine (vF_g rfl rfl).trans ?_; refine (vF_g rfl rfl).trans ?_; refine (vgt (x := 1) (y := 0) (by decide) (by decide)).trans ?_) | (refine (vF_g rfl rfl).trans ?_; refine (vgt (x := 1) (y := 0) (by decide) (by decide)).trans ?_))
      (first | (refine (vbnd_0 e).trans ?_) | (refine (vF_g rfl rfl).trans ?_; refine (vF_g rfl rfl).trans ?_; refine (vbnd_0 e).trans ?_) | (refine (vF_g rfl rfl).trans ?_; refine (vbnd_0 e).trans ?_))
      (first | (exact rfl) | (refine (vF_g rfl rfl).trans ?_; refine (vF_g rfl rfl).trans ?_; exact rfl) | (refine (vF_g rfl rfl).trans ?_; refine (vF_g rfl rfl).trans ?_; refine (vF_g rfl rfl).trans ?_; exact rfl) | (refine (vF_g rfl rfl).trans ?_; exact rfl))
    · refine vM_go rfl rfl rfl rfl fun F hF => ?_
      (first | (refine (vbnd_0 (a1 k)).trans ?_) | (refine (vF_g rfl rfl).trans ?_; refine (vF_g rfl rfl).trans ?_; refine (vbnd_0 (a1 k)).trans ?_) | (refine (vF_g rfl rfl).trans ?_; refine (vbnd_0 (a1 k)).trans ?_))
      (first | (refine (vgt (x := 1) (y := 0) (by decide) (by decide)).trans ?_) | (refine (vF_g rfl rfl).trans ?_; refine (vF_g rfl rfl).trans ?_; refine (vgt (x := 1) (y := 0) (by decide) (by decide)).trans ?_) | (refine (vF_g rfl rfl).trans ?_; refine (vgt (x := 1) (y := 0) (by decide) (by decide)).trans ?_))
      (first | (refine (vbnd_0 e).trans ?_) | (refine (vF_g rfl rfl).trans ?_; refine (vF_g rfl rfl).trans ?_; refine (vbnd_0 e).trans ?_) | (refine (vF_g rfl rfl).trans ?_; refine (vbnd_0 e).trans ?_))
      (first | (exact rfl) | (refine (vF_g rfl rfl).trans ?_; refine (vF_g rfl rfl).trans ?_; exact rfl) | (refine (vF_g rfl rfl).trans ?_; refine (vF_g rfl rfl).trans ?_; refine (vF_g rfl rfl).trans ?_; exact rfl) | (refine (vF_g rfl rfl).trans ?_; exact rfl))
  have rv : ∀ b g, b = 0 ∨ b = 1 → vM MT0 (D + 5) 18 [vR 447] (tk9 f T p) = some ((0, 0), vI b, g) → ¬ wOKc T 28 p → wOKc T 29 p → vM MT0 (D + 6) 16 [vR 447] (tk9 f T p) = some ((0, 0), vI b, g) := by
    intro b g h9 e k k2
    rcases h9 with rfl | rfl
    · refine vM_go rfl rfl rfl rfl fun F hF => ?_
      (first | (refine (vbnd_0 (a2 k)).trans ?_) | (refine (vF_g rfl rfl).trans ?_; refine (vF_g rfl rfl).trans ?_; refine (vbnd_0 (a2 k)).trans ?_) | (refine (vF_g rfl rfl).trans ?_; refine (vbnd_0 (a2 k)).trans ?_))
      (first | (refine (veq (x := 0) (y := 0) rfl).trans ?_) | (refine (vF_g rfl rfl).trans ?_; refine (vF_g rfl rfl).trans ?_; refine (veq (x := 0) (y := 0) rfl).trans ?_) | (refine (vF_g rfl rfl).trans ?_; refine (veq (x := 0) (y := 0) rfl).trans ?_))
      (first | (refine (vbnd_0 (b1 k2)).trans ?_) | (refine (vF_g rfl rfl).trans ?_; refine (vF_g rfl rfl).trans ?_; refine (vbnd_0 (b1 k2)).trans ?_) | (refine (vF_g rfl rfl).trans ?_; refine (vbnd_0 (b1 k2)).trans ?_))
      (first | (refine (vgt (x := 1) (y := 0) (by decide) (by decide)).trans ?_) | (refine (vF_g rfl rfl).trans ?_; refine (vF_g rfl rfl).trans ?_; refine (vgt (x := 1) (y := 0) (by decide) (by decide)).trans ?_) | (refine (vF_g rfl rfl).trans ?_; refine (vgt (x := 1) (y := 0) (by decide) (by decide)).trans ?_))
      (first | (refine (vbnd_0 e).trans ?_) | (refine (vF_g rfl rfl).trans ?_; refine (vF_g rfl rfl).trans ?_; refine (vbnd_0 e).trans ?_) | (refine (vF_g rfl rfl).trans ?_; refine (vbnd_0 e).trans ?_))
      (first | (exact rfl) | (refine (vF_g rfl rfl).trans ?_; refine (vF_g rfl rfl).trans ?_; exact rfl) | (refine (vF_g rfl rfl).trans ?_; refine (vF_g rfl rfl).trans ?_; refine (vF_g rfl rfl).trans ?_; exact rfl) | (refine (vF_g rfl rfl).trans ?_; exact rfl))
    · refine vM_go rfl rfl rfl rfl fun F hF => ?_
      (first | (refine (vbnd_0 (a2 k)).trans ?_) | (refine (vF_g rfl rfl).trans ?_; refine (vF_g rfl rfl).trans ?_; refine (vbnd_0 (a2 k)).trans ?_) | (refine (vF_g rfl rfl).trans ?_; refine (vbnd_0 (a2 k)).trans ?_))
      (first | (refine (veq (x := 0) (y := 0) rfl).trans ?_) | (refine (vF_g rfl rfl).trans ?_; refine (vF_g rfl rfl).trans ?_; refine (veq (x := 0) (y := 0) rfl).trans ?_) | (refine (vF_g rfl rfl).trans ?_; refine (veq (x := 0) (y := 0) rfl).trans ?_))
      (first | (refine (vbnd_0 (b1 k2)).trans ?_) | (refine (vF_g rfl rfl).trans ?_; refine (vF_g rfl rfl).trans ?_; refine (vbnd_0 (b1 k2)).trans ?_) | (refine (vF_g rfl rfl).trans ?_; refine (vbnd_0 (b1 k2)).trans ?_))
      (first | (refine (vgt (x := 1) (y := 0) (by decide) (by decide)).trans ?_) | (refine (vF_g rfl rfl).trans ?_; refine (vF_g rfl rfl).trans ?_; refine (vgt (x := 1) (y := 0) (by decide) (by decide)).trans ?_) | (refine (vF_g rfl rfl).trans ?_; refine (vgt (x := 1) (y := 0) (by decide) (by decide)).trans ?_))
      (first | (refine (vbnd_0 e).trans ?_) | (refine (vF_g rfl rfl).trans ?_; refine (vF_g rfl rfl).trans ?_; refine (vbnd_0 e).trans ?_) | (refine (vF_g rfl rfl).trans ?_; refine (vbnd_0 e).trans ?_))
      (first | (exact rfl) | (refine (vF_g rfl rfl).trans ?_; refine (vF_g rfl rfl).trans ?_; exact rfl) | (refine (vF_g rfl rfl).trans ?_; refine (vF_g rfl rfl).trans ?_; refine (vF_g rfl rfl).trans ?_; exact rfl) | (refine (vF_g rfl rfl).trans ?_; exact rfl))
  have rt : ∀ b g, b = 0 ∨ b = 1 → vM MT0 (D + 5) 19 [vR 447] (tk9 f T p) = some ((0, 0), vI b, g) → ¬ wOKc T 28 p → ¬ wOKc T 29 p → wOKc T 30 p → vM MT0 (D + 6) 16 [vR 447] (tk9 f T p) = some ((0, 0), vI b, g) := by
    intro b g h9 e k k2 k3
    rcases h9 with rfl | rfl
    · refine vM_go rfl rfl rfl rfl fun F hF => ?_
      (first | (refine (vbnd_0 (a2 k)).trans ?_) | (refine (vF_g rfl rfl).trans ?_; refine (vF_g rfl rfl).trans ?_; refine (vbnd_0 (a2 k)).trans ?_) | (refine (vF_g rfl rfl).trans ?_; refine (vbnd_0 (a2 k)).trans ?_))
      (first | (refine (veq (x := 0) (y := 0) rfl).trans ?_) | (refine (vF_g rfl rfl).trans ?_; refine (vF_g rfl rfl).trans ?_; refine (veq (x := 0) (y := 0) rfl).trans ?_) | (refine (vF_g rfl rfl).trans ?_; refine (veq (x := 0) (y := 0) rfl).trans ?_))
      (first | (refine (vbnd_0 (b2 k2)).trans ?_) | (refine (vF_g rfl rfl).trans ?_; refine (vF_g rfl rfl).trans ?_; refine (vbnd_0 (b2 k2)).trans ?_) | (refine (vF_g rfl rfl).trans ?_; refine (vbnd_0 (b2 k2)).trans ?_))
      (first | (refine (veq (x := 0) (y := 0) rfl).trans ?_) | (refine (vF_g rfl rfl).trans ?_; refine (vF_g rfl rfl).trans ?_; refine (veq (x := 0) (y := 0) rfl).trans ?_) | (refine (vF_g rfl rfl).trans ?_; refine (veq (x := 0) (y := 0) rfl).trans ?_))
      (first | (refine (vbnd_0 (d1 k3)).trans ?_) | (refine (vF_g rfl rfl).trans ?_; refine (vF_g rfl rfl).trans ?_; refine (vbnd_0 (d1 k3)).trans ?_) | (refine (vF_g rfl rfl).trans ?_; refine (vbnd_0 (d1 k3)).trans ?_))
      (first | (refine (vgt (x := 1) (y := 0) (by decide) (by decide)).trans ?_) | (refine (vF_g rfl rfl).trans ?_; refine (vF_g rfl rfl).trans ?_; refine (vgt (x := 1) (y := 0) (by decide) (by decide)).trans ?_) | (refine (vF_g rfl rfl).trans ?_; refine (vgt (x := 1) (y := 0) (by decide) (by decide)).trans ?_))
      (first | (refine (vbnd_0 e).trans ?_) | (refine (vF_g rfl rfl).trans ?_; refine (vF_g rfl rfl).trans ?_; refine (vbnd_0 e).trans ?_) | (refine (vF_g rfl rfl).trans ?_; refine (vbnd_0 e).trans ?_))
      (first | (exact rfl) | (refine (vF_g rfl rfl).trans ?_; refine (vF_g rfl rfl).trans ?_; exact rfl) | (refine (vF_g rfl rfl).trans ?_; refine (vF_g rfl rfl).trans ?_; refine (vF_g rfl rfl).trans ?_; exact rfl) | (refine (vF_g rfl rfl).trans ?_; exact rfl))
    · refine vM_go rfl rfl rfl rfl fun F hF => ?_
      (first | (refine (vbnd_0 (a2 k)).trans ?_) | (refine (vF_g rfl rfl).trans ?_; refine (vF_g rfl rfl).trans ?_; refine (vbnd_0 (a2 k)).trans ?_) | (refine (vF_g rfl rfl).trans ?_; refine (vbnd_0 (a2 k)).trans ?_))
      (first | (refine (veq (x := 0) (y := 0) rfl).trans ?_) | (refine (vF_g rfl rfl).trans ?_; refine (vF_g rfl rfl).trans ?_; refine (veq (x := 0) (y := 0) rfl).trans ?_) | (refine (vF_g rfl rfl).trans ?_; refine (veq (x := 0) (y := 0) rfl).trans ?_))
      (first | (refine (vbnd_0 (b2 k2)).trans ?_) | (refine (vF_g rfl rfl).trans ?_; refine (vF_g rfl rfl).trans ?_; refine (vbnd_0 (b2 k2)).trans ?_) | (refine (vF_g rfl rfl).trans ?_; refine (vbnd_0 (b2 k2)).trans ?_))
      (first | (refine (veq (x := 0) (y := 0) rfl).trans ?_) | (refine (vF_g rfl rfl).trans ?_; refine (vF_g rfl rfl).trans ?_; refine (veq (x := 0) (y := 0) rfl).trans ?_) | (refine (vF_g rfl rfl).trans ?_; refine (veq (x := 0) (y := 0) rfl).trans ?_))
      (first | (refine (vbnd_0 (d1 k3)).trans ?_) | (refine (vF_g rfl rfl).trans ?_; refine (vF_g rfl rfl).trans ?_; refine (vbnd_0 (d1 k3)).trans ?_) | (refine (vF_g rfl rfl).trans ?_; refine (vbnd_0 (d1 k3)).trans ?_))
      (first | (refine (vgt (x := 1) (y := 0) (by decide) (by decide)).trans ?_) | (refine (vF_g rfl rfl).trans ?_; refine (vF_g rfl rfl).trans ?_; refine (vgt (x := 1) (y := 0) (by decide) (by decide)).trans ?_) | (refine (vF_g rfl rfl).trans ?_; refine (vgt (x := 1) (y := 0) (by decide) (by decide)).trans ?_))
      (first | (refine (vbnd_0 e).trans ?_) | (refine (vF_g rfl rfl).trans ?_; refine (vF_g rfl rfl).trans ?_; refine (vbnd_0 e).trans ?_) | (refine (vF_g rfl rfl).trans ?_; refine (vbnd_0 e).trans ?_))
      (first | (exact rfl) | (refine (vF_g rfl rfl).trans ?_; refine (vF_g rfl rfl).trans ?_; exact rfl) | (refine (vF_g rfl rfl).trans ?_; refine (vF_g rfl rfl).trans ?_; refine (vF_g rfl rfl).trans ?_; exact rfl) | (refine (vF_g rfl rfl).trans ?_; exact rfl))
  by_cases k1 : wOKc T 28 p
  · rw [oStm_e k1]
    obtain ⟨u1, u2⟩ := v_newE (D := D) c1 o1 tkq_3
    refine ⟨fun w => ?_, fun w => ?_⟩
    · obtain ⟨g, e, hg⟩ := u1 w
      exact ⟨g, re _ _ (Or.inr rfl) e k1, hg⟩
    · obtain ⟨g, e, hg⟩ := u2 w
      exact ⟨g, re _ _ (Or.inl rfl) e k1, hg⟩
  · by_cases k2 : wOKc T 29 p
    · rw [oStm_v k1 k2]
      obtain ⟨u1, u2⟩ := v_newV (D := D) c1 o1 tkq_3
      refine ⟨fun w => ?_, fun w => ?_⟩
      · obtain ⟨g, e, hg⟩ := u1 w
        exact ⟨g, rv _ _ (Or.inr rfl) e k1 k2, hg⟩
      · obtain ⟨g, e, hg⟩ := u2 w
        exact ⟨g, rv _ _ (Or.inl rfl) e k1 k2, hg⟩
    · by_cases k3 : wOKc T 30 p
      · rw [oStm_t k1 k2 k3]
        obtain ⟨u1, u2⟩ := v_test (D := D) c1 o1
        refine ⟨fun w => ?_, fun w => ?_⟩
        · obtain ⟨g, e, hg⟩ := u1 w
          exact ⟨g, rt _ _ (Or.inr rfl) e k1 k2 k3, hg⟩
        · obtain ⟨g, e, hg⟩ := u2 w
          exact ⟨g, rt _ _ (Or.inl rfl) e k1 k2 k3, hg⟩
      · rw [oStm_n k1 k2 k3]
        exact ⟨fun w => absurd w n01, fun _ => ⟨_, vM_go rfl rfl rfl rfl fun F hF => (by (first | (refine (vbnd_0 (a2 k1)).trans ?_) | (refine (vF_g rfl rfl).trans ?_; refine (vF_g rfl rfl).trans ?_; refine (vbnd_0 (a2 k1)).trans ?_) | (refine (vF_g rfl rfl).trans ?_; refine (vbnd_0 (a2 k1)).trans ?_)); (first | (refine (veq (x := 0) (y := 0) rfl).trans ?_) | (refine (vF_g rfl rfl).trans ?_; refine (vF_g rfl rfl).trans ?_; refine (veq (x := 0) (y := 0) rfl).trans ?_) | (refine (vF_g rfl rfl).trans ?_; refine (veq (x := 0) (y := 0) rfl).trans ?_)); (first | (refine (vbnd_0 (b2 k2)).trans ?_) | (refine (vF_g rfl rfl).trans ?_; refine (vF_g rfl rfl).trans ?_; refine (vbnd_0 (b2 k2)).trans ?_) | (refine (vF_g rfl rfl).trans ?_; refine (vbnd_0 (b2 k2)).trans ?_)); (first | (refine (veq (x := 0) (y := 0) rfl).trans ?_) | (refine (vF_g rfl rfl).trans ?_; refine (vF_g rfl rfl).trans ?_; refine (veq (x := 0) (y := 0) rfl).trans ?_) | (refine (vF_g rfl rfl).trans ?_; refine (veq (x := 0) (y := 0) rfl).trans ?_)); (first | (refine (vbnd_0 (d2 k3)).trans ?_) | (refine (vF_g rfl rfl).trans ?_; refine (vF_g rfl rfl).trans ?_; refine (vbnd_0 (d2 k3)).trans ?_) | (refine (vF_g rfl rfl).trans ?_; refine (vbnd_0 (d2 k3)).trans ?_)); (first | (refine (veq (x := 0) (y := 0) rfl).trans ?_) | (refine (vF_g rfl rfl).trans ?_; refine (vF_g rfl rfl).trans ?_; refine (veq (x := 0) (y := 0) rfl).trans ?_) | (refine (vF_g rfl rfl).trans ?_; refine (veq (x := 0) (y := 0) rfl).trans ?_)); (first | (refine (vbnd_0 v_fail9).trans ?_) | (refine (vF_g rfl rfl).trans ?_; refine (vF_g rfl rfl).trans ?_; refine (vbnd_0 v_fail9).trans ?_) | (refine (vF_g rfl rfl).trans ?_; refine (vbnd_0 v_fail9).trans ?_)); (first | (exact rfl) | (refine (vF_g rfl rfl).trans ?_; refine (vF_g rfl rfl).trans ?_; exact rfl) | (refine (vF_g rfl rfl).trans ?_; refine (vF_g rfl rfl).trans ?_; refine (vF_g rfl rfl).trans ?_; exact rfl) | (refine (vF_g rfl rfl).trans ?_; exact rfl))), er_tk h0⟩⟩
theorem v_complete {D n c d p : Nat} {T : Nat → Nat} {E V : Nat → Nat → Nat} {f : Vw} (h : VCS n T E V c d p f) : (0 < c ∧ 0 < d → vM MT0 (D + 2) 13 [vR 447] f = some ((0, 0), vI 1, f)) ∧ (¬ (0 < c ∧ 0 < d) → vM MT0 (D + 2) 13 [vR 447] f = some ((0, 0), vI 0, fl 1 f)) := by
  have hc := h.c9
  have hd := h.d9
  refine ⟨fun w => ?_, fun w => ?_⟩
  · refine vM_go rfl rfl rfl rfl fun F hF => ?_
    (first | (refine (vgt (x := f 46 2) (y := 0) (by rw [h.c0]; omega) (by rw [h.c0]; exact w.1)).trans ?_) | (refine (vF_g rfl rfl).trans ?_; refine (vF_g rfl rfl).trans ?_; refine (vgt (x := f 46 2) (y := 0) (by rw [h.c0]; omega) (by rw [h.c0]; exact w.1)).trans ?_) | (refine (vF_g rfl rfl).trans ?_; refine (vgt (x := f 46 2) (y := 0) (by rw [h.c0]; omega) (by rw [h.c0]; exact w.1)).trans ?_))
    (first | (refine (vgt (x := f 46 3) (y := 0) (by rw [h.d0]; omega) (by rw [h.d0]; exact w.2)).trans ?_) | (refine (vF_g rfl rfl).trans ?_; refine (vF_g rfl rfl).trans ?_; refine (vgt (x := f 46 3) (y := 0) (by rw [h.d0]; omega) (by rw [h.d0]; exact w.2)).trans ?_) | (refine (vF_g rfl rfl).trans ?_; refine (vgt (x := f 46 3) (y := 0) (by rw [h.d0]; omega) (by rw [h.d0]; exact w.2)).trans ?_))
    (first | (exact rfl) | (refine (vF_g rfl rfl).trans ?_; refine (vF_g rfl rfl).trans ?_; exact rfl) | (refine (vF_g rfl rfl).trans ?_; refine (vF_g rfl rfl).trans ?_; refine (vF_g rfl rfl).trans ?_; exact rfl) | (refine (vF_g rfl rfl).trans ?_; exact rfl))
  · by_cases q : 0 < c
    · have e : f 46 3 = 0 := by rw [h.d0]; omega
      refine vM_go rfl rfl rfl rfl fun F hF => ?_
      (first | (refine (vgt (x := f 46 2) (y := 0) (by rw [h.c0]; omega) (by rw [h.c0]; exact q)).trans ?_) | (refine (vF_g rfl rfl).trans ?_; refine (vF_g rfl rfl).trans ?_; refine (vgt (x := f 46 2) (y := 0) (by rw [h.c0]; omega) (by rw [h.c0]; exact q)).trans ?_) | (refine (vF_g rfl rfl).trans ?_; refine (vgt (x := f 46 2) (y := 0) (by rw [h.c0]; omega) (by rw [h.c0]; exact q)).trans ?_))
      (first | (refine (veq e).trans ?_) | (refine (vF_g rfl rfl).trans ?_; refine (vF_g rfl rfl).trans ?_; refine (veq e).trans ?_) | (refine (vF_g rfl rfl).trans ?_; refine (veq e).trans ?_))
      (first | (refine (vbnd_0 v_fail9).trans ?_) | (refine (vF_g rfl rfl).trans ?_; refine (vF_g rfl rfl).trans ?_; refine (vbnd_0 v_fail9).trans ?_) | (refine (vF_g rfl rfl).trans ?_; refine (vbnd_0 v_fail9).trans ?_))
      (first | (refine (veq (x := 0) (y := 0) rfl).trans ?_) | (refine (vF_g rfl rfl).trans ?_; refine (vF_g rfl rfl).trans ?_; refine (veq (x := 0) (y := 0) rfl).trans ?_) | (refine (vF_g rfl rfl).trans ?_; refine (veq (x := 0) (y := 0) rfl).trans ?_))
      (first | (exact rfl) | (refine (vF_g rfl rfl).trans ?_; refine (vF_g rfl rfl).trans ?_; exact rfl) | (refine (vF_g rfl rfl).trans ?_; refine (vF_g rfl rfl).trans ?_; refine (vF_g rfl rfl).trans ?_; exact rfl) | (refine (vF_g rfl rfl).trans ?_; exact rfl))
    · have e : f 46 2 = 0 := by rw [h.c0]; omega
      refine vM_go rfl rfl rfl rfl fun F hF => ?_
      (first | (refine (veq e).trans ?_) | (refine (vF_g rfl rfl).trans ?_; refine (vF_g rfl rfl).trans ?_; refine (veq e).trans ?_) | (refine (vF_g rfl rfl).trans ?_; refine (veq e).trans ?_))
      (first | (refine (vbnd_0 v_fail9).trans ?_) | (refine (vF_g rfl rfl).trans ?_; refine (vF_g rfl rfl).trans ?_; refine (vbnd_0 v_fail9).trans ?_) | (refine (vF_g rfl rfl).trans ?_; refine (vbnd_0 v_fail9).trans ?_))
      (first | (refine (veq (x := 0) (y := 0) rfl).trans ?_) | (refine (vF_g rfl rfl).trans ?_; refine (vF_g rfl rfl).trans ?_; refine (veq (x := 0) (y := 0) rfl).trans ?_) | (refine (vF_g rfl rfl).trans ?_; refine (veq (x := 0) (y := 0) rfl).trans ?_))
      (first | (exact rfl) | (refine (vF_g rfl rfl).trans ?_; refine (vF_g rfl rfl).trans ?_; exact rfl) | (refine (vF_g rfl rfl).trans ?_; refine (vF_g rfl rfl).trans ?_; refine (vF_g rfl rfl).trans ?_; exact rfl) | (refine (vF_g rfl rfl).trans ?_; exact rfl))
theorem v_all {D n : Nat} {T : Nat → Nat} : ∀ (m i c d p F : Nat) (E V : Nat → Nat → Nat) (f : Vw), i + m = 901 → n < p + m → 4 * m + 4 ≤ F → VCS n T E V c d p f → OK0 B f → ((oAll T m c d E V p).1.1 = 0 → ∃ g, vFn (vM MT0 (D + 6)) nb_X2_parse F 4 0 [vR 447, vI i] [] f = some ((0, 0), vI 1, g) ∧ g 46 2 = (oAll T m c d E V p).2.1.1 ∧ g 46 3 = (oAll T m c d E V p).2.1.2 ∧ (oAll T m c d E V p).2.1.1 ≤ 12 ∧ (oAll T m c d E V p).2.1.2 ≤ 8 ∧ (∀ j, j < (oAll T m c d E V p).2.1.1 → ∀ i, i ≤ 4 → g (49 + j) i = (oAll T m c d E V p).2.2.1 j i) ∧ (∀ j, j < (oAll T m c d E V p).2.1.2 → ∀ i, i ≤ 4 → g (61 + 3 * j) i = (oAll T m c d E V p).2.2.2 j i) ∧ OK0 B g) ∧ ((oAll T m c d E V p).1.1 ≠ 0 → ∃ g, vFn (vM MT0 (D + 6)) nb_X2_parse F 4 0 [vR 447, vI i] [] f = some ((0, 0), vI 0, g) ∧ ER B (oAll T m c d E V p).1.1 (oAll T m c d E V p).1.2 g) := by
  intro m
  induction m with
  | zero =>
    intro i c d p F E V f hi hp hF h
    have := h.le
    omega
  | succ m ih =>
    intro i c d p F E V f hi hp hF h h0
    obtain ⟨F1, rfl⟩ : ∃ F1, F = F1 + 4 := ⟨F - 4, by omega⟩
    have hk9 : tK T p ≤ 5 := kd9_l _
    have s1 : ∀ r, vc3 (bv (tk9 f T p 446 2)) (bv 0) (vFn (vM MT0 (D + 6)) nb_X2_parse (F1 + 2) 7 0 [vR 447, vI i] [] (tk9 f T p)) (vFn (vM MT0 (D + 6)) nb_X2_parse (F1 + 2) 6 0 [vR 447, vI i] [] (tk9 f T p)) (vFn (vM MT0 (D + 6)) nb_X2_parse (F1 + 2) 7 0 [vR 447, vI i] [] (tk9 f T p)) = r → vFn (vM MT0 (D + 6)) nb_X2_parse (F1 + 4) 4 0 [vR 447, vI i] [] f = r := fun r hr => (by (first | (refine (vle2 (x := i) (y := 900) (by decide) (by omega)).trans ?_) | (refine (vF_g rfl rfl).trans ?_; refine (vF_g rfl rfl).trans ?_; refine (vle2 (x := i) (y := 900) (by decide) (by omega)).trans ?_) | (refine (vF_g rfl rfl).trans ?_; refine (vle2 (x := i) (y := 900) (by decide) (by omega)).trans ?_)); (first | (refine (vbnd_1 (v_next9 h.tx h.at_ h.le)).trans ?_) | (refine (vF_g rfl rfl).trans ?_; refine (vF_g rfl rfl).trans ?_; refine (vbnd_1 (v_next9 h.tx h.at_ h.le)).trans ?_) | (refine (vF_g rfl rfl).trans ?_; refine (vbnd_1 (v_next9 h.tx h.at_ h.le)).trans ?_)); (first | (exact hr) | (refine (vF_g rfl rfl).trans ?_; refine (vF_g rfl rfl).trans ?_; exact hr) | (refine (vF_g rfl rfl).trans ?_; exact hr)))
    by_cases k0 : tK T p = 0
    · obtain ⟨w1, w2⟩ := v_complete (D := D + 4) (cs_tk h)
      have c1 := cs_tk h
      by_cases k1 : 0 < c ∧ 0 < d
      · have e : oAll T (m + 1) c d E V p = ((0, p), (c, d), (E, V)) := (if_pos k0).trans (if_pos k1)
        rw [e]
        exact ⟨fun _ => ⟨_, s1 _ ((by (first | (refine (veq (tkq_2.trans k0)).trans ?_) | (refine (vF_g rfl rfl).trans ?_; refine (vF_g rfl rfl).trans ?_; refine (veq (tkq_2.trans k0)).trans ?_) | (refine (vF_g rfl rfl).trans ?_; refine (veq (tkq_2.trans k0)).trans ?_)); (first | (refine (vbnd_0 (w1 k1)).trans ?_) | (refine (vF_g rfl rfl).trans ?_; refine (vF_g rfl rfl).trans ?_; refine (vbnd_0 (w1 k1)).trans ?_) | (refine (vF_g rfl rfl).trans ?_; refine (vbnd_0 (w1 k1)).trans ?_)); (first | (exact rfl) | (refine (vF_g rfl rfl).trans ?_; refine (vF_g rfl rfl).trans ?_; exact rfl) | (refine (vF_g rfl rfl).trans ?_; refine (vF_g rfl rfl).trans ?_; refine (vF_g rfl rfl).trans ?_; exact rfl) | (refine (vF_g rfl rfl).trans ?_; exact rfl)))), c1.c0, c1.d0, c1.c9, c1.d9, fun j hj => (c1.nE j hj).2, fun j hj => (c1.nV j hj).2, ok_tk h0⟩, fun w => absurd rfl w⟩
      · have e : oAll T (m + 1) c d E V p = ((1, tS T p), (c, d), (E, V)) := (if_pos k0).trans (if_neg k1)
        rw [e]
        exact ⟨fun w => absurd w n01, fun _ => ⟨_, s1 _ ((by (first | (refine (veq (tkq_2.trans k0)).trans ?_) | (refine (vF_g rfl rfl).trans ?_; refine (vF_g rfl rfl).trans ?_; refine (veq (tkq_2.trans k0)).trans ?_) | (refine (vF_g rfl rfl).trans ?_; refine (veq (tkq_2.trans k0)).trans ?_)); (first | (refine (vbnd_0 (w2 k1)).trans ?_) | (refine (vF_g rfl rfl).trans ?_; refine (vF_g rfl rfl).trans ?_; refine (vbnd_0 (w2 k1)).trans ?_) | (refine (vF_g rfl rfl).trans ?_; refine (vbnd_0 (w2 k1)).trans ?_)); (first | (exact rfl) | (refine (vF_g rfl rfl).trans ?_; refine (vF_g rfl rfl).trans ?_; exact rfl) | (refine (vF_g rfl rfl).trans ?_; refine (vF_g rfl rfl).trans ?_; refine (vF_g rfl rfl).trans ?_; exact rfl) | (refine (vF_g rfl rfl).trans ?_; exact rfl)))), er_tk h0⟩⟩
    · obtain ⟨w1, w2⟩ := v_stm (D := D) h h0
      have s2 : ∀ r, vFn (vM MT0 (D + 6)) nb_X2_parse (F1 + 2) 7 0 [vR 447, vI i] [] (tk9 f T p) = r → vFn (vM MT0 (D + 6)) nb_X2_parse (F1 + 4) 4 0 [vR 447, vI i] [] f = r := fun r hr => s1 _ ((by (first | (refine (vne (x := tk9 f T p 446 2) (y := 0) (show tk9 f T p 446 2 < 4294967296 by rw [tkq_2]; omega) (by decide) (by rw [tkq_2]; exact k0)).trans ?_) | (refine (vF_g rfl rfl).trans ?_; refine (vF_g rfl rfl).trans ?_; refine (vne (x := tk9 f T p 446 2) (y := 0) (show tk9 f T p 446 2 < 4294967296 by rw [tkq_2]; omega) (by decide) (by rw [tkq_2]; exact k0)).trans ?_) | (refine (vF_g rfl rfl).trans ?_; refine (vne (x := tk9 f T p 446 2) (y := 0) (show tk9 f T p 446 2 < 4294967296 by rw [tkq_2]; omega) (by decide) (by rw [tkq_2]; exact k0)).trans ?_)); (first | (exact hr) | (refine (vF_g rfl rfl).trans ?_; refine (vF_g rfl rfl).trans ?_; exact hr) | (refine (vF_g rfl rfl).trans ?_; exact hr))))
      by_cases k1 : (oStm T c d E V p).1.1 = 0
      · have e : oAll T (m + 1) c d E V p = oAll T m (oStm T c d E V p).2.1.1 (oStm T c d E V p).2.1.2 (oStm T c d E V p).2.2.1 (oStm T c d E V p).2.2.2 (oStm T c d E V p).1.2 := (if_neg k0).trans (if_pos k1)
        rw [e]
        obtain ⟨g, eg, cg, og⟩ := w1 k1
        have hlt := mo_Stm h.tx.2.2.2.2 h.le k1
        have s3 : ∀ r, vFn (vM MT0 (D + 6)) nb_X2_parse F1 4 0 [vR 447, vI (i + 1)] [] g = r → vFn (vM MT0 (D + 6)) nb_X2_parse (F1 + 4) 4 0 [vR 447, vI i] [] f = r := by
          intro r hr
          refine s2 r ?_
          (first | (refine (vbnd_0 eg).trans ?_) | (refine (vF_g rfl rfl).trans ?_; refine (vF_g rfl rfl).trans ?_; refine (vbnd_0 eg).trans ?_) | (refine (vF_g rfl rfl).trans ?_; refine (vbnd_0 eg).trans ?_))
          (first | (refine (vgt (x := 1) (y := 0) (by decide) (by decide)).trans ?_) | (refine (vF_g rfl rfl).trans ?_; refine (vF_g rfl rfl).trans ?_; refine (vgt (x := 1) (y := 0) (by decide) (by decide)).trans ?_) | (refine (vF_g rfl rfl).trans ?_; refine (vgt (x := 1) (y := 0) (by decide) (by decide)).trans ?_))
          (first | (refine Eq.trans (b := vFn (vM MT0 (D + 6)) nb_X2_parse F1 4 0 [vR 447, vI ((i + 1) % 4294967296)] [] g) rfl ?_) | (refine (vF_g rfl rfl).trans ?_; refine (vF_g rfl rfl).trans ?_; refine Eq.trans (b := vFn (vM MT0 (D + 6)) nb_X2_parse F1 4 0 [vR 447, vI ((i + 1) % 4294967296)] [] g) rfl ?_) | (refine (vF_g rfl rfl).trans ?_; refine Eq.trans (b := vFn (vM MT0 (D + 6)) nb_X2_parse F1 4 0 [vR 447, vI ((i + 1) % 4294967296)] [] g) rfl ?_))
          rw [Nat.mod_eq_of_lt (show i + 1 < 4294967296 by omega)]
          exact hr
        obtain ⟨t1, t2⟩ := ih (i + 1) _ _ _ F1 _ _ g (by omega) (by omega) (by omega) cg og
        refine ⟨fun w => ?_, fun w => ?_⟩
        · obtain ⟨g', a, b⟩ := t1 w
          exact ⟨g', s3 _ a, b⟩
        · obtain ⟨g', a, b⟩ := t2 w
          exact ⟨g', s3 _ a, b⟩
      · have e : oAll T (m + 1) c d E V p = oStm T c d E V p := (if_neg k0).trans (if_neg k1)
        rw [e]
        obtain ⟨g, eg, hg⟩ := w2 k1
        exact ⟨fun w => absurd w k1, fun _ => ⟨g, s2 _ ((by (first | (refine (vbnd_0 eg).trans ?_) | (refine (vF_g rfl rfl).trans ?_; refine (vF_g rfl rfl).trans ?_; refine (vbnd_0 eg).trans ?_) | (refine (vF_g rfl rfl).trans ?_; refine (vbnd_0 eg).trans ?_)); (first | (refine (veq (x := 0) (y := 0) rfl).trans ?_) | (refine (vF_g rfl rfl).trans ?_; refine (vF_g rfl rfl).trans ?_; refine (veq (x := 0) (y := 0) rfl).trans ?_) | (refine (vF_g rfl rfl).trans ?_; refine (veq (x := 0) (y := 0) rfl).trans ?_)); (first | (exact rfl) | (refine (vF_g rfl rfl).trans ?_; refine (vF_g rfl rfl).trans ?_; exact rfl) | (refine (vF_g rfl rfl).trans ?_; refine (vF_g rfl rfl).trans ?_; refine (vF_g rfl rfl).trans ?_; exact rfl) | (refine (vF_g rfl rfl).trans ?_; exact rfl)))), hg⟩⟩
theorem v_begin {D : Nat} {f : Vw} : vM MT0 (D + 1) 45 [vR 446] f = some ((1, 0), vW 3, vup (vup (vup f 446 1 0) 446 6 0) 446 7 4294967295) := vM_go rfl rfl rfl rfl fun F hF => (by (first | (exact rfl) | (refine (vF_g rfl rfl).trans ?_; refine (vF_g rfl rfl).trans ?_; exact rfl) | (refine (vF_g rfl rfl).trans ?_; refine (vF_g rfl rfl).trans ?_; refine (vF_g rfl rfl).trans ?_; exact rfl) | (refine (vF_g rfl rfl).trans ?_; exact rfl)))
noncomputable def clr (f : Vw) : Vw := vup (vup (vup (vup (vup (vup (vup (vup (vup f 46 2 0) 46 3 0) 46 4 0) 46 5 0) 46 6 0) 46 7 0) 46 8 0) 46 9 0) 46 10 0
theorem v_clear {D : Nat} {f : Vw} : vM MT0 (D + 1) 69 [vR 46] f = some ((1, 0), vW 3, clr f) := vM_go rfl rfl rfl rfl fun F hF => (by (first | (exact rfl) | (refine (vF_g rfl rfl).trans ?_; refine (vF_g rfl rfl).trans ?_; exact rfl) | (refine (vF_g rfl rfl).trans ?_; refine (vF_g rfl rfl).trans ?_; refine (vF_g rfl rfl).trans ?_; exact rfl) | (refine (vF_g rfl rfl).trans ?_; exact rfl)))
theorem clr_o {a b : Nat} {f : Vw} (h : a ≠ 46) : clr f a b = f a b := (vup_ne (Or.inl h)).trans ((vup_ne (Or.inl h)).trans ((vup_ne (Or.inl h)).trans ((vup_ne (Or.inl h)).trans ((vup_ne (Or.inl h)).trans ((vup_ne (Or.inl h)).trans ((vup_ne (Or.inl h)).trans ((vup_ne (Or.inl h)).trans (vup_ne (Or.inl h)))))))))
theorem clr_2 {f : Vw} : clr f 46 2 = 0 := rfl
theorem clr_3 {f : Vw} : clr f 46 3 = 0 := rfl
/-- a whole configuration -/
noncomputable def oCfg (T : Nat → Nat) : (Nat × Nat) × (Nat × Nat) × ((Nat → Nat → Nat) × (Nat → Nat → Nat)) :=
  if (oSeason T 0).1 = 0 then (if (oFog T (oSeason T 0).2).1 = 0 then oAll T 901 0 0 (fun _ _ => 0) (fun _ _ => 0) (oFog T (oSeason T 0).2).2 else (oFog T (oSeason T 0).2, (0, 0), (fun _ _ => 0, fun _ _ => 0))) else (oSeason T 0, (0, 0), (fun _ _ => 0, fun _ _ => 0))
theorem v_parse {D n : Nat} {T : Nat → Nat} {f : Vw} (hx : TxC f n T) : ((oCfg T).1.1 = 0 → ∃ g, vM MT0 (D + 7) 12 [vR 447] f = some ((0, 0), vI 1, g) ∧ g 46 2 = (oCfg T).2.1.1 ∧ g 46 3 = (oCfg T).2.1.2 ∧ (oCfg T).2.1.1 ≤ 12 ∧ (oCfg T).2.1.2 ≤ 8 ∧ (∀ j, j < (oCfg T).2.1.1 → ∀ i, i ≤ 4 → g (49 + j) i = (oCfg T).2.2.1 j i) ∧ (∀ j, j < (oCfg T).2.1.2 → ∀ i, i ≤ 4 → g (61 + 3 * j) i = (oCfg T).2.2.2 j i) ∧ OK0 f g) ∧ ((oCfg T).1.1 ≠ 0 → ∃ g, vM MT0 (D + 7) 12 [vR 447] f = some ((0, 0), vI 0, g) ∧ ER f (oCfg T).1.1 (oCfg T).1.2 g) := by
  have hn := hx.1
  have e1 := v_begin (D := D + 5) (f := f)
  have e2 := v_clear (D := D + 5) (f := vup (vup (vup f 446 1 0) 446 6 0) 446 7 4294967295)
  have o : ∀ a b, a ≠ 46 → a ≠ 446 → clr (vup (vup (vup f 446 1 0) 446 6 0) 446 7 4294967295) a b = f a b := fun a b h1 h2 => (clr_o h1).trans ((vup_ne (Or.inl h2)).trans ((vup_ne (Or.inl h2)).trans (vup_ne (Or.inl h2))))
  have c0 : VCS n T (fun _ _ => 0) (fun _ _ => 0) 0 0 0 (clr (vup (vup (vup f 446 1 0) 446 6 0) 446 7 4294967295)) := ⟨txC_of hx (fun _ => o _ _ (by decide) (by decide)) (fun _ => o _ _ (by decide) (by decide)), (clr_o (by decide)).trans ((vup_ne (Or.inr (by decide))).trans ((vup_ne (Or.inr (by decide))).trans vup_eq)), Nat.zero_le _, clr_2, by decide, clr_3, by decide, fun j hj => absurd hj (Nat.not_lt_zero j), fun j hj => absurd hj (Nat.not_lt_zero j)⟩
  have o0 : OK0 f (clr (vup (vup (vup f 446 1 0) 446 6 0) 446 7 4294967295)) := ⟨(clr_o (by decide)).trans ((vup_ne (Or.inr (by decide))).trans vup_eq), (clr_o (by decide)).trans vup_eq, fun k i hk h9 => o k i (by omega) h9⟩
  obtain ⟨a1, a2⟩ := v_season (D := D + 2) c0 o0
  unfold oCfg
  by_cases k1 : (oSeason T 0).1 = 0
  · rw [if_pos k1]
    obtain ⟨g1, e3, c1, o1⟩ := a1 k1
    obtain ⟨b1, b2⟩ := v_fog (D := D + 2) c1 o1
    by_cases k2 : (oFog T (oSeason T 0).2).1 = 0
    · rw [if_pos k2]
      obtain ⟨g2, e4, c2, o2⟩ := b1 k2
      obtain ⟨F, hF, go⟩ := vM_at (D := D + 6) (y := 12) (as := [vR 447]) (f := f) rfl rfl rfl rfl
      have s : ∀ r, vFn (vM MT0 (D + 6)) nb_X2_parse (F + 57) 4 0 [vR 447, vI 0] [] g2 = r → vM MT0 (D + 7) 12 [vR 447] f = r := fun r hr => go r <| (by (first | (refine (vbnd_1 e1).trans ?_) | (refine (vF_g rfl rfl).trans ?_; refine (vF_g rfl rfl).trans ?_; refine (vbnd_1 e1).trans ?_) | (refine (vF_g rfl rfl).trans ?_; refine (vbnd_1 e1).trans ?_)); (first | (refine (vbnd_1 e2).trans ?_) | (refine (vF_g rfl rfl).trans ?_; refine (vF_g rfl rfl).trans ?_; refine (vbnd_1 e2).trans ?_) | (refine (vF_g rfl rfl).trans ?_; refine (vbnd_1 e2).trans ?_)); (first | (refine (vbnd_0 e3).trans ?_) | (refine (vF_g rfl rfl).trans ?_; refine (vF_g rfl rfl).trans ?_; refine (vbnd_0 e3).trans ?_) | (refine (vF_g rfl rfl).trans ?_; refine (vbnd_0 e3).trans ?_)); (first | (refine (vgt (x := 1) (y := 0) (by decide) (by decide)).trans ?_) | (refine (vF_g rfl rfl).trans ?_; refine (vF_g rfl rfl).trans ?_; refine (vgt (x := 1) (y := 0) (by decide) (by decide)).trans ?_) | (refine (vF_g rfl rfl).trans ?_; refine (vgt (x := 1) (y := 0) (by decide) (by decide)).trans ?_)); (first | (refine (vbnd_0 e4).trans ?_) | (refine (vF_g rfl rfl).trans ?_; refine (vF_g rfl rfl).trans ?_; refine (vbnd_0 e4).trans ?_) | (refine (vF_g rfl rfl).trans ?_; refine (vbnd_0 e4).trans ?_)); (first | (refine (vgt (x := 1) (y := 0) (by decide) (by decide)).trans ?_) | (refine (vF_g rfl rfl).trans ?_; refine (vF_g rfl rfl).trans ?_; refine (vgt (x := 1) (y := 0) (by decide) (by decide)).trans ?_) | (refine (vF_g rfl rfl).trans ?_; refine (vgt (x := 1) (y := 0) (by decide) (by decide)).trans ?_)); (first | (exact hr) | (refine (vF_g rfl rfl).trans ?_; refine (vF_g rfl rfl).trans ?_; exact hr) | (refine (vF_g rfl rfl).trans ?_; exact hr)))
      obtain ⟨t1, t2⟩ := v_all (D := D) 901 0 0 0 _ (F + 57) _ _ g2 (by decide) (by omega) (by omega) c2 o2
      refine ⟨fun w => ?_, fun w => ?_⟩
      · obtain ⟨g', a, b⟩ := t1 w
        exact ⟨g', s _ a, b⟩
      · obtain ⟨g', a, b⟩ := t2 w
        exact ⟨g', s _ a, b⟩
    · rw [if_neg k2]
      obtain ⟨g2, e4, h2⟩ := b2 k2
      exact ⟨fun w => absurd w k2, fun _ => ⟨g2, vM_go rfl rfl rfl rfl fun F hF => (by (first | (refine (vbnd_1 e1).trans ?_) | (refine (vF_g rfl rfl).trans ?_; refine (vF_g rfl rfl).trans ?_; refine (vbnd_1 e1).trans ?_) | (refine (vF_g rfl rfl).trans ?_; refine (vbnd_1 e1).trans ?_)); (first | (refine (vbnd_1 e2).trans ?_) | (refine (vF_g rfl rfl).trans ?_; refine (vF_g rfl rfl).trans ?_; refine (vbnd_1 e2).trans ?_) | (refine (vF_g rfl rfl).trans ?_; refine (vbnd_1 e2).trans ?_)); (first | (refine (vbnd_0 e3).trans ?_) | (refine (vF_g rfl rfl).trans ?_; refine (vF_g rfl rfl).trans ?_; refine (vbnd_0 e3).trans ?_) | (refine (vF_g rfl rfl).trans ?_; refine (vbnd_0 e3).trans ?_)); (first | (refine (vgt (x := 1) (y := 0) (by decide) (by decide)).trans ?_) | (refine (vF_g rfl rfl).trans ?_; refine (vF_g rfl rfl).trans ?_; refine (vgt (x := 1) (y := 0) (by decide) (by decide)).trans ?_) | (refine (vF_g rfl rfl).trans ?_; refine (vgt (x := 1) (y := 0) (by decide) (by decide)).trans ?_)); (first | (refine (vbnd_0 e4).trans ?_) | (refine (vF_g rfl rfl).trans ?_; refine (vF_g rfl rfl).trans ?_; refine (vbnd_0 e4).trans ?_) | (refine (vF_g rfl rfl).trans ?_; refine (vbnd_0 e4).trans ?_)); (first | (refine (veq (x := 0) (y := 0) rfl).trans ?_) | (refine (vF_g rfl rfl).trans ?_; refine (vF_g rfl rfl).trans ?_; refine (veq (x := 0) (y := 0) rfl).trans ?_) | (refine (vF_g rfl rfl).trans ?_; refine (veq (x := 0) (y := 0) rfl).trans ?_)); (first | (exact rfl) | (refine (vF_g rfl rfl).trans ?_; refine (vF_g rfl rfl).trans ?_; exact rfl) | (refine (vF_g rfl rfl).trans ?_; refine (vF_g rfl rfl).trans ?_; refine (vF_g rfl rfl).trans ?_; exact rfl) | (refine (vF_g rfl rfl).trans ?_; exact rfl))), h2⟩⟩
  · rw [if_neg k1]
    obtain ⟨g1, e3, h1⟩ := a2 k1
    exact ⟨fun w => absurd w k1, fun _ => ⟨g1, vM_go rfl rfl rfl rfl fun F hF => (by (first | (refine (vbnd_1 e1).trans ?_) | (refine (vF_g rfl rfl).trans ?_; refine (vF_g rfl rfl).trans ?_; refine (vbnd_1 e1).trans ?_) | (refine (vF_g rfl rfl).trans ?_; refine (vbnd_1 e1).trans ?_)); (first | (refine (vbnd_1 e2).trans ?_) | (refine (vF_g rfl rfl).trans ?_; refine (vF_g rfl rfl).trans ?_; refine (vbnd_1 e2).trans ?_) | (refine (vF_g rfl rfl).trans ?_; refine (vbnd_1 e2).trans ?_)); (first | (refine (vbnd_0 e3).trans ?_) | (refine (vF_g rfl rfl).trans ?_; refine (vF_g rfl rfl).trans ?_; refine (vbnd_0 e3).trans ?_) | (refine (vF_g rfl rfl).trans ?_; refine (vbnd_0 e3).trans ?_)); (first | (refine (veq (x := 0) (y := 0) rfl).trans ?_) | (refine (vF_g rfl rfl).trans ?_; refine (vF_g rfl rfl).trans ?_; refine (veq (x := 0) (y := 0) rfl).trans ?_) | (refine (vF_g rfl rfl).trans ?_; refine (veq (x := 0) (y := 0) rfl).trans ?_)); (first | (exact rfl) | (refine (vF_g rfl rfl).trans ?_; refine (vF_g rfl rfl).trans ?_; exact rfl) | (refine (vF_g rfl rfl).trans ?_; refine (vF_g rfl rfl).trans ?_; refine (vF_g rfl rfl).trans ?_; exact rfl) | (refine (vF_g rfl rfl).trans ?_; exact rfl))), h1⟩⟩
end
