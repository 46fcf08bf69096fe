/-! the program's names of a world, taken -/
theorem fidx_c {g h : Nat → Nat} {x : Nat} : ∀ (m j : Nat), (∀ i, i < j + m → g i = h i) → fidx g x m j = fidx h x m j := by
  intro m
  induction m with
  | zero => intro j _; rfl
  | succ m ih =>
    intro j hh
    show (if g j = x then j else fidx g x m (j + 1)) = if h j = x then j else fidx h x m (j + 1)
    rw [hh j (by omega), ih (j + 1) (fun i hi => hh i (by omega))]
theorem fidx_lt {g : Nat → Nat} {x : Nat} : ∀ (m j : Nat), fidx g x m j = 4294967295 ∨ (j ≤ fidx g x m j ∧ fidx g x m j < j + m ∧ g (fidx g x m j) = x) := by
  intro m
  induction m with
  | zero => intro j; exact Or.inl rfl
  | succ m ih =>
    intro j
    show (if g j = x then j else fidx g x m (j + 1)) = 4294967295 ∨ (j ≤ (if g j = x then j else fidx g x m (j + 1)) ∧ (if g j = x then j else fidx g x m (j + 1)) < j + (m + 1) ∧ g (if g j = x then j else fidx g x m (j + 1)) = x)
    by_cases q : g j = x
    · rw [if_pos q]
      exact Or.inr ⟨Nat.le_refl _, by omega, q⟩
    · rw [if_neg q]
      rcases ih (j + 1) with h | ⟨h1, h2, h3⟩
      · exact Or.inl h
      · exact Or.inr ⟨by omega, by omega, h3⟩
theorem nmr_len {T : Nat → Nat} {s : Nat} : ∀ z : Nat, (nmr T s z).length = z := by
  intro z
  induction z with
  | zero => rfl
  | succ z ih =>
    show (nmr T s z).length + 1 = z + 1
    rw [ih]
theorem nmr_mem {T : Nat → Nat} {s c : Nat} : ∀ {z : Nat}, c ∈ nmr T s z → ∃ j, j < z ∧ T (s + j) = c := by
  intro z
  induction z with
  | zero => intro h; cases h
  | succ z ih =>
    intro h
    rcases List.mem_cons.mp h with q | q
    · exact ⟨z, Nat.lt_succ_self z, q.symm⟩
    · obtain ⟨j, h1, h2⟩ := ih q
      exact ⟨j, Nat.lt_succ_of_lt h1, h2⟩
theorem tN_lt {T : Nat → Nat} {p : Nat} (h : nOK T p) : pkr (tN T p) < 9223372036854775808 := by
  have h1 : ∀ c ∈ tN T p, c < 256 := by
    intro c hc
    obtain ⟨j, hj, rfl⟩ := nmr_mem hc
    have := word_l h.1 j hj
    omega
  have h2 := pkr_lt h1
  have h3 : (tN T p).length ≤ 6 := by
    unfold tN
    rw [nmr_len]
    exact h.2
  have h4 : 256 ^ (tN T p).length ≤ 256 ^ 6 := Nat.pow_le_pow_right (by decide) h3
  have h5 : 256 ^ 6 < 9223372036854775808 := by decide
  omega
theorem v_takeEcho46 {D n p c : Nat} {T N : Nat → Nat} {f : Vw} (hx : TxC f n T) (hp9 : f 446 1 = p) (hp : p ≤ n) (hc : f 46 2 = c) (hc9 : c ≤ 12) (hN : ∀ j, j < c → f (49 + j) 0 = N j ∧ N j < 9223372036854775808) : (¬ nOK T p → vM MT0 (D + 4) 57 [vR 446, vR 46] f = some ((0, 0), vI 0, fl 1 (tk9 f T p))) ∧ (nOK T p → fidx N (pkr (tN T p)) c 0 = 4294967295 → vM MT0 (D + 4) 57 [vR 446, vR 46] f = some ((0, 0), vI 0, fl 3 (vup (tk9 f T p) 446 5 (fidx N (pkr (tN T p)) c 0)))) ∧ (nOK T p → fidx N (pkr (tN T p)) c 0 ≠ 4294967295 → vM MT0 (D + 4) 57 [vR 446, vR 46] f = some ((0, 0), vI 1, vup (tk9 f T p) 446 5 (fidx N (pkr (tN T p)) c 0))) := by
  obtain ⟨a1, a2⟩ := tS_le hx.2.2.2.2 hp
  have hn9 := hx.1
  obtain ⟨w1, w2⟩ := v_isName9 (D := D + 2) (txC_tk (f := f) (p := p) hx) hp tkq_2 tkq_4
  have g : ∀ j, j < c → tk9 f T p (49 + j) 0 = N j := fun j hj => (tkv_o (Or.inr (Or.inl rfl))).trans (hN j hj).1
  have e5 : vup (tk9 f T p) 446 5 (fidx N (pkr (tN T p)) c 0) 446 5 = fidx N (pkr (tN T p)) c 0 := vup_eq
  have key : nOK T p → ∀ F, vFn (vM MT0 (D + 3)) nb_X7_takeEcho (F + 60) 0 0 [vR 446, vR 46] [] f = vc3 (bv ((vup (tk9 f T p) 446 5 (fidx N (pkr (tN T p)) c 0)) 446 5)) (bv 4294967295) (vFn (vM MT0 (D + 3)) nb_X7_takeEcho (F + 58) 4 0 [vR 446, vR 46] [] (vup (tk9 f T p) 446 5 (fidx N (pkr (tN T p)) c 0))) (vFn (vM MT0 (D + 3)) nb_X7_takeEcho (F + 58) 3 0 [vR 446, vR 46] [] (vup (tk9 f T p) 446 5 (fidx N (pkr (tN T p)) c 0))) (vFn (vM MT0 (D + 3)) nb_X7_takeEcho (F + 58) 4 0 [vR 446, vR 46] [] (vup (tk9 f T p) 446 5 (fidx N (pkr (tN T p)) c 0))) := by
    intro h F
    have e1 := v_nameAt (D := D + 1) (s := tk9 f T p 446 3) (z := tk9 f T p 446 4) (txC_tk (f := f) (p := p) hx) (by rw [tkq_3]; omega) (by rw [tkq_4]; exact word_1 h.1) (by rw [tkq_4]; exact h.2) (fun j hj => by rw [tkq_3]; exact word_l h.1 j (by rw [← tkq_4]; exact hj))
    rw [tkq_3, tkq_4] at e1
    have e2 := v_echoNamed46 (D := D + 2) (x := pkr (tN T p)) (c := c) (f := tk9 f T p) (tN_lt h) ((tkv_o (Or.inl (by decide))).trans hc) hc9 (fun j hj => by rw [g j hj]; exact (hN j hj).2)
    rw [fidx_c (h := N) c 0 (fun i hi => g i (by omega))] at e2
    (first | (refine (vbnd_1 (v_next9 hx hp9 hp)).trans ?_) | (refine (vF_g rfl rfl).trans ?_; refine (vF_g rfl rfl).trans ?_; refine (vbnd_1 (v_next9 hx hp9 hp)).trans ?_) | (refine (vF_g rfl rfl).trans ?_; refine (vbnd_1 (v_next9 hx hp9 hp)).trans ?_))
    (first | (refine (vbnd_0 (w1 h)).trans ?_) | (refine (vF_g rfl rfl).trans ?_; refine (vF_g rfl rfl).trans ?_; refine (vbnd_0 (w1 h)).trans ?_) | (refine (vF_g rfl rfl).trans ?_; refine (vbnd_0 (w1 h)).trans ?_))
    (first | (refine (vgt (x := 1) (y := 0) (by decide) (by decide)).trans ?_) | (refine (vF_g rfl rfl).trans ?_; refine (vF_g rfl rfl).trans ?_; refine (vgt (x := 1) (y := 0) (by decide) (by decide)).trans ?_) | (refine (vF_g rfl rfl).trans ?_; refine (vgt (x := 1) (y := 0) (by decide) (by decide)).trans ?_))
    (first | (refine (vbnd_0 e1).trans ?_) | (refine (vF_g rfl rfl).trans ?_; refine (vF_g rfl rfl).trans ?_; refine (vbnd_0 e1).trans ?_) | (refine (vF_g rfl rfl).trans ?_; refine (vbnd_0 e1).trans ?_))
    (first | (refine (vbnd_0 e2).trans ?_) | (refine (vF_g rfl rfl).trans ?_; refine (vF_g rfl rfl).trans ?_; refine (vbnd_0 e2).trans ?_) | (refine (vF_g rfl rfl).trans ?_; refine (vbnd_0 e2).trans ?_))
    (first | (exact rfl) | (refine (vF_g rfl rfl).trans ?_; refine (vF_g rfl rfl).trans ?_; exact rfl) | (refine (vF_g rfl rfl).trans ?_; refine (vF_g rfl rfl).trans ?_; refine (vF_g rfl rfl).trans ?_; exact rfl) | (refine (vF_g rfl rfl).trans ?_; exact rfl))
  refine ⟨fun h => ?_, fun h h2 => ?_, fun h h2 => ?_⟩
  · refine vM_go rfl rfl rfl rfl fun F hF => ?_
    (first | (refine (vbnd_1 (v_next9 hx hp9 hp)).trans ?_) | (refine (vF_g rfl rfl).trans ?_; refine (vF_g rfl rfl).trans ?_; refine (vbnd_1 (v_next9 hx hp9 hp)).trans ?_) | (refine (vF_g rfl rfl).trans ?_; refine (vbnd_1 (v_next9 hx hp9 hp)).trans ?_))
    (first | (refine (vbnd_0 (w2 h)).trans ?_) | (refine (vF_g rfl rfl).trans ?_; refine (vF_g rfl rfl).trans ?_; refine (vbnd_0 (w2 h)).trans ?_) | (refine (vF_g rfl rfl).trans ?_; refine (vbnd_0 (w2 h)).trans ?_))
    (first | (refine (veq (x := 0) (y := 0) rfl).trans ?_) | (refine (vF_g rfl rfl).trans ?_; refine (vF_g rfl rfl).trans ?_; refine (veq (x := 0) (y := 0) rfl).trans ?_) | (refine (vF_g rfl rfl).trans ?_; refine (veq (x := 0) (y := 0) rfl).trans ?_))
    (first | (refine (vbnd_0 v_fail9).trans ?_) | (refine (vF_g rfl rfl).trans ?_; refine (vF_g rfl rfl).trans ?_; refine (vbnd_0 v_fail9).trans ?_) | (refine (vF_g rfl rfl).trans ?_; refine (vbnd_0 v_fail9).trans ?_))
    (first | (exact rfl) | (refine (vF_g rfl rfl).trans ?_; refine (vF_g rfl rfl).trans ?_; exact rfl) | (refine (vF_g rfl rfl).trans ?_; refine (vF_g rfl rfl).trans ?_; refine (vF_g rfl rfl).trans ?_; exact rfl) | (refine (vF_g rfl rfl).trans ?_; exact rfl))
  · refine vM_go rfl rfl rfl rfl fun F hF => (key h F).trans ?_
    (first | (refine (veq (e5.trans h2)).trans ?_) | (refine (vF_g rfl rfl).trans ?_; refine (vF_g rfl rfl).trans ?_; refine (veq (e5.trans h2)).trans ?_) | (refine (vF_g rfl rfl).trans ?_; refine (veq (e5.trans h2)).trans ?_))
    (first | (refine (vbnd_0 v_fail9).trans ?_) | (refine (vF_g rfl rfl).trans ?_; refine (vF_g rfl rfl).trans ?_; refine (vbnd_0 v_fail9).trans ?_) | (refine (vF_g rfl rfl).trans ?_; refine (vbnd_0 v_fail9).trans ?_))
    (first | (refine (veq (x := 0) (y := 0) rfl).trans ?_) | (refine (vF_g rfl rfl).trans ?_; refine (vF_g rfl rfl).trans ?_; refine (veq (x := 0) (y := 0) rfl).trans ?_) | (refine (vF_g rfl rfl).trans ?_; refine (veq (x := 0) (y := 0) rfl).trans ?_))
    (first | (exact rfl) | (refine (vF_g rfl rfl).trans ?_; refine (vF_g rfl rfl).trans ?_; exact rfl) | (refine (vF_g rfl rfl).trans ?_; refine (vF_g rfl rfl).trans ?_; refine (vF_g rfl rfl).trans ?_; exact rfl) | (refine (vF_g rfl rfl).trans ?_; exact rfl))
  · have hl : fidx N (pkr (tN T p)) c 0 < 4294967296 := by
      rcases fidx_lt (g := N) (x := pkr (tN T p)) c 0 with q | ⟨_, q, _⟩ <;> omega
    refine vM_go rfl rfl rfl rfl fun F hF => (key h F).trans ?_
    (first | (refine (vne (by rw [e5]; exact hl) (by decide) (by rw [e5]; exact h2)).trans ?_) | (refine (vF_g rfl rfl).trans ?_; refine (vF_g rfl rfl).trans ?_; refine (vne (by rw [e5]; exact hl) (by decide) (by rw [e5]; exact h2)).trans ?_) | (refine (vF_g rfl rfl).trans ?_; refine (vne (by rw [e5]; exact hl) (by decide) (by rw [e5]; exact h2)).trans ?_))
    (first | (exact rfl) | (refine (vF_g rfl rfl).trans ?_; refine (vF_g rfl rfl).trans ?_; exact rfl) | (refine (vF_g rfl rfl).trans ?_; refine (vF_g rfl rfl).trans ?_; refine (vF_g rfl rfl).trans ?_; exact rfl) | (refine (vF_g rfl rfl).trans ?_; exact rfl))
theorem v_takeValley46 {D n p c : Nat} {T N : Nat → Nat} {f : Vw} (hx : TxC f n T) (hp9 : f 446 1 = p) (hp : p ≤ n) (hc : f 46 3 = c) (hc9 : c ≤ 8) (hN : ∀ j, j < c → f (61 + 3 * j) 0 = N j ∧ N j < 9223372036854775808) : (¬ nOK T p → vM MT0 (D + 4) 58 [vR 446, vR 46] f = some ((0, 0), vI 0, fl 1 (tk9 f T p))) ∧ (nOK T p → fidx N (pkr (tN T p)) c 0 = 4294967295 → vM MT0 (D + 4) 58 [vR 446, vR 46] f = some ((0, 0), vI 0, fl 3 (vup (tk9 f T p) 446 5 (fidx N (pkr (tN T p)) c 0)))) ∧ (nOK T p → fidx N (pkr (tN T p)) c 0 ≠ 4294967295 → vM MT0 (D + 4) 58 [vR 446, vR 46] f = some ((0, 0), vI 1, vup (tk9 f T p) 446 5 (fidx N (pkr (tN T p)) c 0))) := by
  obtain ⟨a1, a2⟩ := tS_le hx.2.2.2.2 hp
  have hn9 := hx.1
  obtain ⟨w1, w2⟩ := v_isName9 (D := D + 2) (txC_tk (f := f) (p := p) hx) hp tkq_2 tkq_4
  have g : ∀ j, j < c → tk9 f T p (61 + 3 * j) 0 = N j := fun j hj => (tkv_o (Or.inr (Or.inl rfl))).trans (hN j hj).1
  have e5 : vup (tk9 f T p) 446 5 (fidx N (pkr (tN T p)) c 0) 446 5 = fidx N (pkr (tN T p)) c 0 := vup_eq
  have key : nOK T p → ∀ F, vFn (vM MT0 (D + 3)) nb_X7_takeValley (F + 60) 0 0 [vR 446, vR 46] [] f = vc3 (bv ((vup (tk9 f T p) 446 5 (fidx N (pkr (tN T p)) c 0)) 446 5)) (bv 4294967295) (vFn (vM MT0 (D + 3)) nb_X7_takeValley (F + 58) 4 0 [vR 446, vR 46] [] (vup (tk9 f T p) 446 5 (fidx N (pkr (tN T p)) c 0))) (vFn (vM MT0 (D + 3)) nb_X7_takeValley (F + 58) 3 0 [vR 446, vR 46] [] (vup (tk9 f T p) 446 5 (fidx N (pkr (tN T p)) c 0))) (vFn (vM MT0 (D + 3)) nb_X7_takeValley (F + 58) 4 0 [vR 446, vR 46] [] (vup (tk9 f T p) 446 5 (fidx N (pkr (tN T p)) c 0))) := by
    intro h F
    have e1 := v_nameAt (D := D + 1) (s := tk9 f T p 446 3) (z := tk9 f T p 446 4) (txC_tk (f := f) (p := p) hx) (by rw [tkq_3]; omega) (by rw [tkq_4]; exact word_1 h.1) (by rw [tkq_4]; exact h.2) (fun j hj => by rw [tkq_3]; exact word_l h.1 j (by rw [← tkq_4]; exact hj))
    rw [tkq_3, tkq_4] at e1
    have e2 := v_valleyNamed46 (D := D + 2) (x := pkr (tN T p)) (c := c) (f := tk9 f T p) (tN_lt h) ((tkv_o (Or.inl (by decide))).trans hc) hc9 (fun j hj => by rw [g j hj]; exact (hN j hj).2)
    rw [fidx_c (h := N) c 0 (fun i hi => g i (by omega))] at e2
    (first | (refine (vbnd_1 (v_next9 hx hp9 hp)).trans ?_) | (refine (vF_g rfl rfl).trans ?_; refine (vF_g rfl rfl).trans ?_; refine (vbnd_1 (v_next9 hx hp9 hp)).trans ?_) | (refine (vF_g rfl rfl).trans ?_; refine (vbnd_1 (v_next9 hx hp9 hp)).trans ?_))
    (first | (refine (vbnd_0 (w1 h)).trans ?_) | (refine (vF_g rfl rfl).trans ?_; refine (vF_g rfl rfl).trans ?_; refine (vbnd_0 (w1 h)).trans ?_) | (refine (vF_g rfl rfl).trans ?_; refine (vbnd_0 (w1 h)).trans ?_))
    (first | (refine (vgt (x := 1) (y := 0) (by decide) (by decide)).trans ?_) | (refine (vF_g rfl rfl).trans ?_; refine (vF_g rfl rfl).trans ?_; refine (vgt (x := 1) (y := 0) (by decide) (by decide)).trans ?_) | (refine (vF_g rfl rfl).trans ?_; refine (vgt (x := 1) (y := 0) (by decide) (by decide)).trans ?_))
    (first | (refine (vbnd_0 e1).trans ?_) | (refine (vF_g rfl rfl).trans ?_; refine (vF_g rfl rfl).trans ?_; refine (vbnd_0 e1).trans ?_) | (refine (vF_g rfl rfl).trans ?_; refine (vbnd_0 e1).trans ?_))
    (first | (refine (vbnd_0 e2).trans ?_) | (refine (vF_g rfl rfl).trans ?_; refine (vF_g rfl rfl).trans ?_; refine (vbnd_0 e2).trans ?_) | (refine (vF_g rfl rfl).trans ?_; refine (vbnd_0 e2).trans ?_))
    (first | (exact rfl) | (refine (vF_g rfl rfl).trans ?_; refine (vF_g rfl rfl).trans ?_; exact rfl) | (refine (vF_g rfl rfl).trans ?_; refine (vF_g rfl rfl).trans ?_; refine (vF_g rfl rfl).trans ?_; exact rfl) | (refine (vF_g rfl rfl).trans ?_; exact rfl))
  refine ⟨fun h => ?_, fun h h2 => ?_, fun h h2 => ?_⟩
  · refine vM_go rfl rfl rfl rfl fun F hF => ?_
    (first | (refine (vbnd_1 (v_next9 hx hp9 hp)).trans ?_) | (refine (vF_g rfl rfl).trans ?_; refine (vF_g rfl rfl).trans ?_; refine (vbnd_1 (v_next9 hx hp9 hp)).trans ?_) | (refine (vF_g rfl rfl).trans ?_; refine (vbnd_1 (v_next9 hx hp9 hp)).trans ?_))
    (first | (refine (vbnd_0 (w2 h)).trans ?_) | (refine (vF_g rfl rfl).trans ?_; refine (vF_g rfl rfl).trans ?_; refine (vbnd_0 (w2 h)).trans ?_) | (refine (vF_g rfl rfl).trans ?_; refine (vbnd_0 (w2 h)).trans ?_))
    (first | (refine (veq (x := 0) (y := 0) rfl).trans ?_) | (refine (vF_g rfl rfl).trans ?_; refine (vF_g rfl rfl).trans ?_; refine (veq (x := 0) (y := 0) rfl).trans ?_) | (refine (vF_g rfl rfl).trans ?_; refine (veq (x := 0) (y := 0) rfl).trans ?_))
    (first | (refine (vbnd_0 v_fail9).trans ?_) | (refine (vF_g rfl rfl).trans ?_; refine (vF_g rfl rfl).trans ?_; refine (vbnd_0 v_fail9).trans ?_) | (refine (vF_g rfl rfl).trans ?_; refine (vbnd_0 v_fail9).trans ?_))
    (first | (exact rfl) | (refine (vF_g rfl rfl).trans ?_; refine (vF_g rfl rfl).trans ?_; exact rfl) | (refine (vF_g rfl rfl).trans ?_; refine (vF_g rfl rfl).trans ?_; refine (vF_g rfl rfl).trans ?_; exact rfl) | (refine (vF_g rfl rfl).trans ?_; exact rfl))
  · refine vM_go rfl rfl rfl rfl fun F hF => (key h F).trans ?_
    (first | (refine (veq (e5.trans h2)).trans ?_) | (refine (vF_g rfl rfl).trans ?_; refine (vF_g rfl rfl).trans ?_; refine (veq (e5.trans h2)).trans ?_) | (refine (vF_g rfl rfl).trans ?_; refine (veq (e5.trans h2)).trans ?_))
    (first | (refine (vbnd_0 v_fail9).trans ?_) | (refine (vF_g rfl rfl).trans ?_; refine (vF_g rfl rfl).trans ?_; refine (vbnd_0 v_fail9).trans ?_) | (refine (vF_g rfl rfl).trans ?_; refine (vbnd_0 v_fail9).trans ?_))
    (first | (refine (veq (x := 0) (y := 0) rfl).trans ?_) | (refine (vF_g rfl rfl).trans ?_; refine (vF_g rfl rfl).trans ?_; refine (veq (x := 0) (y := 0) rfl).trans ?_) | (refine (vF_g rfl rfl).trans ?_; refine (veq (x := 0) (y := 0) rfl).trans ?_))
    (first | (exact rfl) | (refine (vF_g rfl rfl).trans ?_; refine (vF_g rfl rfl).trans ?_; exact rfl) | (refine (vF_g rfl rfl).trans ?_; refine (vF_g rfl rfl).trans ?_; refine (vF_g rfl rfl).trans ?_; exact rfl) | (refine (vF_g rfl rfl).trans ?_; exact rfl))
  · have hl : fidx N (pkr (tN T p)) c 0 < 4294967296 := by
      rcases fidx_lt (g := N) (x := pkr (tN T p)) c 0 with q | ⟨_, q, _⟩ <;> omega
    refine vM_go rfl rfl rfl rfl fun F hF => (key h F).trans ?_
    (first | (refine (vne (by rw [e5]; exact hl) (by decide) (by rw [e5]; exact h2)).trans ?_) | (refine (vF_g rfl rfl).trans ?_; refine (vF_g rfl rfl).trans ?_; refine (vne (by rw [e5]; exact hl) (by decide) (by rw [e5]; exact h2)).trans ?_) | (refine (vF_g rfl rfl).trans ?_; refine (vne (by rw [e5]; exact hl) (by decide) (by rw [e5]; exact h2)).trans ?_))
    (first | (exact rfl) | (refine (vF_g rfl rfl).trans ?_; refine (vF_g rfl rfl).trans ?_; exact rfl) | (refine (vF_g rfl rfl).trans ?_; refine (vF_g rfl rfl).trans ?_; refine (vF_g rfl rfl).trans ?_; exact rfl) | (refine (vF_g rfl rfl).trans ?_; exact rfl))
theorem v_takeEcho7 {D n p c : Nat} {T N : Nat → Nat} {f : Vw} (hx : TxC f n T) (hp9 : f 446 1 = p) (hp : p ≤ n) (hc : f 7 2 = c) (hc9 : c ≤ 12) (hN : ∀ j, j < c → f (10 + j) 0 = N j ∧ N j < 9223372036854775808) : (¬ nOK T p → vM MT0 (D + 4) 57 [vR 446, vR 7] f = some ((0, 0), vI 0, fl 1 (tk9 f T p))) ∧ (nOK T p → fidx N (pkr (tN T p)) c 0 = 4294967295 → vM MT0 (D + 4) 57 [vR 446, vR 7] f = some ((0, 0), vI 0, fl 3 (vup (tk9 f T p) 446 5 (fidx N (pkr (tN T p)) c 0)))) ∧ (nOK T p → fidx N (pkr (tN T p)) c 0 ≠ 4294967295 → vM MT0 (D + 4) 57 [vR 446, vR 7] f = some ((0, 0), vI 1, vup (tk9 f T p) 446 5 (fidx N (pkr (tN T p)) c 0))) := by
  obtain ⟨a1, a2⟩ := tS_le hx.2.2.2.2 hp
  have hn9 := hx.1
  obtain ⟨w1, w2⟩ := v_isName9 (D := D + 2) (txC_tk (f := f) (p := p) hx) hp tkq_2 tkq_4
  have g : ∀ j, j < c → tk9 f T p (10 + j) 0 = N j := fun j hj => (tkv_o (Or.inr (Or.inl rfl))).trans (hN j hj).1
  have e5 : vup (tk9 f T p) 446 5 (fidx N (pkr (tN T p)) c 0) 446 5 = fidx N (pkr (tN T p)) c 0 := vup_eq
  have key : nOK T p → ∀ F, vFn (vM MT0 (D + 3)) nb_X7_takeEcho (F + 60) 0 0 [vR 446, vR 7] [] f = vc3 (bv ((vup (tk9 f T p) 446 5 (fidx N (pkr (tN T p)) c 0)) 446 5)) (bv 4294967295) (vFn (vM MT0 (D + 3)) nb_X7_takeEcho (F + 58) 4 0 [vR 446, vR 7] [] (vup (tk9 f T p) 446 5 (fidx N (pkr (tN T p)) c 0))) (vFn (vM MT0 (D + 3)) nb_X7_takeEcho (F + 58) 3 0 [vR 446, vR 7] [] (vup (tk9 f T p) 446 5 (fidx N (pkr (tN T p)) c 0))) (vFn (vM MT0 (D + 3)) nb_X7_takeEcho (F + 58) 4 0 [vR 446, vR 7] [] (vup (tk9 f T p) 446 5 (fidx N (pkr (tN T p)) c 0))) := by
    intro h F
    have e1 := v_nameAt (D := D + 1) (s := tk9 f T p 446 3) (z := tk9 f T p 446 4) (txC_tk (f := f) (p := p) hx) (by rw [tkq_3]; omega) (by rw [tkq_4]; exact word_1 h.1) (by rw [tkq_4]; exact h.2) (fun j hj => by rw [tkq_3]; exact word_l h.1 j (by rw [← tkq_4]; exact hj))
    rw [tkq_3, tkq_4] at e1
    have e2 := v_echoNamed7 (D := D + 2) (x := pkr (tN T p)) (c := c) (f := tk9 f T p) (tN_lt h) ((tkv_o (Or.inl (by decide))).trans hc) hc9 (fun j hj => by rw [g j hj]; exact (hN j hj).2)
    rw [fidx_c (h := N) c 0 (fun i hi => g i (by omega))] at e2
    (first | (refine (vbnd_1 (v_next9 hx hp9 hp)).trans ?_) | (refine (vF_g rfl rfl).trans ?_; refine (vF_g rfl rfl).trans ?_; refine (vbnd_1 (v_next9 hx hp9 hp)).trans ?_) | (refine (vF_g rfl rfl).trans ?_; refine (vbnd_1 (v_next9 hx hp9 hp)).trans ?_))
    (first | (refine (vbnd_0 (w1 h)).trans ?_) | (refine (vF_g rfl rfl).trans ?_; refine (vF_g rfl rfl).trans ?_; refine (vbnd_0 (w1 h)).trans ?_) | (refine (vF_g rfl rfl).trans ?_; refine (vbnd_0 (w1 h)).trans ?_))
    (first | (refine (vgt (x := 1) (y := 0) (by decide) (by decide)).trans ?_) | (refine (vF_g rfl rfl).trans ?_; refine (vF_g rfl rfl).trans ?_; refine (vgt (x := 1) (y := 0) (by decide) (by decide)).trans ?_) | (refine (vF_g rfl rfl).trans ?_; refine (vgt (x := 1) (y := 0) (by decide) (by decide)).trans ?_))
    (first | (refine (vbnd_0 e1).trans ?_) | (refine (vF_g rfl rfl).trans ?_; refine (vF_g rfl rfl).trans ?_; refine (vbnd_0 e1).trans ?_) | (refine (vF_g rfl rfl).trans ?_; refine (vbnd_0 e1).trans ?_))
    (first | (refine (vbnd_0 e2).trans ?_) | (refine (vF_g rfl rfl).trans ?_; refine (vF_g rfl rfl).trans ?_; refine (vbnd_0 e2).trans ?_) | (refine (vF_g rfl rfl).trans ?_; refine (vbnd_0 e2).trans ?_))
    (first | (exact rfl) | (refine (vF_g rfl rfl).trans ?_; refine (vF_g rfl rfl).trans ?_; exact rfl) | (refine (vF_g rfl rfl).trans ?_; refine (vF_g rfl rfl).trans ?_; refine (vF_g rfl rfl).trans ?_; exact rfl) | (refine (vF_g rfl rfl).trans ?_; exact rfl))
  refine ⟨fun h => ?_, fun h h2 => ?_, fun h h2 => ?_⟩
  · refine vM_go rfl rfl rfl rfl fun F hF => ?_
    (first | (refine (vbnd_1 (v_next9 hx hp9 hp)).trans ?_) | (refine (vF_g rfl rfl).trans ?_; refine (vF_g rfl rfl).trans ?_; refine (vbnd_1 (v_next9 hx hp9 hp)).trans ?_) | (refine (vF_g rfl rfl).trans ?_; refine (vbnd_1 (v_next9 hx hp9 hp)).trans ?_))
    (first | (refine (vbnd_0 (w2 h)).trans ?_) | (refine (vF_g rfl rfl).trans ?_; refine (vF_g rfl rfl).trans ?_; refine (vbnd_0 (w2 h)).trans ?_) | (refine (vF_g rfl rfl).trans ?_; refine (vbnd_0 (w2 h)).trans ?_))
    (first | (refine (veq (x := 0) (y := 0) rfl).trans ?_) | (refine (vF_g rfl rfl).trans ?_; refine (vF_g rfl rfl).trans ?_; refine (veq (x := 0) (y := 0) rfl).trans ?_) | (refine (vF_g rfl rfl).trans ?_; refine (veq (x := 0) (y := 0) rfl).trans ?_))
    (first | (refine (vbnd_0 v_fail9).trans ?_) | (refine (vF_g rfl rfl).trans ?_; refine (vF_g rfl rfl).trans ?_; refine (vbnd_0 v_fail9).trans ?_) | (refine (vF_g rfl rfl).trans ?_; refine (vbnd_0 v_fail9).trans ?_))
    (first | (exact rfl) | (refine (vF_g rfl rfl).trans ?_; refine (vF_g rfl rfl).trans ?_; exact rfl) | (refine (vF_g rfl rfl).trans ?_; refine (vF_g rfl rfl).trans ?_; refine (vF_g rfl rfl).trans ?_; exact rfl) | (refine (vF_g rfl rfl).trans ?_; exact rfl))
  · refine vM_go rfl rfl rfl rfl fun F hF => (key h F).trans ?_
    (first | (refine (veq (e5.trans h2)).trans ?_) | (refine (vF_g rfl rfl).trans ?_; refine (vF_g rfl rfl).trans ?_; refine (veq (e5.trans h2)).trans ?_) | (refine (vF_g rfl rfl).trans ?_; refine (veq (e5.trans h2)).trans ?_))
    (first | (refine (vbnd_0 v_fail9).trans ?_) | (refine (vF_g rfl rfl).trans ?_; refine (vF_g rfl rfl).trans ?_; refine (vbnd_0 v_fail9).trans ?_) | (refine (vF_g rfl rfl).trans ?_; refine (vbnd_0 v_fail9).trans ?_))
    (first | (refine (veq (x := 0) (y := 0) rfl).trans ?_) | (refine (vF_g rfl rfl).trans ?_; refine (vF_g rfl rfl).trans ?_; refine (veq (x := 0) (y := 0) rfl).trans ?_) | (refine (vF_g rfl rfl).trans ?_; refine (veq (x := 0) (y := 0) rfl).trans ?_))
    (first | (exact rfl) | (refine (vF_g rfl rfl).trans ?_; refine (vF_g rfl rfl).trans ?_; exact rfl) | (refine (vF_g rfl rfl).trans ?_; refine (vF_g rfl rfl).trans ?_; refine (vF_g rfl rfl).trans ?_; exact rfl) | (refine (vF_g rfl rfl).trans ?_; exact rfl))
  · have hl : fidx N (pkr (tN T p)) c 0 < 4294967296 := by
      rcases fidx_lt (g := N) (x := pkr (tN T p)) c 0 with q | ⟨_, q, _⟩ <;> omega
    refine vM_go rfl rfl rfl rfl fun F hF => (key h F).trans ?_
    (first | (refine (vne (by rw [e5]; exact hl) (by decide) (by rw [e5]; exact h2)).trans ?_) | (refine (vF_g rfl rfl).trans ?_; refine (vF_g rfl rfl).trans ?_; refine (vne (by rw [e5]; exact hl) (by decide) (by rw [e5]; exact h2)).trans ?_) | (refine (vF_g rfl rfl).trans ?_; refine (vne (by rw [e5]; exact hl) (by decide) (by rw [e5]; exact h2)).trans ?_))
    (first | (exact rfl) | (refine (vF_g rfl rfl).trans ?_; refine (vF_g rfl rfl).trans ?_; exact rfl) | (refine (vF_g rfl rfl).trans ?_; refine (vF_g rfl rfl).trans ?_; refine (vF_g rfl rfl).trans ?_; exact rfl) | (refine (vF_g rfl rfl).trans ?_; exact rfl))
theorem v_takeValley7 {D n p c : Nat} {T N : Nat → Nat} {f : Vw} (hx : TxC f n T) (hp9 : f 446 1 = p) (hp : p ≤ n) (hc : f 7 3 = c) (hc9 : c ≤ 8) (hN : ∀ j, j < c → f (22 + 3 * j) 0 = N j ∧ N j < 9223372036854775808) : (¬ nOK T p → vM MT0 (D + 4) 58 [vR 446, vR 7] f = some ((0, 0), vI 0, fl 1 (tk9 f T p))) ∧ (nOK T p → fidx N (pkr (tN T p)) c 0 = 4294967295 → vM MT0 (D + 4) 58 [vR 446, vR 7] f = some ((0, 0), vI 0, fl 3 (vup (tk9 f T p) 446 5 (fidx N (pkr (tN T p)) c 0)))) ∧ (nOK T p → fidx N (pkr (tN T p)) c 0 ≠ 4294967295 → vM MT0 (D + 4) 58 [vR 446, vR 7] f = some ((0, 0), vI 1, vup (tk9 f T p) 446 5 (fidx N (pkr (tN T p)) c 0))) := by
  obtain ⟨a1, a2⟩ := tS_le hx.2.2.2.2 hp
  have hn9 := hx.1
  obtain ⟨w1, w2⟩ := v_isName9 (D := D + 2) (txC_tk (f := f) (p := p) hx) hp tkq_2 tkq_4
  have g : ∀ j, j < c → tk9 f T p (22 + 3 * j) 0 = N j := fun j hj => (tkv_o (Or.inr (Or.inl rfl))).trans (hN j hj).1
  have e5 : vup (tk9 f T p) 446 5 (fidx N (pkr (tN T p)) c 0) 446 5 = fidx N (pkr (tN T p)) c 0 := vup_eq
  have key : nOK T p → ∀ F, vFn (vM MT0 (D + 3)) nb_X7_takeValley (F + 60) 0 0 [vR 446, vR 7] [] f = vc3 (bv ((vup (tk9 f T p) 446 5 (fidx N (pkr (tN T p)) c 0)) 446 5)) (bv 4294967295) (vFn (vM MT0 (D + 3)) nb_X7_takeValley (F + 58) 4 0 [vR 446, vR 7] [] (vup (tk9 f T p) 446 5 (fidx N (pkr (tN T p)) c 0))) (vFn (vM MT0 (D + 3)) nb_X7_takeValley (F + 58) 3 0 [vR 446, vR 7] [] (vup (tk9 f T p) 446 5 (fidx N (pkr (tN T p)) c 0))) (vFn (vM MT0 (D + 3)) nb_X7_takeValley (F + 58) 4 0 [vR 446, vR 7] [] (vup (tk9 f T p) 446 5 (fidx N (pkr (tN T p)) c 0))) := by
    intro h F
    have e1 := v_nameAt (D := D + 1) (s := tk9 f T p 446 3) (z := tk9 f T p 446 4) (txC_tk (f := f) (p := p) hx) (by rw [tkq_3]; omega) (by rw [tkq_4]; exact word_1 h.1) (by rw [tkq_4]; exact h.2) (fun j hj => by rw [tkq_3]; exact word_l h.1 j (by rw [← tkq_4]; exact hj))
    rw [tkq_3, tkq_4] at e1
    have e2 := v_valleyNamed7 (D := D + 2) (x := pkr (tN T p)) (c := c) (f := tk9 f T p) (tN_lt h) ((tkv_o (Or.inl (by decide))).trans hc) hc9 (fun j hj => by rw [g j hj]; exact (hN j hj).2)
    rw [fidx_c (h := N) c 0 (fun i hi => g i (by omega))] at e2
    (first | (refine (vbnd_1 (v_next9 hx hp9 hp)).trans ?_) | (refine (vF_g rfl rfl).trans ?_; refine (vF_g rfl rfl).trans ?_; refine (vbnd_1 (v_next9 hx hp9 hp)).trans ?_) | (refine (vF_g rfl rfl).trans ?_; refine (vbnd_1 (v_next9 hx hp9 hp)).trans ?_))
    (first | (refine (vbnd_0 (w1 h)).trans ?_) | (refine (vF_g rfl rfl).trans ?_; refine (vF_g rfl rfl).trans ?_; refine (vbnd_0 (w1 h)).trans ?_) | (refine (vF_g rfl rfl).trans ?_; refine (vbnd_0 (w1 h)).trans ?_))
    (first | (refine (vgt (x := 1) (y := 0) (by decide) (by decide)).trans ?_) | (refine (vF_g rfl rfl).trans ?_; refine (vF_g rfl rfl).trans ?_; refine (vgt (x := 1) (y := 0) (by decide) (by decide)).trans ?_) | (refine (vF_g rfl rfl).trans ?_; refine (vgt (x := 1) (y := 0) (by decide) (by decide)).trans ?_))
    (first | (refine (vbnd_0 e1).trans ?_) | (refine (vF_g rfl rfl).trans ?_; refine (vF_g rfl rfl).trans ?_; refine (vbnd_0 e1).trans ?_) | (refine (vF_g rfl rfl).trans ?_; refine (vbnd_0 e1).trans ?_))
    (first | (refine (vbnd_0 e2).trans ?_) | (refine (vF_g rfl rfl).trans ?_; refine (vF_g rfl rfl).trans ?_; refine (vbnd_0 e2).trans ?_) | (refine (vF_g rfl rfl).trans ?_; refine (vbnd_0 e2).trans ?_))
    (first | (exact rfl) | (refine (vF_g rfl rfl).trans ?_; refine (vF_g rfl rfl).trans ?_; exact rfl) | (refine (vF_g rfl rfl).trans ?_; refine (vF_g rfl rfl).trans ?_; refine (vF_g rfl rfl).trans ?_; exact rfl) | (refine (vF_g rfl rfl).trans ?_; exact rfl))
  refine ⟨fun h => ?_, fun h h2 => ?_, fun h h2 => ?_⟩
  · refine vM_go rfl rfl rfl rfl fun F hF => ?_
    (first | (refine (vbnd_1 (v_next9 hx hp9 hp)).trans ?_) | (refine (vF_g rfl rfl).trans ?_; refine (vF_g rfl rfl).trans ?_; refine (vbnd_1 (v_next9 hx hp9 hp)).trans ?_) | (refine (vF_g rfl rfl).trans ?_; refine (vbnd_1 (v_next9 hx hp9 hp)).trans ?_))
    (first | (refine (vbnd_0 (w2 h)).trans ?_) | (refine (vF_g rfl rfl).trans ?_; refine (vF_g rfl rfl).trans ?_; refine (vbnd_0 (w2 h)).trans ?_) | (refine (vF_g rfl rfl).trans ?_; refine (vbnd_0 (w2 h)).trans ?_))
    (first | (refine (veq (x := 0) (y := 0) rfl).trans ?_) | (refine (vF_g rfl rfl).trans ?_; refine (vF_g rfl rfl).trans ?_; refine (veq (x := 0) (y := 0) rfl).trans ?_) | (refine (vF_g rfl rfl).trans ?_; refine (veq (x := 0) (y := 0) rfl).trans ?_))
    (first | (refine (vbnd_0 v_fail9).trans ?_) | (refine (vF_g rfl rfl).trans ?_; refine (vF_g rfl rfl).trans ?_; refine (vbnd_0 v_fail9).trans ?_) | (refine (vF_g rfl rfl).trans ?_; refine (vbnd_0 v_fail9).trans ?_))
    (first | (exact rfl) | (refine (vF_g rfl rfl).trans ?_; refine (vF_g rfl rfl).trans ?_; exact rfl) | (refine (vF_g rfl rfl).trans ?_; refine (vF_g rfl rfl).trans ?_; refine (vF_g rfl rfl).trans ?_; exact rfl) | (refine (vF_g rfl rfl).trans ?_; exact rfl))
  · refine vM_go rfl rfl rfl rfl fun F hF => (key h F).trans ?_
    (first | (refine (veq (e5.trans h2)).trans ?_) | (refine (vF_g rfl rfl).trans ?_; refine (vF_g rfl rfl).trans ?_; refine (veq (e5.trans h2)).trans ?_) | (refine (vF_g rfl rfl).trans ?_; refine (veq (e5.trans h2)).trans ?_))
    (first | (refine (vbnd_0 v_fail9).trans ?_) | (refine (vF_g rfl rfl).trans ?_; refine (vF_g rfl rfl).trans ?_; refine (vbnd_0 v_fail9).trans ?_) | (refine (vF_g rfl rfl).trans ?_; refine (vbnd_0 v_fail9).trans ?_))
    (first | (refine (veq (x := 0) (y := 0) rfl).trans ?_) | (refine (vF_g rfl rfl).trans ?_; refine (vF_g rfl rfl).trans ?_; refine (veq (x := 0) (y := 0) rfl).trans ?_) | (refine (vF_g rfl rfl).trans ?_; refine (veq (x := 0) (y := 0) rfl).trans ?_))
    (first | (exact rfl) | (refine (vF_g rfl rfl).trans ?_; refine (vF_g rfl rfl).trans ?_; exact rfl) | (refine (vF_g rfl rfl).trans ?_; refine (vF_g rfl rfl).trans ?_; refine (vF_g rfl rfl).trans ?_; exact rfl) | (refine (vF_g rfl rfl).trans ?_; exact rfl))
  · have hl : fidx N (pkr (tN T p)) c 0 < 4294967296 := by
      rcases fidx_lt (g := N) (x := pkr (tN T p)) c 0 with q | ⟨_, q, _⟩ <;> omega
    refine vM_go rfl rfl rfl rfl fun F hF => (key h F).trans ?_
    (first | (refine (vne (by rw [e5]; exact hl) (by decide) (by rw [e5]; exact h2)).trans ?_) | (refine (vF_g rfl rfl).trans ?_; refine (vF_g rfl rfl).trans ?_; refine (vne (by rw [e5]; exact hl) (by decide) (by rw [e5]; exact h2)).trans ?_) | (refine (vF_g rfl rfl).trans ?_; refine (vne (by rw [e5]; exact hl) (by decide) (by rw [e5]; exact h2)).trans ?_))
    (first | (exact rfl) | (refine (vF_g rfl rfl).trans ?_; refine (vF_g rfl rfl).trans ?_; exact rfl) | (refine (vF_g rfl rfl).trans ?_; refine (vF_g rfl rfl).trans ?_; refine (vF_g rfl rfl).trans ?_; exact rfl) | (refine (vF_g rfl rfl).trans ?_; exact rfl))
