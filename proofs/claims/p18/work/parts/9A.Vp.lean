/-! a world copied to another -/
noncomputable def cpF (a b i : Nat) (f : Vw) : Vw := vup f a i (f b i)
noncomputable def cpE (a b : Nat) (f : Vw) : Vw := cpF a b 8 (cpF a b 7 (cpF a b 6 (cpF a b 5 (cpF a b 4 (cpF a b 3 (cpF a b 2 (cpF a b 1 (cpF a b 0 f))))))))
noncomputable def cpV (a b : Nat) (f : Vw) : Vw := cpF a b 11 (cpF a b 10 (vcp (cpF a b 8 (cpF a b 7 (cpF a b 6 (vcp (cpF a b 4 (cpF a b 3 (cpF a b 2 (cpF a b 1 (cpF a b 0 f))))) (b + 1) (a + 1) 0 0 3)))) (b + 2) (a + 2) 0 0 12))
noncomputable def cpW (a b : Nat) (f : Vw) : Vw := cpF a b 10 (cpF a b 9 (cpF a b 8 (cpF a b 7 (cpF a b 6 (cpF a b 5 (cpF a b 4 (cpF a b 3 (cpF a b 2 f))))))))
theorem cpF_o {a b i k i' : Nat} {f : Vw} (h : k ≠ a) : cpF a b i f k i' = f k i' := vup_ne (Or.inl h)
theorem cpF_a {a b i i' : Nat} {f : Vw} : cpF a b i f a i' = if i' = i then f b i else f a i' := by
  unfold cpF
  by_cases q : i' = i
  · rw [if_pos q, q]
    exact vup_eq
  · rw [if_neg q]
    exact vup_ne (Or.inr q)
theorem vcp_o {a b sp dp N k i : Nat} {f : Vw} (h : k ≠ b) : vcp f a b sp dp N k i = f k i := if_neg (fun w => h w.1)
theorem vcp_b {a b N i : Nat} {f : Vw} (h : i < N) : vcp f a b 0 0 N b i = f a i := by
  unfold vcp
  rw [if_pos (show b = b ∧ 0 ≤ i ∧ i < 0 + N from ⟨rfl, Nat.zero_le _, by omega⟩), Nat.zero_add, Nat.sub_zero]
theorem i_cases {n : Nat} {Q : Nat → Prop} (h : ∀ i, i < n → Q i) {i : Nat} (hi : i < n) : Q i := h i hi
theorem cpE_o {a b k i : Nat} {f : Vw} (h : k ≠ a) : cpE a b f k i = f k i := by
  unfold cpE
  rw [cpF_o h, cpF_o h, cpF_o h, cpF_o h, cpF_o h, cpF_o h, cpF_o h, cpF_o h, cpF_o h]
theorem cpE_a {a b i : Nat} {f : Vw} (h : b ≠ a) (hi : i ≤ 8) : cpE a b f a i = f b i := by
  have B : ∀ (x : Nat) (g : Vw) (y : Nat), cpF a b x g b y = g b y := fun x g y => cpF_o h
  unfold cpE
  rcases (show i = 0 ∨ i = 1 ∨ i = 2 ∨ i = 3 ∨ i = 4 ∨ i = 5 ∨ i = 6 ∨ i = 7 ∨ i = 8 by omega) with rfl | rfl | rfl | rfl | rfl | rfl | rfl | rfl | rfl <;> simp [cpF_a, B]
theorem cpW_o {a b k i : Nat} {f : Vw} (h : k ≠ a) : cpW a b f k i = f k i := by
  unfold cpW
  rw [cpF_o h, cpF_o h, cpF_o h, cpF_o h, cpF_o h, cpF_o h, cpF_o h, cpF_o h, cpF_o h]
theorem cpW_a {a b i : Nat} {f : Vw} (h : b ≠ a) (h2 : 2 ≤ i) (hi : i ≤ 10) : cpW a b f a i = f b i := by
  have B : ∀ (x : Nat) (g : Vw) (y : Nat), cpF a b x g b y = g b y := fun x g y => cpF_o h
  unfold cpW
  rcases (show i = 2 ∨ i = 3 ∨ i = 4 ∨ i = 5 ∨ i = 6 ∨ i = 7 ∨ i = 8 ∨ i = 9 ∨ i = 10 by omega) with rfl | rfl | rfl | rfl | rfl | rfl | rfl | rfl | rfl <;> simp [cpF_a, B]
theorem cpV_o {a b k i : Nat} {f : Vw} (h0 : k ≠ a) (h1 : k ≠ a + 1) (h2 : k ≠ a + 2) : cpV a b f k i = f k i := by
  unfold cpV
  rw [cpF_o h0, cpF_o h0, vcp_o h2, cpF_o h0, cpF_o h0, cpF_o h0, vcp_o h1, cpF_o h0, cpF_o h0, cpF_o h0, cpF_o h0, cpF_o h0]
theorem cpV_a {a b i : Nat} {f : Vw} (h0 : b ≠ a) (h1 : b ≠ a + 1) (h2 : b ≠ a + 2) (hi : i ≤ 11) (h5 : i ≠ 5) (h9 : i ≠ 9) : cpV a b f a i = f b i := by
  have B : ∀ (x : Nat) (g : Vw) (y : Nat), cpF a b x g b y = g b y := fun x g y => cpF_o h0
  have C1 : ∀ (g : Vw) (x y N : Nat), vcp g x (a + 1) 0 0 N a y = g a y := fun g x y N => vcp_o (by omega)
  have C2 : ∀ (g : Vw) (x y N : Nat), vcp g x (a + 2) 0 0 N a y = g a y := fun g x y N => vcp_o (by omega)
  have C3 : ∀ (g : Vw) (x y N : Nat), vcp g x (a + 1) 0 0 N b y = g b y := fun g x y N => vcp_o h1
  have C4 : ∀ (g : Vw) (x y N : Nat), vcp g x (a + 2) 0 0 N b y = g b y := fun g x y N => vcp_o h2
  unfold cpV
  rcases (show i = 0 ∨ i = 1 ∨ i = 2 ∨ i = 3 ∨ i = 4 ∨ i = 6 ∨ i = 7 ∨ i = 8 ∨ i = 10 ∨ i = 11 by omega) with rfl | rfl | rfl | rfl | rfl | rfl | rfl | rfl | rfl | rfl <;> simp [cpF_a, B, C1, C2, C3, C4]
theorem cpV_1 {a b i : Nat} {f : Vw} (h0 : b + 1 ≠ a) (hi : i < 3) : cpV a b f (a + 1) i = f (b + 1) i := by
  unfold cpV
  rw [cpF_o (by omega), cpF_o (by omega), vcp_o (by omega), cpF_o (by omega), cpF_o (by omega), cpF_o (by omega), vcp_b hi, cpF_o h0, cpF_o h0, cpF_o h0, cpF_o h0, cpF_o h0]
theorem cpV_2 {a b i : Nat} {f : Vw} (h0 : b + 2 ≠ a) (q : b + 2 ≠ a + 1) (hi : i < 12) : cpV a b f (a + 2) i = f (b + 2) i := by
  unfold cpV
  rw [cpF_o (by omega), cpF_o (by omega), vcp_b hi, cpF_o h0, cpF_o h0, cpF_o h0]
  rw [vcp_o q, cpF_o h0, cpF_o h0, cpF_o h0, cpF_o h0, cpF_o h0]
theorem cpE_loop {D A B c : Nat} (hAB : A + 39 ≤ B ∨ B + 39 ≤ A) (hc : c ≤ 12) (b1 : ∀ (F j : Nat) (g : Vw), vFn (vM MT0 D) nb_X9_copyFrom (F + 1) 1 0 [vR A, vR B, vI j] [] g = vc3 (bv j) (bv (g A 2)) (vFn (vM MT0 D) nb_X9_copyFrom F 2 0 [vR A, vR B, vI j] [] g) (vFn (vM MT0 D) nb_X9_copyFrom F 3 0 [vR A, vR B, vI j] [] g) (vFn (vM MT0 D) nb_X9_copyFrom F 3 0 [vR A, vR B, vI j] [] g)) (st2 : ∀ (F j : Nat) (g : Vw), j < 12 → vFn (vM MT0 D) nb_X9_copyFrom (F + 1) 2 0 [vR A, vR B, vI j] [] g = vFn (vM MT0 D) nb_X9_copyFrom F 1 0 [vR A, vR B, vI (j + 1)] [] (cpE (A + 3 + j) (B + 3 + j) g)) (f0 : Vw) : ∀ (m j F : Nat) (g : Vw), j + m = c → 2 * m + 1 ≤ F → g A 2 = c → (∀ k i, k < A + 3 ∨ A + 3 + j ≤ k → g k i = f0 k i) → (∀ j', j' < j → ∀ i, i ≤ 8 → g (A + 3 + j') i = f0 (B + 3 + j') i) → ∃ g' F', F ≤ F' + (2 * m + 1) ∧ vFn (vM MT0 D) nb_X9_copyFrom F 1 0 [vR A, vR B, vI j] [] g = vFn (vM MT0 D) nb_X9_copyFrom F' 3 0 [vR A, vR B, vI c] [] g' ∧ (∀ k i, k < A + 3 ∨ A + 3 + c ≤ k → g' k i = f0 k i) ∧ ∀ j', j' < c → ∀ i, i ≤ 8 → g' (A + 3 + j') i = f0 (B + 3 + j') i := by
  intro m
  induction m with
  | zero =>
    intro j F g hj hF h2 h3 h4
    obtain ⟨F1, rfl⟩ : ∃ F1, F = F1 + 1 := ⟨F - 1, by omega⟩
    have e : j = c := by omega
    subst e
    refine ⟨g, F1, by omega, ?_, h3, h4⟩
    rw [b1, vge2 (x := j) (y := g A 2) (by omega) (by omega)]
  | succ m ih =>
    intro j F g hj hF h2 h3 h4
    obtain ⟨F1, rfl⟩ : ∃ F1, F = F1 + 2 := ⟨F - 2, by omega⟩
    obtain ⟨g', F', a1, a2, a3, a4⟩ := ih (j + 1) F1 (cpE (A + 3 + j) (B + 3 + j) g) (by omega) (by omega) ((cpE_o (by omega)).trans h2) (fun k i hk => (cpE_o (by omega)).trans (h3 k i (by omega))) (fun j' hj' i hi => by
      by_cases q : j' = j
      · rw [q]
        exact (cpE_a (by omega) hi).trans (h3 _ _ (by omega))
      · exact (cpE_o (by omega)).trans (h4 j' (by omega) i hi))
    refine ⟨g', F', by omega, ?_, a3, a4⟩
    rw [b1, vlt (x := j) (y := g A 2) (by omega) (by omega), st2 F1 j g (by omega)]
    exact a2
theorem cpV_loop {D A B d : Nat} (hAB : A + 39 ≤ B ∨ B + 39 ≤ A) (hd : d ≤ 8) (b4 : ∀ (F j : Nat) (g : Vw), vFn (vM MT0 D) nb_X9_copyFrom (F + 1) 4 0 [vR A, vR B, vI j] [] g = vc3 (bv j) (bv (g A 3)) (vFn (vM MT0 D) nb_X9_copyFrom F 5 0 [vR A, vR B, vI j] [] g) (vFn (vM MT0 D) nb_X9_copyFrom F 6 0 [vR A, vR B, vI j] [] g) (vFn (vM MT0 D) nb_X9_copyFrom F 6 0 [vR A, vR B, vI j] [] g)) (st5 : ∀ (F j : Nat) (g : Vw), j < 8 → vFn (vM MT0 D) nb_X9_copyFrom (F + 1) 5 0 [vR A, vR B, vI j] [] g = vFn (vM MT0 D) nb_X9_copyFrom F 4 0 [vR A, vR B, vI (j + 1)] [] (cpV (A + 15 + 3 * j) (B + 15 + 3 * j) g)) (f0 : Vw) : ∀ (m j F : Nat) (g : Vw), j + m = d → 2 * m + 1 ≤ F → g A 3 = d → (∀ k i, k < A + 15 ∨ A + 15 + 3 * j ≤ k → g k i = f0 k i) → (∀ j', j' < j → (∀ i, i ≤ 11 → i ≠ 5 → i ≠ 9 → g (A + 15 + 3 * j') i = f0 (B + 15 + 3 * j') i) ∧ (∀ i, i < 3 → g (A + 15 + 3 * j' + 1) i = f0 (B + 15 + 3 * j' + 1) i) ∧ ∀ i, i < 12 → g (A + 15 + 3 * j' + 2) i = f0 (B + 15 + 3 * j' + 2) i) → ∃ g' F', F ≤ F' + (2 * m + 1) ∧ vFn (vM MT0 D) nb_X9_copyFrom F 4 0 [vR A, vR B, vI j] [] g = vFn (vM MT0 D) nb_X9_copyFrom F' 6 0 [vR A, vR B, vI d] [] g' ∧ (∀ k i, k < A + 15 ∨ A + 15 + 3 * d ≤ k → g' k i = f0 k i) ∧ ∀ j', j' < d → (∀ i, i ≤ 11 → i ≠ 5 → i ≠ 9 → g' (A + 15 + 3 * j') i = f0 (B + 15 + 3 * j') i) ∧ (∀ i, i < 3 → g' (A + 15 + 3 * j' + 1) i = f0 (B + 15 + 3 * j' + 1) i) ∧ ∀ i, i < 12 → g' (A + 15 + 3 * j' + 2) i = f0 (B + 15 + 3 * j' + 2) i := by
  intro m
  induction m with
  | zero =>
    intro j F g hj hF h2 h3 h4
    obtain ⟨F1, rfl⟩ : ∃ F1, F = F1 + 1 := ⟨F - 1, by omega⟩
    have e : j = d := by omega
    subst e
    refine ⟨g, F1, by omega, ?_, h3, h4⟩
    rw [b4, vge2 (x := j) (y := g A 3) (by omega) (by omega)]
  | succ m ih =>
    intro j F g hj hF h2 h3 h4
    obtain ⟨F1, rfl⟩ : ∃ F1, F = F1 + 2 := ⟨F - 2, by omega⟩
    obtain ⟨g', F', a1, a2, a3, a4⟩ := ih (j + 1) F1 (cpV (A + 15 + 3 * j) (B + 15 + 3 * j) g) (by omega) (by omega) ((cpV_o (by omega) (by omega) (by omega)).trans h2) (fun k i hk => (cpV_o (by omega) (by omega) (by omega)).trans (h3 k i (by omega))) (fun j' hj' => by
      by_cases q : j' = j
      · rw [q]
        exact ⟨fun i hi h5 h9 => (cpV_a (by omega) (by omega) (by omega) hi h5 h9).trans (h3 _ _ (by omega)), fun i hi => (cpV_1 (by omega) hi).trans (h3 _ _ (by omega)), fun i hi => (cpV_2 (by omega) (by omega) hi).trans (h3 _ _ (by omega))⟩
      · obtain ⟨q1, q2, q3⟩ := h4 j' (by omega)
        exact ⟨fun i hi h5 h9 => (cpV_o (by omega) (by omega) (by omega)).trans (q1 i hi h5 h9), fun i hi => (cpV_o (by omega) (by omega) (by omega)).trans (q2 i hi), fun i hi => (cpV_o (by omega) (by omega) (by omega)).trans (q3 i hi)⟩)
    refine ⟨g', F', by omega, ?_, a3, a4⟩
    rw [b4, vlt (x := j) (y := g A 3) (by omega) (by omega), st5 F1 j g (by omega)]
    exact a2
/-- what the copy of a world says -/
def CpW (A B : Nat) (f g : Vw) : Prop := (∀ i, 2 ≤ i → i ≤ 10 → g A i = f B i) ∧ (∀ j, j < f B 2 → ∀ i, i ≤ 8 → g (A + 3 + j) i = f (B + 3 + j) i) ∧ (∀ j, j < f B 3 → (∀ i, i ≤ 11 → i ≠ 5 → i ≠ 9 → g (A + 15 + 3 * j) i = f (B + 15 + 3 * j) i) ∧ (∀ i, i < 3 → g (A + 15 + 3 * j + 1) i = f (B + 15 + 3 * j + 1) i) ∧ ∀ i, i < 12 → g (A + 15 + 3 * j + 2) i = f (B + 15 + 3 * j + 2) i) ∧ ∀ k i, k < A ∨ A + 39 ≤ k → g k i = f k i
theorem cp_world {D A B F0 : Nat} {f : Vw} {L0 : List AV} (hAB : A + 39 ≤ B ∨ B + 39 ≤ A) (hc : f B 2 ≤ 12) (hd : f B 3 ≤ 8) (hF0 : 1000 ≤ F0) (b0 : ∀ F, vFn (vM MT0 D) nb_X9_copyFrom (F + 1) 0 0 L0 [] f = vFn (vM MT0 D) nb_X9_copyFrom F 1 0 [vR A, vR B, vI 0] [] (cpW A B f)) (b1 : ∀ (F j : Nat) (g : Vw), vFn (vM MT0 D) nb_X9_copyFrom (F + 1) 1 0 [vR A, vR B, vI j] [] g = vc3 (bv j) (bv (g A 2)) (vFn (vM MT0 D) nb_X9_copyFrom F 2 0 [vR A, vR B, vI j] [] g) (vFn (vM MT0 D) nb_X9_copyFrom F 3 0 [vR A, vR B, vI j] [] g) (vFn (vM MT0 D) nb_X9_copyFrom F 3 0 [vR A, vR B, vI j] [] g)) (st2 : ∀ (F j : Nat) (g : Vw), j < 12 → vFn (vM MT0 D) nb_X9_copyFrom (F + 1) 2 0 [vR A, vR B, vI j] [] g = vFn (vM MT0 D) nb_X9_copyFrom F 1 0 [vR A, vR B, vI (j + 1)] [] (cpE (A + 3 + j) (B + 3 + j) g)) (b3 : ∀ (F j : Nat) (g : Vw), vFn (vM MT0 D) nb_X9_copyFrom (F + 1) 3 0 [vR A, vR B, vI j] [] g = vFn (vM MT0 D) nb_X9_copyFrom F 4 0 [vR A, vR B, vI 0] [] g) (b4 : ∀ (F j : Nat) (g : Vw), vFn (vM MT0 D) nb_X9_copyFrom (F + 1) 4 0 [vR A, vR B, vI j] [] g = vc3 (bv j) (bv (g A 3)) (vFn (vM MT0 D) nb_X9_copyFrom F 5 0 [vR A, vR B, vI j] [] g) (vFn (vM MT0 D) nb_X9_copyFrom F 6 0 [vR A, vR B, vI j] [] g) (vFn (vM MT0 D) nb_X9_copyFrom F 6 0 [vR A, vR B, vI j] [] g)) (st5 : ∀ (F j : Nat) (g : Vw), j < 8 → vFn (vM MT0 D) nb_X9_copyFrom (F + 1) 5 0 [vR A, vR B, vI j] [] g = vFn (vM MT0 D) nb_X9_copyFrom F 4 0 [vR A, vR B, vI (j + 1)] [] (cpV (A + 15 + 3 * j) (B + 15 + 3 * j) g)) (b6 : ∀ (F j : Nat) (g : Vw), vFn (vM MT0 D) nb_X9_copyFrom (F + 1) 6 0 [vR A, vR B, vI j] [] g = some ((1, 0), vW 3, g)) : ∃ g, vFn (vM MT0 D) nb_X9_copyFrom F0 0 0 L0 [] f = some ((1, 0), vW 3, g) ∧ CpW A B f g := by
  obtain ⟨F1, rfl⟩ : ∃ F1, F0 = F1 + 1 := ⟨F0 - 1, by omega⟩
  have w2 : cpW A B f A 2 = f B 2 := cpW_a (by omega) (by decide) (by decide)
  have w3 : cpW A B f A 3 = f B 3 := cpW_a (by omega) (by decide) (by decide)
  obtain ⟨g1, F2, q1, q2, q3, q4⟩ := cpE_loop hAB hc b1 st2 (cpW A B f) (f B 2) 0 F1 (cpW A B f) (by omega) (by omega) w2 (fun _ _ _ => rfl) (fun j' h => absurd h (Nat.not_lt_zero j'))
  obtain ⟨F3, rfl⟩ : ∃ F3, F2 = F3 + 1 := ⟨F2 - 1, by omega⟩
  obtain ⟨g2, F4, r1, r2, r3, r4⟩ := cpV_loop hAB hd b4 st5 g1 (f B 3) 0 F3 g1 (by omega) (by omega) ((q3 _ _ (by omega)).trans w3) (fun _ _ _ => rfl) (fun j' h => absurd h (Nat.not_lt_zero j'))
  obtain ⟨F5, rfl⟩ : ∃ F5, F4 = F5 + 1 := ⟨F4 - 1, by omega⟩
  refine ⟨g2, ?_, fun i h2 hi => ?_, fun j hj i hi => ?_, fun j hj => ?_, fun k i hk => ?_⟩
  · rw [b0, q2, b3, r2, b6]
  · exact (r3 _ _ (by omega)).trans ((q3 _ _ (by omega)).trans (cpW_a (by omega) h2 hi))
  · exact (r3 _ _ (by omega)).trans ((q4 j hj i hi).trans (cpW_o (by omega)))
  · obtain ⟨s1, s2, s3⟩ := r4 j hj
    exact ⟨fun i hi h5 h9 => (s1 i hi h5 h9).trans ((q3 _ _ (by omega)).trans (cpW_o (by omega))), fun i hi => (s2 i hi).trans ((q3 _ _ (by omega)).trans (cpW_o (by omega))), fun i hi => (s3 i hi).trans ((q3 _ _ (by omega)).trans (cpW_o (by omega)))⟩
  · exact (r3 _ _ (by omega)).trans ((q3 _ _ (by omega)).trans (cpW_o (by omega)))
