/-! findEcho, findValley on views -/
theorem nmr_ln (U : Nat → Nat) (s : Nat) : ∀ z, (nmr U s z).length = z := by
  intro z
  induction z with
  | zero => rfl
  | succ z ih => show (nmr U s z).length + 1 = z + 1; rw [ih]
theorem nmr_memw (U : Nat → Nat) (s : Nat) : ∀ z, ∀ c ∈ nmr U s z, ∃ k, k < z ∧ c = U (s + k) := by
  intro z
  induction z with
  | zero => intro c hc; cases hc
  | succ z ih =>
    intro c hc
    rcases List.mem_cons.mp hc with e | e
    · exact ⟨z, by omega, e⟩
    · obtain ⟨k, h1, h2⟩ := ih c e
      exact ⟨k, by omega, h2⟩
theorem nmr_p {U : Nat → Nat} {s z : Nat} (h : ∀ k, k < z → U (s + k) < 256) : pkr (nmr U s z) < 256 ^ z := by
  have h1 := pkr_lt (l := nmr U s z) (fun c hc => by
    obtain ⟨k, h1, h2⟩ := nmr_memw U s z c hc
    rw [h2]
    exact h k h1)
  rw [nmr_ln] at h1
  exact h1
theorem nmr_6 {U : Nat → Nat} {s z : Nat} (h : ∀ k, k < z → U (s + k) < 256) (hz : z ≤ 6) : pkr (nmr U s z) < 281474976710656 := Nat.lt_of_lt_of_le (nmr_p h) (Nat.le_trans (Nat.pow_le_pow_right (by decide) hz) (by decide))
theorem nmr_lt {U : Nat → Nat} {s z : Nat} (h : ∀ k, k < z → U (s + k) < 256) (hz : z ≤ 6) : pkr (nmr U s z) < 9223372036854775808 := Nat.lt_trans (nmr_6 h hz) (by decide)
theorem nmr_0 {U : Nat → Nat} {s z : Nat} (h1 : 1 ≤ z) (h : ∀ k, k < z → 97 ≤ U (s + k)) : pkr (nmr U s z) ≠ 0 := by
  obtain ⟨y, rfl⟩ : ∃ y, z = y + 1 := ⟨z - 1, by omega⟩
  show pkr (nmr U s y) * 256 + U (s + y) ≠ 0
  have := h y (by omega)
  omega
theorem fidx_no {E : Nat → Nat} {x : Nat} : ∀ (m j : Nat), (∀ i, j ≤ i → i < j + m → E i ≠ x) → fidx E x m j = 4294967295 := by
  intro m
  induction m with
  | zero => intro j _; rfl
  | succ m ih =>
    intro j h
    show (if E j = x then j else fidx E x m (j + 1)) = _
    rw [if_neg (h j (Nat.le_refl _) (by omega))]
    exact ih (j + 1) (fun i a b => h i (by omega) (by omega))
theorem first_bad (P : Nat → Prop) : ∀ n, (∀ j, j < n → P j) ∨ ∃ k, k < n ∧ ¬ P k ∧ ∀ j, j < k → P j := by
  intro n
  induction n with
  | zero => exact Or.inl (fun j hj => absurd hj (Nat.not_lt_zero j))
  | succ n ih =>
    rcases ih with h | ⟨k, h1, h2, h3⟩
    · by_cases q : P n
      · refine Or.inl (fun j hj => ?_)
        by_cases e : j = n
        · rw [e]
          exact q
        · exact h j (by omega)
      · exact Or.inr ⟨n, by omega, q, h⟩
    · exact Or.inr ⟨k, by omega, h2, h3⟩
/-- the whole text is a name -/
def nmOK (T : Nat → Nat) (n : Nat) : Prop := 1 ≤ n ∧ n ≤ 6 ∧ ∀ j, j < n → 97 ≤ T (0 + j) ∧ T (0 + j) ≤ 122
theorem na_bad {D s z n k : Nat} {T : Nat → Nat} {f : Vw} (hx : TxC f n T) (hs : s ≤ 900) (hz : z ≤ 6) (hk : k < z) (hb : ¬ (97 ≤ T (s + k) ∧ T (s + k) ≤ 122)) (hg : ∀ j, j < k → 97 ≤ T (s + j) ∧ T (s + j) ≤ 122) (h9 : T (s + k) < 256) : ∀ (m i F : Nat) (x6 : AV), i + m = k → 4 * m + 4 ≤ F → vFn (vM MT0 (D + 1)) nb_X0_nameAt F 4 0 [vR 1, vI s, vI z, vJ (pkr (nmr T s i)), vW 3, vI i, x6] [] f = some ((0, 0), vJ 0, f) := by
  intro m
  induction m with
  | zero =>
    intro i F x6 hi hF
    obtain ⟨F1, rfl⟩ : ∃ F1, F = F1 + 4 := ⟨F - 4, by omega⟩
    have e : i = k := by omega
    subst e
    have hn := hx.1
    have hq : (s + i) % 4294967296 = s + i := Nat.mod_eq_of_lt (by omega)
    (first | (refine (vlt (x := i) (y := z) (by omega) hk).trans ?_) | (refine (vF_g rfl rfl).trans ?_; refine (vF_g rfl rfl).trans ?_; refine (vlt (x := i) (y := z) (by omega) hk).trans ?_) | (refine (vF_g rfl rfl).trans ?_; refine (vlt (x := i) (y := z) (by omega) hk).trans ?_))
    (first | (refine (vbnd_0 (v_byteAt (i := (s + i) % 4294967296) (f := f) (by rw [hq]; omega) (by rw [hx.2.1]; exact hx.1))).trans ?_) | (refine (vF_g rfl rfl).trans ?_; refine (vF_g rfl rfl).trans ?_; refine (vbnd_0 (v_byteAt (i := (s + i) % 4294967296) (f := f) (by rw [hq]; omega) (by rw [hx.2.1]; exact hx.1))).trans ?_) | (refine (vF_g rfl rfl).trans ?_; refine (vbnd_0 (v_byteAt (i := (s + i) % 4294967296) (f := f) (by rw [hq]; omega) (by rw [hx.2.1]; exact hx.1))).trans ?_))
    rw [hq, hx.2.2.1]
    by_cases q : 97 ≤ T (s + i)
    · (first | (refine (vge2 (x := T (s + i)) (y := 97) (by omega) q).trans ?_) | (refine (vF_g rfl rfl).trans ?_; refine (vF_g rfl rfl).trans ?_; refine (vge2 (x := T (s + i)) (y := 97) (by omega) q).trans ?_) | (refine (vF_g rfl rfl).trans ?_; refine (vge2 (x := T (s + i)) (y := 97) (by omega) q).trans ?_))
      (first | (refine (vgt (x := T (s + i)) (y := 122) (by omega) (by omega)).trans ?_) | (refine (vF_g rfl rfl).trans ?_; refine (vF_g rfl rfl).trans ?_; refine (vgt (x := T (s + i)) (y := 122) (by omega) (by omega)).trans ?_) | (refine (vF_g rfl rfl).trans ?_; refine (vgt (x := T (s + i)) (y := 122) (by omega) (by omega)).trans ?_))
      (first | (exact rfl) | (refine (vF_g rfl rfl).trans ?_; refine (vF_g rfl rfl).trans ?_; exact rfl) | (refine (vF_g rfl rfl).trans ?_; refine (vF_g rfl rfl).trans ?_; refine (vF_g rfl rfl).trans ?_; exact rfl) | (refine (vF_g rfl rfl).trans ?_; exact rfl))
    · (first | (refine (vlt (x := T (s + i)) (y := 97) (by decide) (by omega)).trans ?_) | (refine (vF_g rfl rfl).trans ?_; refine (vF_g rfl rfl).trans ?_; refine (vlt (x := T (s + i)) (y := 97) (by decide) (by omega)).trans ?_) | (refine (vF_g rfl rfl).trans ?_; refine (vlt (x := T (s + i)) (y := 97) (by decide) (by omega)).trans ?_))
      (first | (exact rfl) | (refine (vF_g rfl rfl).trans ?_; refine (vF_g rfl rfl).trans ?_; exact rfl) | (refine (vF_g rfl rfl).trans ?_; refine (vF_g rfl rfl).trans ?_; refine (vF_g rfl rfl).trans ?_; exact rfl) | (refine (vF_g rfl rfl).trans ?_; exact rfl))
  | succ m ih =>
    intro i F x6 hi hF
    obtain ⟨F1, rfl⟩ : ∃ F1, F = F1 + 4 := ⟨F - 4, by omega⟩
    have hl := hg i (by omega)
    have hn := hx.1
    have hq : (s + i) % 4294967296 = s + i := Nat.mod_eq_of_lt (by omega)
    have hp6 : pkr (nmr T s i) < 281474976710656 := nmr_6 (fun j hj => by have := (hg j (by omega)).2; omega) (by omega)
    (first | (refine (vlt (x := i) (y := z) (by omega) (by omega)).trans ?_) | (refine (vF_g rfl rfl).trans ?_; refine (vF_g rfl rfl).trans ?_; refine (vlt (x := i) (y := z) (by omega) (by omega)).trans ?_) | (refine (vF_g rfl rfl).trans ?_; refine (vlt (x := i) (y := z) (by omega) (by omega)).trans ?_))
    (first | (refine (vbnd_0 (v_byteAt (i := (s + i) % 4294967296) (f := f) (by rw [hq]; omega) (by rw [hx.2.1]; exact hx.1))).trans ?_) | (refine (vF_g rfl rfl).trans ?_; refine (vF_g rfl rfl).trans ?_; refine (vbnd_0 (v_byteAt (i := (s + i) % 4294967296) (f := f) (by rw [hq]; omega) (by rw [hx.2.1]; exact hx.1))).trans ?_) | (refine (vF_g rfl rfl).trans ?_; refine (vbnd_0 (v_byteAt (i := (s + i) % 4294967296) (f := f) (by rw [hq]; omega) (by rw [hx.2.1]; exact hx.1))).trans ?_))
    rw [hq, hx.2.2.1]
    (first | (refine (vge2 (x := T (s + i)) (y := 97) (by omega) hl.1).trans ?_) | (refine (vF_g rfl rfl).trans ?_; refine (vF_g rfl rfl).trans ?_; refine (vge2 (x := T (s + i)) (y := 97) (by omega) hl.1).trans ?_) | (refine (vF_g rfl rfl).trans ?_; refine (vge2 (x := T (s + i)) (y := 97) (by omega) hl.1).trans ?_))
    (first | (refine (vle2 (x := T (s + i)) (y := 122) (by decide) hl.2).trans ?_) | (refine (vF_g rfl rfl).trans ?_; refine (vF_g rfl rfl).trans ?_; refine (vle2 (x := T (s + i)) (y := 122) (by decide) hl.2).trans ?_) | (refine (vF_g rfl rfl).trans ?_; refine (vle2 (x := T (s + i)) (y := 122) (by decide) hl.2).trans ?_))
    (first | (refine Eq.trans (b := vFn (vM MT0 (D + 1)) nb_X0_nameAt F1 4 0 [vR 1, vI s, vI z, vJ (g_lor (g_lshl (pkr (nmr T s i)) 8) (toNL (nI (T (s + i))).toInt64)), vW 3, vI ((i + 1) % 4294967296), vI (T (s + i))] [] f) rfl ?_) | (refine (vF_g rfl rfl).trans ?_; refine (vF_g rfl rfl).trans ?_; refine Eq.trans (b := vFn (vM MT0 (D + 1)) nb_X0_nameAt F1 4 0 [vR 1, vI s, vI z, vJ (g_lor (g_lshl (pkr (nmr T s i)) 8) (toNL (nI (T (s + i))).toInt64)), vW 3, vI ((i + 1) % 4294967296), vI (T (s + i))] [] f) rfl ?_) | (refine (vF_g rfl rfl).trans ?_; refine Eq.trans (b := vFn (vM MT0 (D + 1)) nb_X0_nameAt F1 4 0 [vR 1, vI s, vI z, vJ (g_lor (g_lshl (pkr (nmr T s i)) 8) (toNL (nI (T (s + i))).toInt64)), vW 3, vI ((i + 1) % 4294967296), vI (T (s + i))] [] f) rfl ?_))
    rw [lsh8 hp6, lor8 hp6 (by omega), Nat.mod_eq_of_lt (show i + 1 < 4294967296 by omega)]
    exact ih (i + 1) F1 (vI (T (s + i))) (by omega) (by omega)
theorem v_nameAtX {D n : Nat} {T : Nat → Nat} {f : Vw} (hx : TxC f n T) : (nmOK T n → vM MT0 (D + 2) 5 [vR 1, vI 0, vI n] f = some ((0, 0), vJ (pkr (nmr T 0 n)), f)) ∧ (¬ nmOK T n → vM MT0 (D + 2) 5 [vR 1, vI 0, vI n] f = some ((0, 0), vJ 0, f)) := by
  refine ⟨fun h => v_nameAt hx (by decide) h.1 h.2.1 h.2.2, fun h => ?_⟩
  have hn := hx.1
  by_cases h1 : 1 ≤ n
  · by_cases h6 : n ≤ 6
    · rcases first_bad (fun j => 97 ≤ T (0 + j) ∧ T (0 + j) ≤ 122) n with w | ⟨k, k1, k2, k3⟩
      · exact absurd ⟨h1, h6, w⟩ h
      · have h9 : T (0 + k) < 256 := by
          rw [← hx.2.2.1]
          exact bt_in (by rw [hx.2.1]; omega)
        refine vM_go rfl rfl rfl rfl fun F hF => ?_
        (first | (refine (vge2 (x := n) (y := 1) (by omega) h1).trans ?_) | (refine (vF_g rfl rfl).trans ?_; refine (vF_g rfl rfl).trans ?_; refine (vge2 (x := n) (y := 1) (by omega) h1).trans ?_) | (refine (vF_g rfl rfl).trans ?_; refine (vge2 (x := n) (y := 1) (by omega) h1).trans ?_))
        (first | (refine (vle2 (x := n) (y := 6) (by decide) h6).trans ?_) | (refine (vF_g rfl rfl).trans ?_; refine (vF_g rfl rfl).trans ?_; refine (vle2 (x := n) (y := 6) (by decide) h6).trans ?_) | (refine (vF_g rfl rfl).trans ?_; refine (vle2 (x := n) (y := 6) (by decide) h6).trans ?_))
        (first | (refine Eq.trans (b := vFn (vM MT0 (D + 1)) nb_X0_nameAt (F + 57) 4 0 [vR 1, vI 0, vI n, vJ (pkr (nmr T 0 0)), vW 3, vI 0, vW 3] [] f) rfl ?_) | (refine (vF_g rfl rfl).trans ?_; refine (vF_g rfl rfl).trans ?_; refine Eq.trans (b := vFn (vM MT0 (D + 1)) nb_X0_nameAt (F + 57) 4 0 [vR 1, vI 0, vI n, vJ (pkr (nmr T 0 0)), vW 3, vI 0, vW 3] [] f) rfl ?_) | (refine (vF_g rfl rfl).trans ?_; refine Eq.trans (b := vFn (vM MT0 (D + 1)) nb_X0_nameAt (F + 57) 4 0 [vR 1, vI 0, vI n, vJ (pkr (nmr T 0 0)), vW 3, vI 0, vW 3] [] f) rfl ?_))
        exact na_bad hx (by decide) h6 k1 k2 k3 h9 k 0 (F + 57) (vW 3) (by omega) (by omega)
    · refine vM_go rfl rfl rfl rfl fun F hF => ?_
      (first | (refine (vge2 (x := n) (y := 1) (by omega) h1).trans ?_) | (refine (vF_g rfl rfl).trans ?_; refine (vF_g rfl rfl).trans ?_; refine (vge2 (x := n) (y := 1) (by omega) h1).trans ?_) | (refine (vF_g rfl rfl).trans ?_; refine (vge2 (x := n) (y := 1) (by omega) h1).trans ?_))
      (first | (refine (vgt (x := n) (y := 6) (by omega) (by omega)).trans ?_) | (refine (vF_g rfl rfl).trans ?_; refine (vF_g rfl rfl).trans ?_; refine (vgt (x := n) (y := 6) (by omega) (by omega)).trans ?_) | (refine (vF_g rfl rfl).trans ?_; refine (vgt (x := n) (y := 6) (by omega) (by omega)).trans ?_))
      (first | (exact rfl) | (refine (vF_g rfl rfl).trans ?_; refine (vF_g rfl rfl).trans ?_; exact rfl) | (refine (vF_g rfl rfl).trans ?_; refine (vF_g rfl rfl).trans ?_; refine (vF_g rfl rfl).trans ?_; exact rfl) | (refine (vF_g rfl rfl).trans ?_; exact rfl))
  · refine vM_go rfl rfl rfl rfl fun F hF => ?_
    (first | (refine (vlt (x := n) (y := 1) (by decide) (by omega)).trans ?_) | (refine (vF_g rfl rfl).trans ?_; refine (vF_g rfl rfl).trans ?_; refine (vlt (x := n) (y := 1) (by decide) (by omega)).trans ?_) | (refine (vF_g rfl rfl).trans ?_; refine (vlt (x := n) (y := 1) (by decide) (by omega)).trans ?_))
    (first | (exact rfl) | (refine (vF_g rfl rfl).trans ?_; refine (vF_g rfl rfl).trans ?_; exact rfl) | (refine (vF_g rfl rfl).trans ?_; refine (vF_g rfl rfl).trans ?_; refine (vF_g rfl rfl).trans ?_; exact rfl) | (refine (vF_g rfl rfl).trans ?_; exact rfl))
theorem echoNamed_l7L {D x c : Nat} {f : Vw} (hx : x < 9223372036854775808) (hc : f 7 2 = c) (hc9 : c ≤ 12) {E : Nat → Nat} (hn : ∀ j, j < c → E j < 9223372036854775808 ∧ lsg (f (10 + j) 0) = lsg (E j)) : ∀ (m j F : Nat), j + m = c → 3 * m + 3 ≤ F → vFn (vM MT0 D) nb_X9_echoNamed F 1 0 [vR 7, vJ x, vW 3, vI j] [] f = some ((0, 0), vI (fidx E x m j), f) := by
  intro m
  induction m with
  | zero =>
    intro j F hj hF
    obtain ⟨F1, rfl⟩ : ∃ F1, F = F1 + 2 := ⟨F - 2, by omega⟩
    (first | (refine (vge2 (x := j) (y := f 7 2) (by omega) (by rw [hc]; omega)).trans ?_) | (refine (vF_g rfl rfl).trans ?_; refine (vF_g rfl rfl).trans ?_; refine (vge2 (x := j) (y := f 7 2) (by omega) (by rw [hc]; omega)).trans ?_) | (refine (vF_g rfl rfl).trans ?_; refine (vge2 (x := j) (y := f 7 2) (by omega) (by rw [hc]; omega)).trans ?_))
    (first | (exact rfl) | (refine (vF_g rfl rfl).trans ?_; refine (vF_g rfl rfl).trans ?_; exact rfl) | (refine (vF_g rfl rfl).trans ?_; refine (vF_g rfl rfl).trans ?_; refine (vF_g rfl rfl).trans ?_; exact rfl) | (refine (vF_g rfl rfl).trans ?_; exact rfl))
  | succ m ih =>
    intro j F hj hF
    obtain ⟨F1, rfl⟩ : ∃ F1, F = F1 + 3 := ⟨F - 3, by omega⟩
    have hj9 : j < 12 := by omega
    (first | (refine (vlt (x := j) (y := f 7 2) (by rw [hc]; omega) (by rw [hc]; omega)).trans ?_) | (refine (vF_g rfl rfl).trans ?_; refine (vF_g rfl rfl).trans ?_; refine (vlt (x := j) (y := f 7 2) (by rw [hc]; omega) (by rw [hc]; omega)).trans ?_) | (refine (vF_g rfl rfl).trans ?_; refine (vlt (x := j) (y := f 7 2) (by rw [hc]; omega) (by rw [hc]; omega)).trans ?_))
    have e2 : vFn (vM MT0 D) nb_X9_echoNamed (F1 + 2) 2 0 [vR 7, vJ x, vW 3, vI j] [] f = vc3 (bv (toN (lg_cmp (lN (f (10 + j) 0)) (lN x)))) (bv 0) (vFn (vM MT0 D) nb_X9_echoNamed (F1 + 1) 4 0 [vR 7, vJ x, vW 3, vI j] [] f) (vFn (vM MT0 D) nb_X9_echoNamed (F1 + 1) 3 0 [vR 7, vJ x, vW 3, vI j] [] f) (vFn (vM MT0 D) nb_X9_echoNamed (F1 + 1) 4 0 [vR 7, vJ x, vW 3, vI j] [] f) := by
      (first | (refine Eq.trans (b := gd (Nat.ble (j + 1) 12) (shO (rt0 8 j) 3 0 (gft f (rt0 8 j) 0 fun v => vB (vM MT0 D) (vFn (vM MT0 D) nb_X9_echoNamed (F1 + 1)) ((2, 4, 3, 4, 0, 0, 0), []) [(5, 1, 1, 0, 0, 0, 0), (20, 0, 0, 0, 0, 0, 0)] 0 [vR 7, vJ x, vW 3, vI j] [v] f))) rfl ?_) | (refine (vF_g rfl rfl).trans ?_; refine (vF_g rfl rfl).trans ?_; refine Eq.trans (b := gd (Nat.ble (j + 1) 12) (shO (rt0 8 j) 3 0 (gft f (rt0 8 j) 0 fun v => vB (vM MT0 D) (vFn (vM MT0 D) nb_X9_echoNamed (F1 + 1)) ((2, 4, 3, 4, 0, 0, 0), []) [(5, 1, 1, 0, 0, 0, 0), (20, 0, 0, 0, 0, 0, 0)] 0 [vR 7, vJ x, vW 3, vI j] [v] f))) rfl ?_) | (refine (vF_g rfl rfl).trans ?_; refine Eq.trans (b := gd (Nat.ble (j + 1) 12) (shO (rt0 8 j) 3 0 (gft f (rt0 8 j) 0 fun v => vB (vM MT0 D) (vFn (vM MT0 D) nb_X9_echoNamed (F1 + 1)) ((2, 4, 3, 4, 0, 0, 0), []) [(5, 1, 1, 0, 0, 0, 0), (20, 0, 0, 0, 0, 0, 0)] 0 [vR 7, vJ x, vW 3, vI j] [v] f))) rfl ?_))
      rw [Nat.ble_eq_true_of_le (show j + 1 ≤ 12 by omega), rtE_7 hj9, (shE_7 hj9).1]
      (first | (exact rfl) | (refine (vF_g rfl rfl).trans ?_; refine (vF_g rfl rfl).trans ?_; exact rfl) | (refine (vF_g rfl rfl).trans ?_; refine (vF_g rfl rfl).trans ?_; refine (vF_g rfl rfl).trans ?_; exact rfl) | (refine (vF_g rfl rfl).trans ?_; exact rfl))
    rw [e2, show fidx E x (m + 1) j = if E j = x then j else fidx E x m (j + 1) from rfl]
    obtain ⟨hy, hl⟩ := hn j (by omega)
    by_cases q : E j = x
    · rw [if_pos q, vlc, hl, if_neg (by rw [q]; exact Int.lt_irrefl _), if_pos (by rw [q])]
      (first | (exact rfl) | (refine (vF_g rfl rfl).trans ?_; refine (vF_g rfl rfl).trans ?_; exact rfl) | (refine (vF_g rfl rfl).trans ?_; refine (vF_g rfl rfl).trans ?_; refine (vF_g rfl rfl).trans ?_; exact rfl) | (refine (vF_g rfl rfl).trans ?_; exact rfl))
    · have e4 : ∀ a b : Option VR, (if lsg (E j) < lsg x then a else if lsg (E j) = lsg x then b else a) = a := by
        intro a b
        by_cases w : lsg (E j) < lsg x
        · rw [if_pos w]
        · rw [if_neg w, if_neg (fun z => q ((lsg_e hy hx).mp z))]
      rw [if_neg q, vlc, hl, e4]
      (first | (refine Eq.trans (b := vFn (vM MT0 D) nb_X9_echoNamed F1 1 0 [vR 7, vJ x, vW 3, vI ((j + 1) % 4294967296)] [] f) rfl ?_) | (refine (vF_g rfl rfl).trans ?_; refine (vF_g rfl rfl).trans ?_; refine Eq.trans (b := vFn (vM MT0 D) nb_X9_echoNamed F1 1 0 [vR 7, vJ x, vW 3, vI ((j + 1) % 4294967296)] [] f) rfl ?_) | (refine (vF_g rfl rfl).trans ?_; refine Eq.trans (b := vFn (vM MT0 D) nb_X9_echoNamed F1 1 0 [vR 7, vJ x, vW 3, vI ((j + 1) % 4294967296)] [] f) rfl ?_))
      rw [Nat.mod_eq_of_lt (show j + 1 < 4294967296 by omega)]
      exact ih (j + 1) F1 (by omega) (by omega)
theorem v_echoNamed7L {D x c : Nat} {f : Vw} (hx : x < 9223372036854775808) (hc : f 7 2 = c) (hc9 : c ≤ 12) {E : Nat → Nat} (hn : ∀ j, j < c → E j < 9223372036854775808 ∧ lsg (f (10 + j) 0) = lsg (E j)) : vM MT0 (D + 1) 71 [vR 7, vJ x] f = some ((0, 0), vI (fidx E x c 0), f) :=
  vM_go rfl rfl rfl rfl fun F hF => (by (first | (refine Eq.trans (b := vFn (vM MT0 D) nb_X9_echoNamed (F + 59) 1 0 [vR 7, vJ x, vW 3, vI 0] [] f) rfl ?_) | (refine (vF_g rfl rfl).trans ?_; refine (vF_g rfl rfl).trans ?_; refine Eq.trans (b := vFn (vM MT0 D) nb_X9_echoNamed (F + 59) 1 0 [vR 7, vJ x, vW 3, vI 0] [] f) rfl ?_) | (refine (vF_g rfl rfl).trans ?_; refine Eq.trans (b := vFn (vM MT0 D) nb_X9_echoNamed (F + 59) 1 0 [vR 7, vJ x, vW 3, vI 0] [] f) rfl ?_)); (first | (exact (echoNamed_l7L hx hc hc9 hn c 0 (F + 59) (by omega) (by omega))) | (refine (vF_g rfl rfl).trans ?_; refine (vF_g rfl rfl).trans ?_; exact (echoNamed_l7L hx hc hc9 hn c 0 (F + 59) (by omega) (by omega))) | (refine (vF_g rfl rfl).trans ?_; exact (echoNamed_l7L hx hc hc9 hn c 0 (F + 59) (by omega) (by omega)))))
theorem valleyNamed_l7L {D x c : Nat} {f : Vw} (hx : x < 9223372036854775808) (hc : f 7 3 = c) (hc9 : c ≤ 8) {E : Nat → Nat} (hn : ∀ j, j < c → E j < 9223372036854775808 ∧ lsg (f (22 + 3 * j) 0) = lsg (E j)) : ∀ (m j F : Nat), j + m = c → 3 * m + 3 ≤ F → vFn (vM MT0 D) nb_X9_valleyNamed F 1 0 [vR 7, vJ x, vW 3, vI j] [] f = some ((0, 0), vI (fidx E x m j), f) := by
  intro m
  induction m with
  | zero =>
    intro j F hj hF
    obtain ⟨F1, rfl⟩ : ∃ F1, F = F1 + 2 := ⟨F - 2, by omega⟩
    (first | (refine (vge2 (x := j) (y := f 7 3) (by omega) (by rw [hc]; omega)).trans ?_) | (refine (vF_g rfl rfl).trans ?_; refine (vF_g rfl rfl).trans ?_; refine (vge2 (x := j) (y := f 7 3) (by omega) (by rw [hc]; omega)).trans ?_) | (refine (vF_g rfl rfl).trans ?_; refine (vge2 (x := j) (y := f 7 3) (by omega) (by rw [hc]; omega)).trans ?_))
    (first | (exact rfl) | (refine (vF_g rfl rfl).trans ?_; refine (vF_g rfl rfl).trans ?_; exact rfl) | (refine (vF_g rfl rfl).trans ?_; refine (vF_g rfl rfl).trans ?_; refine (vF_g rfl rfl).trans ?_; exact rfl) | (refine (vF_g rfl rfl).trans ?_; exact rfl))
  | succ m ih =>
    intro j F hj hF
    obtain ⟨F1, rfl⟩ : ∃ F1, F = F1 + 3 := ⟨F - 3, by omega⟩
    have hj9 : j < 8 := by omega
    (first | (refine (vlt (x := j) (y := f 7 3) (by rw [hc]; omega) (by rw [hc]; omega)).trans ?_) | (refine (vF_g rfl rfl).trans ?_; refine (vF_g rfl rfl).trans ?_; refine (vlt (x := j) (y := f 7 3) (by rw [hc]; omega) (by rw [hc]; omega)).trans ?_) | (refine (vF_g rfl rfl).trans ?_; refine (vlt (x := j) (y := f 7 3) (by rw [hc]; omega) (by rw [hc]; omega)).trans ?_))
    have e2 : vFn (vM MT0 D) nb_X9_valleyNamed (F1 + 2) 2 0 [vR 7, vJ x, vW 3, vI j] [] f = vc3 (bv (toN (lg_cmp (lN (f (22 + 3 * j) 0)) (lN x)))) (bv 0) (vFn (vM MT0 D) nb_X9_valleyNamed (F1 + 1) 4 0 [vR 7, vJ x, vW 3, vI j] [] f) (vFn (vM MT0 D) nb_X9_valleyNamed (F1 + 1) 3 0 [vR 7, vJ x, vW 3, vI j] [] f) (vFn (vM MT0 D) nb_X9_valleyNamed (F1 + 1) 4 0 [vR 7, vJ x, vW 3, vI j] [] f) := by
      (first | (refine Eq.trans (b := gd (Nat.ble (j + 1) 8) (shO (rt0 9 j) 8 0 (gft f (rt0 9 j) 0 fun v => vB (vM MT0 D) (vFn (vM MT0 D) nb_X9_valleyNamed (F1 + 1)) ((2, 4, 3, 4, 0, 0, 0), []) [(5, 1, 1, 0, 0, 0, 0), (20, 0, 0, 0, 0, 0, 0)] 0 [vR 7, vJ x, vW 3, vI j] [v] f))) rfl ?_) | (refine (vF_g rfl rfl).trans ?_; refine (vF_g rfl rfl).trans ?_; refine Eq.trans (b := gd (Nat.ble (j + 1) 8) (shO (rt0 9 j) 8 0 (gft f (rt0 9 j) 0 fun v => vB (vM MT0 D) (vFn (vM MT0 D) nb_X9_valleyNamed (F1 + 1)) ((2, 4, 3, 4, 0, 0, 0), []) [(5, 1, 1, 0, 0, 0, 0), (20, 0, 0, 0, 0, 0, 0)] 0 [vR 7, vJ x, vW 3, vI j] [v] f))) rfl ?_) | (refine (vF_g rfl rfl).trans ?_; refine Eq.trans (b := gd (Nat.ble (j + 1) 8) (shO (rt0 9 j) 8 0 (gft f (rt0 9 j) 0 fun v => vB (vM MT0 D) (vFn (vM MT0 D) nb_X9_valleyNamed (F1 + 1)) ((2, 4, 3, 4, 0, 0, 0), []) [(5, 1, 1, 0, 0, 0, 0), (20, 0, 0, 0, 0, 0, 0)] 0 [vR 7, vJ x, vW 3, vI j] [v] f))) rfl ?_))
      rw [Nat.ble_eq_true_of_le (show j + 1 ≤ 8 by omega), rtV_7 hj9, (shV_7 hj9).1]
      (first | (exact rfl) | (refine (vF_g rfl rfl).trans ?_; refine (vF_g rfl rfl).trans ?_; exact rfl) | (refine (vF_g rfl rfl).trans ?_; refine (vF_g rfl rfl).trans ?_; refine (vF_g rfl rfl).trans ?_; exact rfl) | (refine (vF_g rfl rfl).trans ?_; exact rfl))
    rw [e2, show fidx E x (m + 1) j = if E j = x then j else fidx E x m (j + 1) from rfl]
    obtain ⟨hy, hl⟩ := hn j (by omega)
    by_cases q : E j = x
    · rw [if_pos q, vlc, hl, if_neg (by rw [q]; exact Int.lt_irrefl _), if_pos (by rw [q])]
      (first | (exact rfl) | (refine (vF_g rfl rfl).trans ?_; refine (vF_g rfl rfl).trans ?_; exact rfl) | (refine (vF_g rfl rfl).trans ?_; refine (vF_g rfl rfl).trans ?_; refine (vF_g rfl rfl).trans ?_; exact rfl) | (refine (vF_g rfl rfl).trans ?_; exact rfl))
    · have e4 : ∀ a b : Option VR, (if lsg (E j) < lsg x then a else if lsg (E j) = lsg x then b else a) = a := by
        intro a b
        by_cases w : lsg (E j) < lsg x
        · rw [if_pos w]
        · rw [if_neg w, if_neg (fun z => q ((lsg_e hy hx).mp z))]
      rw [if_neg q, vlc, hl, e4]
      (first | (refine Eq.trans (b := vFn (vM MT0 D) nb_X9_valleyNamed F1 1 0 [vR 7, vJ x, vW 3, vI ((j + 1) % 4294967296)] [] f) rfl ?_) | (refine (vF_g rfl rfl).trans ?_; refine (vF_g rfl rfl).trans ?_; refine Eq.trans (b := vFn (vM MT0 D) nb_X9_valleyNamed F1 1 0 [vR 7, vJ x, vW 3, vI ((j + 1) % 4294967296)] [] f) rfl ?_) | (refine (vF_g rfl rfl).trans ?_; refine Eq.trans (b := vFn (vM MT0 D) nb_X9_valleyNamed F1 1 0 [vR 7, vJ x, vW 3, vI ((j + 1) % 4294967296)] [] f) rfl ?_))
      rw [Nat.mod_eq_of_lt (show j + 1 < 4294967296 by omega)]
      exact ih (j + 1) F1 (by omega) (by omega)
theorem v_valleyNamed7L {D x c : Nat} {f : Vw} (hx : x < 9223372036854775808) (hc : f 7 3 = c) (hc9 : c ≤ 8) {E : Nat → Nat} (hn : ∀ j, j < c → E j < 9223372036854775808 ∧ lsg (f (22 + 3 * j) 0) = lsg (E j)) : vM MT0 (D + 1) 72 [vR 7, vJ x] f = some ((0, 0), vI (fidx E x c 0), f) :=
  vM_go rfl rfl rfl rfl fun F hF => (by (first | (refine Eq.trans (b := vFn (vM MT0 D) nb_X9_valleyNamed (F + 59) 1 0 [vR 7, vJ x, vW 3, vI 0] [] f) rfl ?_) | (refine (vF_g rfl rfl).trans ?_; refine (vF_g rfl rfl).trans ?_; refine Eq.trans (b := vFn (vM MT0 D) nb_X9_valleyNamed (F + 59) 1 0 [vR 7, vJ x, vW 3, vI 0] [] f) rfl ?_) | (refine (vF_g rfl rfl).trans ?_; refine Eq.trans (b := vFn (vM MT0 D) nb_X9_valleyNamed (F + 59) 1 0 [vR 7, vJ x, vW 3, vI 0] [] f) rfl ?_)); (first | (exact (valleyNamed_l7L hx hc hc9 hn c 0 (F + 59) (by omega) (by omega))) | (refine (vF_g rfl rfl).trans ?_; refine (vF_g rfl rfl).trans ?_; exact (valleyNamed_l7L hx hc hc9 hn c 0 (F + 59) (by omega) (by omega))) | (refine (vF_g rfl rfl).trans ?_; exact (valleyNamed_l7L hx hc hc9 hn c 0 (F + 59) (by omega) (by omega)))))
theorem v_findEC {D n c : Nat} {T : Nat → Nat} {E : Nat → Nat} {f : Vw} (hx : TxC f n T) (hc : f 7 2 = c) (hc9 : c ≤ 12) (hn : ∀ j, j < c → E j < 9223372036854775808 ∧ lsg (f (10 + j) 0) = lsg (E j)) : (nmOK T n → vM MT0 (D + 3) 110 [vR 0] f = some ((0, 0), vI (fidx E (pkr (nmr T 0 n)) c 0), f)) ∧ (¬ nmOK T n → vM MT0 (D + 3) 110 [vR 0] f = some ((0, 0), vI (fidx E 0 c 0), f)) := by
  obtain ⟨w1, w2⟩ := v_nameAtX (D := D) hx
  have hl : f 1 1 = n := hx.2.1
  refine ⟨fun h => ?_, fun h => ?_⟩
  · have e1 : vM MT0 (D + 2) 5 [vR 1, vI 0, vI (f 1 1)] f = some ((0, 0), vJ (pkr (nmr T 0 n)), f) := by
      rw [hl]
      exact w1 h
    have e2 := v_echoNamed7L (D := D + 1) (x := pkr (nmr T 0 n)) (nmr_lt (fun k hk => by have := (h.2.2 k hk).2; omega) h.2.1) hc hc9 hn
    refine vM_go rfl rfl rfl rfl fun F hF => ?_
    (first | (refine (vbnd_0 e1).trans ?_) | (refine (vF_g rfl rfl).trans ?_; refine (vF_g rfl rfl).trans ?_; refine (vbnd_0 e1).trans ?_) | (refine (vF_g rfl rfl).trans ?_; refine (vbnd_0 e1).trans ?_))
    (first | (refine (vbnd_0 e2).trans ?_) | (refine (vF_g rfl rfl).trans ?_; refine (vF_g rfl rfl).trans ?_; refine (vbnd_0 e2).trans ?_) | (refine (vF_g rfl rfl).trans ?_; refine (vbnd_0 e2).trans ?_))
    (first | (exact rfl) | (refine (vF_g rfl rfl).trans ?_; refine (vF_g rfl rfl).trans ?_; exact rfl) | (refine (vF_g rfl rfl).trans ?_; refine (vF_g rfl rfl).trans ?_; refine (vF_g rfl rfl).trans ?_; exact rfl) | (refine (vF_g rfl rfl).trans ?_; exact rfl))
  · have e1 : vM MT0 (D + 2) 5 [vR 1, vI 0, vI (f 1 1)] f = some ((0, 0), vJ 0, f) := by
      rw [hl]
      exact w2 h
    have e2 := v_echoNamed7L (D := D + 1) (x := 0) (by decide) hc hc9 hn
    refine vM_go rfl rfl rfl rfl fun F hF => ?_
    (first | (refine (vbnd_0 e1).trans ?_) | (refine (vF_g rfl rfl).trans ?_; refine (vF_g rfl rfl).trans ?_; refine (vbnd_0 e1).trans ?_) | (refine (vF_g rfl rfl).trans ?_; refine (vbnd_0 e1).trans ?_))
    (first | (refine (vbnd_0 e2).trans ?_) | (refine (vF_g rfl rfl).trans ?_; refine (vF_g rfl rfl).trans ?_; refine (vbnd_0 e2).trans ?_) | (refine (vF_g rfl rfl).trans ?_; refine (vbnd_0 e2).trans ?_))
    (first | (exact rfl) | (refine (vF_g rfl rfl).trans ?_; refine (vF_g rfl rfl).trans ?_; exact rfl) | (refine (vF_g rfl rfl).trans ?_; refine (vF_g rfl rfl).trans ?_; refine (vF_g rfl rfl).trans ?_; exact rfl) | (refine (vF_g rfl rfl).trans ?_; exact rfl))
theorem v_findVC {D n c : Nat} {T : Nat → Nat} {E : Nat → Nat} {f : Vw} (hx : TxC f n T) (hc : f 7 3 = c) (hc9 : c ≤ 8) (hn : ∀ j, j < c → E j < 9223372036854775808 ∧ lsg (f (22 + 3 * j) 0) = lsg (E j)) : (nmOK T n → vM MT0 (D + 3) 111 [vR 0] f = some ((0, 0), vI (fidx E (pkr (nmr T 0 n)) c 0), f)) ∧ (¬ nmOK T n → vM MT0 (D + 3) 111 [vR 0] f = some ((0, 0), vI (fidx E 0 c 0), f)) := by
  obtain ⟨w1, w2⟩ := v_nameAtX (D := D) hx
  have hl : f 1 1 = n := hx.2.1
  refine ⟨fun h => ?_, fun h => ?_⟩
  · have e1 : vM MT0 (D + 2) 5 [vR 1, vI 0, vI (f 1 1)] f = some ((0, 0), vJ (pkr (nmr T 0 n)), f) := by
      rw [hl]
      exact w1 h
    have e2 := v_valleyNamed7L (D := D + 1) (x := pkr (nmr T 0 n)) (nmr_lt (fun k hk => by have := (h.2.2 k hk).2; omega) h.2.1) hc hc9 hn
    refine vM_go rfl rfl rfl rfl fun F hF => ?_
    (first | (refine (vbnd_0 e1).trans ?_) | (refine (vF_g rfl rfl).trans ?_; refine (vF_g rfl rfl).trans ?_; refine (vbnd_0 e1).trans ?_) | (refine (vF_g rfl rfl).trans ?_; refine (vbnd_0 e1).trans ?_))
    (first | (refine (vbnd_0 e2).trans ?_) | (refine (vF_g rfl rfl).trans ?_; refine (vF_g rfl rfl).trans ?_; refine (vbnd_0 e2).trans ?_) | (refine (vF_g rfl rfl).trans ?_; refine (vbnd_0 e2).trans ?_))
    (first | (exact rfl) | (refine (vF_g rfl rfl).trans ?_; refine (vF_g rfl rfl).trans ?_; exact rfl) | (refine (vF_g rfl rfl).trans ?_; refine (vF_g rfl rfl).trans ?_; refine (vF_g rfl rfl).trans ?_; exact rfl) | (refine (vF_g rfl rfl).trans ?_; exact rfl))
  · have e1 : vM MT0 (D + 2) 5 [vR 1, vI 0, vI (f 1 1)] f = some ((0, 0), vJ 0, f) := by
      rw [hl]
      exact w2 h
    have e2 := v_valleyNamed7L (D := D + 1) (x := 0) (by decide) hc hc9 hn
    refine vM_go rfl rfl rfl rfl fun F hF => ?_
    (first | (refine (vbnd_0 e1).trans ?_) | (refine (vF_g rfl rfl).trans ?_; refine (vF_g rfl rfl).trans ?_; refine (vbnd_0 e1).trans ?_) | (refine (vF_g rfl rfl).trans ?_; refine (vbnd_0 e1).trans ?_))
    (first | (refine (vbnd_0 e2).trans ?_) | (refine (vF_g rfl rfl).trans ?_; refine (vF_g rfl rfl).trans ?_; refine (vbnd_0 e2).trans ?_) | (refine (vF_g rfl rfl).trans ?_; refine (vbnd_0 e2).trans ?_))
    (first | (exact rfl) | (refine (vF_g rfl rfl).trans ?_; refine (vF_g rfl rfl).trans ?_; exact rfl) | (refine (vF_g rfl rfl).trans ?_; refine (vF_g rfl rfl).trans ?_; refine (vF_g rfl rfl).trans ?_; exact rfl) | (refine (vF_g rfl rfl).trans ?_; exact rfl))
theorem v_isNamed9 {D a x z : Nat} {f : Vw} (hz : f 452 19 = z) (hz6 : 6 < z) (hz9 : z ≤ 900) (ha : a ≤ 400) (hr : nmRow f a x) : vM MT0 (D + 2) 238 [vR 452, vI a] f = some ((0, 0), vI 0, f) := by
  obtain ⟨y, U, y1, y6, ya, yU, rfl⟩ := hr
  refine vM_go rfl rfl rfl rfl fun F hF => ?_
  have st : vFn (vM MT0 (D + 1)) nb_X11_isNamed (F + 60) 0 0 [vR 452, vI a, vW 3] [] f = vc3 (bv y) (bv z) (vFn (vM MT0 (D + 1)) nb_X11_isNamed (F + 59) 1 0 [vR 452, vI a, vW 3] [] f) (vFn (vM MT0 (D + 1)) nb_X11_isNamed (F + 59) 2 0 [vR 452, vI a, vW 3] [] f) (vFn (vM MT0 (D + 1)) nb_X11_isNamed (F + 59) 1 0 [vR 452, vI a, vW 3] [] f) := by
    (first | (refine Eq.trans (b := gd (Nat.ble (a + 1) 627) (vc3 (bv (f 453 a)) (bv (f 452 19)) (vFn (vM MT0 (D + 1)) nb_X11_isNamed (F + 59) 1 0 [vR 452, vI a, vW 3] [] f) (vFn (vM MT0 (D + 1)) nb_X11_isNamed (F + 59) 2 0 [vR 452, vI a, vW 3] [] f) (vFn (vM MT0 (D + 1)) nb_X11_isNamed (F + 59) 1 0 [vR 452, vI a, vW 3] [] f))) rfl ?_) | (refine (vF_g rfl rfl).trans ?_; refine (vF_g rfl rfl).trans ?_; refine Eq.trans (b := gd (Nat.ble (a + 1) 627) (vc3 (bv (f 453 a)) (bv (f 452 19)) (vFn (vM MT0 (D + 1)) nb_X11_isNamed (F + 59) 1 0 [vR 452, vI a, vW 3] [] f) (vFn (vM MT0 (D + 1)) nb_X11_isNamed (F + 59) 2 0 [vR 452, vI a, vW 3] [] f) (vFn (vM MT0 (D + 1)) nb_X11_isNamed (F + 59) 1 0 [vR 452, vI a, vW 3] [] f))) rfl ?_) | (refine (vF_g rfl rfl).trans ?_; refine Eq.trans (b := gd (Nat.ble (a + 1) 627) (vc3 (bv (f 453 a)) (bv (f 452 19)) (vFn (vM MT0 (D + 1)) nb_X11_isNamed (F + 59) 1 0 [vR 452, vI a, vW 3] [] f) (vFn (vM MT0 (D + 1)) nb_X11_isNamed (F + 59) 2 0 [vR 452, vI a, vW 3] [] f) (vFn (vM MT0 (D + 1)) nb_X11_isNamed (F + 59) 1 0 [vR 452, vI a, vW 3] [] f))) rfl ?_))
    rw [ya, hz, Nat.ble_eq_true_of_le (show a + 1 ≤ 627 by omega)]
    (first | (exact rfl) | (refine (vF_g rfl rfl).trans ?_; refine (vF_g rfl rfl).trans ?_; exact rfl) | (refine (vF_g rfl rfl).trans ?_; refine (vF_g rfl rfl).trans ?_; refine (vF_g rfl rfl).trans ?_; exact rfl) | (refine (vF_g rfl rfl).trans ?_; exact rfl))
  refine st.trans ?_
  (first | (refine (vne (x := y) (y := z) (by omega) (by omega) (by omega)).trans ?_) | (refine (vF_g rfl rfl).trans ?_; refine (vF_g rfl rfl).trans ?_; refine (vne (x := y) (y := z) (by omega) (by omega) (by omega)).trans ?_) | (refine (vF_g rfl rfl).trans ?_; refine (vne (x := y) (y := z) (by omega) (by omega) (by omega)).trans ?_))
  (first | (exact rfl) | (refine (vF_g rfl rfl).trans ?_; refine (vF_g rfl rfl).trans ?_; exact rfl) | (refine (vF_g rfl rfl).trans ?_; refine (vF_g rfl rfl).trans ?_; refine (vF_g rfl rfl).trans ?_; exact rfl) | (refine (vF_g rfl rfl).trans ?_; exact rfl))
theorem rn_all {T : Nat → Nat} {n : Nat} (h9 : kd9 (T n) ≠ 1) : ∀ m p, p ≤ n → n - p ≤ m → (∀ j, p ≤ j → j < n → kd9 (T j) = 1) → rn T 1 m p = n := by
  intro m
  induction m with
  | zero =>
    intro p h1 h2 _
    show p = n
    omega
  | succ m ih =>
    intro p h1 h2 h3
    show (if kd9 (T p) = 1 then rn T 1 m (p + 1) else p) = n
    by_cases q : p = n
    · subst q
      rw [if_neg h9]
    · rw [if_pos (h3 p (Nat.le_refl _) (by omega))]
      exact ih (p + 1) (by omega) (by omega) (fun j a b => h3 j (by omega) b)
theorem rn_let {T : Nat → Nat} : ∀ m p j, p ≤ j → j < rn T 1 m p → kd9 (T j) = 1 := by
  intro m
  induction m with
  | zero =>
    intro p j h1 h2
    have h2 : j < p := h2
    omega
  | succ m ih =>
    intro p j h1 h2
    have h2 : j < (if kd9 (T p) = 1 then rn T 1 m (p + 1) else p) := h2
    by_cases q : kd9 (T p) = 1
    · rw [if_pos q] at h2
      by_cases e : j = p
      · rw [e]
        exact q
      · exact ih (p + 1) j (by omega) h2
    · rw [if_neg q] at h2
      omega
theorem wd_1w {T : Nat → Nat} {n : Nat} (hT : ∀ i, n ≤ i → T i = 4294967295) (h1 : 1 ≤ n) (h9 : n ≤ 900) (h : ∀ j, j < n → 97 ≤ T (0 + j) ∧ T (0 + j) ≤ 122) : tS T 0 = 0 ∧ tZ T 0 = n := by
  have s0 : tS T 0 = 0 := by
    show (if T 0 = 32 then sk T 900 (0 + 1) else 0) = 0
    have := h 0 (by omega)
    rw [Nat.zero_add] at this
    rw [if_neg (by omega)]
  refine ⟨s0, ?_⟩
  show rn T 1 901 (tS T 0) - tS T 0 = n
  rw [s0, rn_all (n := n) (fun w => by
    have := kd9_1.mp w
    rw [hT n (Nat.le_refl _)] at this
    omega) 901 0 (Nat.zero_le _) (by omega) (fun j _ hj => kd9_1.mpr (by
    have := h j hj
    rw [Nat.zero_add] at this
    exact this))]
  (first | (exact rfl) | (refine (vF_g rfl rfl).trans ?_; refine (vF_g rfl rfl).trans ?_; exact rfl) | (refine (vF_g rfl rfl).trans ?_; refine (vF_g rfl rfl).trans ?_; refine (vF_g rfl rfl).trans ?_; exact rfl) | (refine (vF_g rfl rfl).trans ?_; exact rfl))
theorem wd_2w {T : Nat → Nat} {n : Nat} (h0 : tS T 0 = 0) (hz : tZ T 0 = n) : ∀ j, j < n → 97 ≤ T (0 + j) ∧ T (0 + j) ≤ 122 := by
  intro j hj
  have hz : rn T 1 901 (tS T 0) - tS T 0 = n := hz
  rw [h0] at hz
  rw [Nat.zero_add]
  exact kd9_1.mp (rn_let 901 0 j (Nat.zero_le _) (by omega))
theorem nm_0 {f : Vw} {a x : Nat} (h : nmRow f a x) : x ≠ 0 := by
  obtain ⟨z, U, z1, z6, -, ek, rfl⟩ := h
  exact nmr_0 z1 (fun k hk => by rw [Nat.zero_add]; exact (ek k hk).2.1)
theorem rn_lew {T : Nat → Nat} {n : Nat} (hT : ∀ i, n ≤ i → T i = 4294967295) : ∀ m p, p ≤ n → rn T 1 m p ≤ n := by
  intro m
  induction m with
  | zero => intro p h; exact h
  | succ m ih =>
    intro p h
    show (if kd9 (T p) = 1 then rn T 1 m (p + 1) else p) ≤ n
    by_cases q : kd9 (T p) = 1
    · rw [if_pos q]
      refine ih (p + 1) (Nat.lt_of_le_of_ne h (fun e => ?_))
      have := kd9_1.mp q
      rw [hT p (by omega)] at this
      omega
    · rw [if_neg q]
      exact h
theorem tZ_lew {T : Nat → Nat} {n : Nat} (hT : ∀ i, n ≤ i → T i = 4294967295) : tZ T 0 ≤ n := by
  have h1 := tS_le hT (Nat.zero_le n)
  have h2 := rn_lew hT 901 (tS T 0) h1.2
  show rn T 1 901 (tS T 0) - tS T 0 ≤ n
  omega
noncomputable def fdv (f : Vw) (T : Nat → Nat) : Vw := rkv (vup (vup f 452 6 0) 452 17 0) T 0
theorem fdv_o {f : Vw} {T : Nat → Nat} {a b : Nat} (h : a ≠ 452 ∨ (b ≠ 6 ∧ b ≠ 17 ∧ b ≠ 18 ∧ b ≠ 19)) : fdv f T a b = f a b := by
  have e : ∀ c, c = 6 ∨ c = 17 ∨ c = 18 ∨ c = 19 → (a ≠ 452 ∨ b ≠ c) := fun c hc => by
    rcases h with h | h
    · exact Or.inl h
    · exact Or.inr (by omega)
  exact (vup_ne (e 19 (by omega))).trans ((vup_ne (e 18 (by omega))).trans ((vup_ne (e 17 (by omega))).trans ((vup_ne (e 17 (by omega))).trans (vup_ne (e 6 (by omega))))))
theorem fdv_x {f : Vw} {T : Nat → Nat} {n : Nat} (hx : TxR f n T) : TxR (fdv f T) n T := txR_up (by decide) (txR_up (by decide) (txR_up (by decide) (txR_up (by decide) (txR_up (by decide) hx))))
theorem th_loopE9 {D c x : Nat} {E : Nat → Nat} {f : Vw} (hc : f 453 0 = c) (hc9 : c ≤ 12) (hN : ∀ j, j < c → vM MT0 (D + 2) 238 [vR 452, vI (23 + 15 * j)] f = some ((0, 0), vI (if E j = x then 1 else 0), f)) : ∀ (m j F : Nat), j + m = c → 5 * m + 5 ≤ F → vFn (vM MT0 (D + 2)) nb_X11_thingHere F 1 0 [vR 452, vI 0, vI j] [] f = some ((0, 0), vI (fidx E x m j), f) := by
  intro m
  induction m with
  | zero =>
    intro j F hj hF
    obtain ⟨F1, rfl⟩ : ∃ F1, F = F1 + 4 := ⟨F - 4, by omega⟩
    (first | (refine (veq (x := 0) (y := 0) rfl).trans ?_) | (refine (vF_g rfl rfl).trans ?_; refine (vF_g rfl rfl).trans ?_; refine (veq (x := 0) (y := 0) rfl).trans ?_) | (refine (vF_g rfl rfl).trans ?_; refine (veq (x := 0) (y := 0) rfl).trans ?_))
    (first | (refine (vge2 (x := j) (y := f 453 0) (by omega) (by rw [hc]; omega)).trans ?_) | (refine (vF_g rfl rfl).trans ?_; refine (vF_g rfl rfl).trans ?_; refine (vge2 (x := j) (y := f 453 0) (by omega) (by rw [hc]; omega)).trans ?_) | (refine (vF_g rfl rfl).trans ?_; refine (vge2 (x := j) (y := f 453 0) (by omega) (by rw [hc]; omega)).trans ?_))
    (first | (exact rfl) | (refine (vF_g rfl rfl).trans ?_; refine (vF_g rfl rfl).trans ?_; exact rfl) | (refine (vF_g rfl rfl).trans ?_; refine (vF_g rfl rfl).trans ?_; refine (vF_g rfl rfl).trans ?_; exact rfl) | (refine (vF_g rfl rfl).trans ?_; exact rfl))
  | succ m ih =>
    intro j F hj hF
    obtain ⟨F1, rfl⟩ : ∃ F1, F = F1 + 5 := ⟨F - 5, by omega⟩
    have e1 := v_placeE (D := D + 1) (j := j) (f := f) (by omega)
    have e2 := hN j (by omega)
    (first | (refine (veq (x := 0) (y := 0) rfl).trans ?_) | (refine (vF_g rfl rfl).trans ?_; refine (vF_g rfl rfl).trans ?_; refine (veq (x := 0) (y := 0) rfl).trans ?_) | (refine (vF_g rfl rfl).trans ?_; refine (veq (x := 0) (y := 0) rfl).trans ?_))
    (first | (refine (vlt (x := j) (y := f 453 0) (by rw [hc]; omega) (by rw [hc]; omega)).trans ?_) | (refine (vF_g rfl rfl).trans ?_; refine (vF_g rfl rfl).trans ?_; refine (vlt (x := j) (y := f 453 0) (by rw [hc]; omega) (by rw [hc]; omega)).trans ?_) | (refine (vF_g rfl rfl).trans ?_; refine (vlt (x := j) (y := f 453 0) (by rw [hc]; omega) (by rw [hc]; omega)).trans ?_))
    (first | (refine (vbnd_0 e1).trans ?_) | (refine (vF_g rfl rfl).trans ?_; refine (vF_g rfl rfl).trans ?_; refine (vbnd_0 e1).trans ?_) | (refine (vF_g rfl rfl).trans ?_; refine (vbnd_0 e1).trans ?_))
    (first | (refine (vbnd_0 e2).trans ?_) | (refine (vF_g rfl rfl).trans ?_; refine (vF_g rfl rfl).trans ?_; refine (vbnd_0 e2).trans ?_) | (refine (vF_g rfl rfl).trans ?_; refine (vbnd_0 e2).trans ?_))
    rw [show fidx E x (m + 1) j = if E j = x then j else fidx E x m (j + 1) from rfl]
    by_cases q : E j = x
    · rw [if_pos q, if_pos q]
      (first | (refine (vgt (x := 1) (y := 0) (by decide) (by decide)).trans ?_) | (refine (vF_g rfl rfl).trans ?_; refine (vF_g rfl rfl).trans ?_; refine (vgt (x := 1) (y := 0) (by decide) (by decide)).trans ?_) | (refine (vF_g rfl rfl).trans ?_; refine (vgt (x := 1) (y := 0) (by decide) (by decide)).trans ?_))
      (first | (exact rfl) | (refine (vF_g rfl rfl).trans ?_; refine (vF_g rfl rfl).trans ?_; exact rfl) | (refine (vF_g rfl rfl).trans ?_; refine (vF_g rfl rfl).trans ?_; refine (vF_g rfl rfl).trans ?_; exact rfl) | (refine (vF_g rfl rfl).trans ?_; exact rfl))
    · rw [if_neg q, if_neg q]
      (first | (refine (veq (x := 0) (y := 0) rfl).trans ?_) | (refine (vF_g rfl rfl).trans ?_; refine (vF_g rfl rfl).trans ?_; refine (veq (x := 0) (y := 0) rfl).trans ?_) | (refine (vF_g rfl rfl).trans ?_; refine (veq (x := 0) (y := 0) rfl).trans ?_))
      (first | (refine Eq.trans (b := vFn (vM MT0 (D + 2)) nb_X11_thingHere F1 1 0 [vR 452, vI 0, vI ((j + 1) % 4294967296)] [] f) rfl ?_) | (refine (vF_g rfl rfl).trans ?_; refine (vF_g rfl rfl).trans ?_; refine Eq.trans (b := vFn (vM MT0 (D + 2)) nb_X11_thingHere F1 1 0 [vR 452, vI 0, vI ((j + 1) % 4294967296)] [] f) rfl ?_) | (refine (vF_g rfl rfl).trans ?_; refine Eq.trans (b := vFn (vM MT0 (D + 2)) nb_X11_thingHere F1 1 0 [vR 452, vI 0, vI ((j + 1) % 4294967296)] [] f) rfl ?_))
      rw [Nat.mod_eq_of_lt (show j + 1 < 4294967296 by omega)]
      exact ih (j + 1) F1 (by omega) (by omega)
theorem v_findER {D n c : Nat} {T : Nat → Nat} {E : Nat → Nat} {f : Vw} (hx : TxR f n T) (hc : f 453 0 = c) (hc9 : c ≤ 12) (hr : ∀ j, j < c → nmRow f (23 + 15 * j) (E j)) : (nmOK T n → vM MT0 (D + 5) 269 [vR 452] f = some ((0, 0), vI (fidx E (pkr (nmr T 0 n)) c 0), fdv f T)) ∧ (¬ nmOK T n → vM MT0 (D + 5) 269 [vR 452] f = some ((0, 0), vI 4294967295, fdv f T)) := by
  have hn := hx.1
  have e1 := v_nextR (D := D + 1) (f := vup (vup f 452 6 0) 452 17 0) (p := 0) (T := T) (n := n) (txR_up (by decide) (txR_up (by decide) hx)) vup_eq (Nat.zero_le _)
  have g18 : fdv f T 452 18 = tS T 0 := rkv_18
  have g19 : fdv f T 452 19 = tZ T 0 := rkv_19
  have g16 : fdv f T 452 16 = n := (fdv_x hx).2.1
  have gc : fdv f T 453 0 = c := (fdv_o (Or.inl (by decide))).trans hc
  have gr : ∀ j, j < c → nmRow (fdv f T) (23 + 15 * j) (E j) := fun j hj => by
    obtain ⟨z, U, a1, a2, a3, a4, a5⟩ := hr j hj
    exact ⟨z, U, a1, a2, (fdv_o (Or.inl (by decide))).trans a3, fun k hk => ⟨(fdv_o (Or.inl (by decide))).trans (a4 k hk).1, (a4 k hk).2⟩, a5⟩
  have hS := tS_le hx.2.2.2.2 (Nat.zero_le n)
  have wrap : ∀ r, vM MT0 (D + 4) 268 [vR 452, vI 0] f = some ((0, 0), vI r, fdv f T) → vM MT0 (D + 5) 269 [vR 452] f = some ((0, 0), vI r, fdv f T) := fun r e => vM_go rfl rfl rfl rfl fun F hF => (by (first | (refine (vbnd_0 e).trans ?_) | (refine (vF_g rfl rfl).trans ?_; refine (vF_g rfl rfl).trans ?_; refine (vbnd_0 e).trans ?_) | (refine (vF_g rfl rfl).trans ?_; refine (vbnd_0 e).trans ?_)); (first | (exact rfl) | (refine (vF_g rfl rfl).trans ?_; refine (vF_g rfl rfl).trans ?_; exact rfl) | (refine (vF_g rfl rfl).trans ?_; refine (vF_g rfl rfl).trans ?_; refine (vF_g rfl rfl).trans ?_; exact rfl) | (refine (vF_g rfl rfl).trans ?_; exact rfl)))
  refine ⟨fun h => wrap _ ?_, fun h => wrap _ ?_⟩
  · obtain ⟨s0, z0⟩ := wd_1w hx.2.2.2.2 h.1 hn h.2.2
    have t : vM MT0 (D + 3) 240 [vR 452, vI 0] (fdv f T) = some ((0, 0), vI (fidx E (pkr (nmr T 0 n)) c 0), fdv f T) :=
      vM_go rfl rfl rfl rfl fun F hF => (by (first | (refine Eq.trans (b := vFn (vM MT0 (D + 2)) nb_X11_thingHere (F + 59) 1 0 [vR 452, vI 0, vI 0] [] (fdv f T)) rfl ?_) | (refine (vF_g rfl rfl).trans ?_; refine (vF_g rfl rfl).trans ?_; refine Eq.trans (b := vFn (vM MT0 (D + 2)) nb_X11_thingHere (F + 59) 1 0 [vR 452, vI 0, vI 0] [] (fdv f T)) rfl ?_) | (refine (vF_g rfl rfl).trans ?_; refine Eq.trans (b := vFn (vM MT0 (D + 2)) nb_X11_thingHere (F + 59) 1 0 [vR 452, vI 0, vI 0] [] (fdv f T)) rfl ?_)); (first | (exact (th_loopE9 (D := D) gc hc9 (fun j hj => v_isNamed (D := D) (fdv_x hx) (g18.trans s0) (g19.trans z0) h.2.1 (by decide) (by omega) (gr j hj) h.2.2) c 0 (F + 59) (by omega) (by omega))) | (refine (vF_g rfl rfl).trans ?_; refine (vF_g rfl rfl).trans ?_; exact (th_loopE9 (D := D) gc hc9 (fun j hj => v_isNamed (D := D) (fdv_x hx) (g18.trans s0) (g19.trans z0) h.2.1 (by decide) (by omega) (gr j hj) h.2.2) c 0 (F + 59) (by omega) (by omega))) | (refine (vF_g rfl rfl).trans ?_; exact (th_loopE9 (D := D) gc hc9 (fun j hj => v_isNamed (D := D) (fdv_x hx) (g18.trans s0) (g19.trans z0) h.2.1 (by decide) (by omega) (gr j hj) h.2.2) c 0 (F + 59) (by omega) (by omega)))))
    refine vM_go rfl rfl rfl rfl fun F hF => ?_
    (first | (refine (vbnd_0 e1).trans ?_) | (refine (vF_g rfl rfl).trans ?_; refine (vF_g rfl rfl).trans ?_; refine (vbnd_0 e1).trans ?_) | (refine (vF_g rfl rfl).trans ?_; refine (vbnd_0 e1).trans ?_))
    (first | (refine (veq (x := fdv f T 452 18) (y := 0) (g18.trans s0)).trans ?_) | (refine (vF_g rfl rfl).trans ?_; refine (vF_g rfl rfl).trans ?_; refine (veq (x := fdv f T 452 18) (y := 0) (g18.trans s0)).trans ?_) | (refine (vF_g rfl rfl).trans ?_; refine (veq (x := fdv f T 452 18) (y := 0) (g18.trans s0)).trans ?_))
    (first | (refine (veq (x := fdv f T 452 19) (y := fdv f T 452 16) (by rw [g19, g16, z0])).trans ?_) | (refine (vF_g rfl rfl).trans ?_; refine (vF_g rfl rfl).trans ?_; refine (veq (x := fdv f T 452 19) (y := fdv f T 452 16) (by rw [g19, g16, z0])).trans ?_) | (refine (vF_g rfl rfl).trans ?_; refine (veq (x := fdv f T 452 19) (y := fdv f T 452 16) (by rw [g19, g16, z0])).trans ?_))
    (first | (refine (vgt (x := fdv f T 452 16) (y := 0) (by rw [g16]; omega) (by rw [g16]; exact h.1)).trans ?_) | (refine (vF_g rfl rfl).trans ?_; refine (vF_g rfl rfl).trans ?_; refine (vgt (x := fdv f T 452 16) (y := 0) (by rw [g16]; omega) (by rw [g16]; exact h.1)).trans ?_) | (refine (vF_g rfl rfl).trans ?_; refine (vgt (x := fdv f T 452 16) (y := 0) (by rw [g16]; omega) (by rw [g16]; exact h.1)).trans ?_))
    (first | (refine (vbnd_0 t).trans ?_) | (refine (vF_g rfl rfl).trans ?_; refine (vF_g rfl rfl).trans ?_; refine (vbnd_0 t).trans ?_) | (refine (vF_g rfl rfl).trans ?_; refine (vbnd_0 t).trans ?_))
    (first | (exact rfl) | (refine (vF_g rfl rfl).trans ?_; refine (vF_g rfl rfl).trans ?_; exact rfl) | (refine (vF_g rfl rfl).trans ?_; refine (vF_g rfl rfl).trans ?_; refine (vF_g rfl rfl).trans ?_; exact rfl) | (refine (vF_g rfl rfl).trans ?_; exact rfl))
  · by_cases s0 : tS T 0 = 0
    · by_cases z0 : tZ T 0 = n
      · by_cases n0 : 1 ≤ n
        · have w := wd_2w s0 z0
          have n6 : 6 < n := Nat.lt_of_not_le (fun q => h ⟨n0, q, w⟩)
          have hq : ∀ j, j < c → vM MT0 (D + 2) 238 [vR 452, vI (23 + 15 * j)] (fdv f T) = some ((0, 0), vI (if E j = 0 then 1 else 0), fdv f T) := fun j hj => by
            rw [if_neg (nm_0 (hr j hj))]
            exact v_isNamed9 (D := D) (g19.trans z0) n6 hn (by omega) (gr j hj)
          have t : vM MT0 (D + 3) 240 [vR 452, vI 0] (fdv f T) = some ((0, 0), vI (fidx E 0 c 0), fdv f T) :=
            vM_go rfl rfl rfl rfl fun F hF => (by (first | (refine Eq.trans (b := vFn (vM MT0 (D + 2)) nb_X11_thingHere (F + 59) 1 0 [vR 452, vI 0, vI 0] [] (fdv f T)) rfl ?_) | (refine (vF_g rfl rfl).trans ?_; refine (vF_g rfl rfl).trans ?_; refine Eq.trans (b := vFn (vM MT0 (D + 2)) nb_X11_thingHere (F + 59) 1 0 [vR 452, vI 0, vI 0] [] (fdv f T)) rfl ?_) | (refine (vF_g rfl rfl).trans ?_; refine Eq.trans (b := vFn (vM MT0 (D + 2)) nb_X11_thingHere (F + 59) 1 0 [vR 452, vI 0, vI 0] [] (fdv f T)) rfl ?_)); (first | (exact (th_loopE9 (D := D) gc hc9 hq c 0 (F + 59) (by omega) (by omega))) | (refine (vF_g rfl rfl).trans ?_; refine (vF_g rfl rfl).trans ?_; exact (th_loopE9 (D := D) gc hc9 hq c 0 (F + 59) (by omega) (by omega))) | (refine (vF_g rfl rfl).trans ?_; exact (th_loopE9 (D := D) gc hc9 hq c 0 (F + 59) (by omega) (by omega)))))
          rw [fidx_no c 0 (fun i _ hi => nm_0 (hr i (by omega)))] at t
          refine vM_go rfl rfl rfl rfl fun F hF => ?_
          (first | (refine (vbnd_0 e1).trans ?_) | (refine (vF_g rfl rfl).trans ?_; refine (vF_g rfl rfl).trans ?_; refine (vbnd_0 e1).trans ?_) | (refine (vF_g rfl rfl).trans ?_; refine (vbnd_0 e1).trans ?_))
          (first | (refine (veq (x := fdv f T 452 18) (y := 0) (g18.trans s0)).trans ?_) | (refine (vF_g rfl rfl).trans ?_; refine (vF_g rfl rfl).trans ?_; refine (veq (x := fdv f T 452 18) (y := 0) (g18.trans s0)).trans ?_) | (refine (vF_g rfl rfl).trans ?_; refine (veq (x := fdv f T 452 18) (y := 0) (g18.trans s0)).trans ?_))
          (first | (refine (veq (x := fdv f T 452 19) (y := fdv f T 452 16) (by rw [g19, g16, z0])).trans ?_) | (refine (vF_g rfl rfl).trans ?_; refine (vF_g rfl rfl).trans ?_; refine (veq (x := fdv f T 452 19) (y := fdv f T 452 16) (by rw [g19, g16, z0])).trans ?_) | (refine (vF_g rfl rfl).trans ?_; refine (veq (x := fdv f T 452 19) (y := fdv f T 452 16) (by rw [g19, g16, z0])).trans ?_))
          (first | (refine (vgt (x := fdv f T 452 16) (y := 0) (by rw [g16]; omega) (by rw [g16]; exact n0)).trans ?_) | (refine (vF_g rfl rfl).trans ?_; refine (vF_g rfl rfl).trans ?_; refine (vgt (x := fdv f T 452 16) (y := 0) (by rw [g16]; omega) (by rw [g16]; exact n0)).trans ?_) | (refine (vF_g rfl rfl).trans ?_; refine (vgt (x := fdv f T 452 16) (y := 0) (by rw [g16]; omega) (by rw [g16]; exact n0)).trans ?_))
          (first | (refine (vbnd_0 t).trans ?_) | (refine (vF_g rfl rfl).trans ?_; refine (vF_g rfl rfl).trans ?_; refine (vbnd_0 t).trans ?_) | (refine (vF_g rfl rfl).trans ?_; refine (vbnd_0 t).trans ?_))
          (first | (exact rfl) | (refine (vF_g rfl rfl).trans ?_; refine (vF_g rfl rfl).trans ?_; exact rfl) | (refine (vF_g rfl rfl).trans ?_; refine (vF_g rfl rfl).trans ?_; refine (vF_g rfl rfl).trans ?_; exact rfl) | (refine (vF_g rfl rfl).trans ?_; exact rfl))
        · refine vM_go rfl rfl rfl rfl fun F hF => ?_
          (first | (refine (vbnd_0 e1).trans ?_) | (refine (vF_g rfl rfl).trans ?_; refine (vF_g rfl rfl).trans ?_; refine (vbnd_0 e1).trans ?_) | (refine (vF_g rfl rfl).trans ?_; refine (vbnd_0 e1).trans ?_))
          (first | (refine (veq (x := fdv f T 452 18) (y := 0) (g18.trans s0)).trans ?_) | (refine (vF_g rfl rfl).trans ?_; refine (vF_g rfl rfl).trans ?_; refine (veq (x := fdv f T 452 18) (y := 0) (g18.trans s0)).trans ?_) | (refine (vF_g rfl rfl).trans ?_; refine (veq (x := fdv f T 452 18) (y := 0) (g18.trans s0)).trans ?_))
          (first | (refine (veq (x := fdv f T 452 19) (y := fdv f T 452 16) (by rw [g19, g16, z0])).trans ?_) | (refine (vF_g rfl rfl).trans ?_; refine (vF_g rfl rfl).trans ?_; refine (veq (x := fdv f T 452 19) (y := fdv f T 452 16) (by rw [g19, g16, z0])).trans ?_) | (refine (vF_g rfl rfl).trans ?_; refine (veq (x := fdv f T 452 19) (y := fdv f T 452 16) (by rw [g19, g16, z0])).trans ?_))
          (first | (refine (veq (x := fdv f T 452 16) (y := 0) (by rw [g16]; omega)).trans ?_) | (refine (vF_g rfl rfl).trans ?_; refine (vF_g rfl rfl).trans ?_; refine (veq (x := fdv f T 452 16) (y := 0) (by rw [g16]; omega)).trans ?_) | (refine (vF_g rfl rfl).trans ?_; refine (veq (x := fdv f T 452 16) (y := 0) (by rw [g16]; omega)).trans ?_))
          (first | (exact rfl) | (refine (vF_g rfl rfl).trans ?_; refine (vF_g rfl rfl).trans ?_; exact rfl) | (refine (vF_g rfl rfl).trans ?_; refine (vF_g rfl rfl).trans ?_; refine (vF_g rfl rfl).trans ?_; exact rfl) | (refine (vF_g rfl rfl).trans ?_; exact rfl))
      · have z9 := tZ_lew (T := T) hx.2.2.2.2
        refine vM_go rfl rfl rfl rfl fun F hF => ?_
        (first | (refine (vbnd_0 e1).trans ?_) | (refine (vF_g rfl rfl).trans ?_; refine (vF_g rfl rfl).trans ?_; refine (vbnd_0 e1).trans ?_) | (refine (vF_g rfl rfl).trans ?_; refine (vbnd_0 e1).trans ?_))
        (first | (refine (veq (x := fdv f T 452 18) (y := 0) (g18.trans s0)).trans ?_) | (refine (vF_g rfl rfl).trans ?_; refine (vF_g rfl rfl).trans ?_; refine (veq (x := fdv f T 452 18) (y := 0) (g18.trans s0)).trans ?_) | (refine (vF_g rfl rfl).trans ?_; refine (veq (x := fdv f T 452 18) (y := 0) (g18.trans s0)).trans ?_))
        (first | (refine (vne (x := fdv f T 452 19) (y := fdv f T 452 16) (by rw [g19]; omega) (by rw [g16]; omega) (by rw [g19, g16]; exact z0)).trans ?_) | (refine (vF_g rfl rfl).trans ?_; refine (vF_g rfl rfl).trans ?_; refine (vne (x := fdv f T 452 19) (y := fdv f T 452 16) (by rw [g19]; omega) (by rw [g16]; omega) (by rw [g19, g16]; exact z0)).trans ?_) | (refine (vF_g rfl rfl).trans ?_; refine (vne (x := fdv f T 452 19) (y := fdv f T 452 16) (by rw [g19]; omega) (by rw [g16]; omega) (by rw [g19, g16]; exact z0)).trans ?_))
        (first | (exact rfl) | (refine (vF_g rfl rfl).trans ?_; refine (vF_g rfl rfl).trans ?_; exact rfl) | (refine (vF_g rfl rfl).trans ?_; refine (vF_g rfl rfl).trans ?_; refine (vF_g rfl rfl).trans ?_; exact rfl) | (refine (vF_g rfl rfl).trans ?_; exact rfl))
    · refine vM_go rfl rfl rfl rfl fun F hF => ?_
      (first | (refine (vbnd_0 e1).trans ?_) | (refine (vF_g rfl rfl).trans ?_; refine (vF_g rfl rfl).trans ?_; refine (vbnd_0 e1).trans ?_) | (refine (vF_g rfl rfl).trans ?_; refine (vbnd_0 e1).trans ?_))
      (first | (refine (vne (x := fdv f T 452 18) (y := 0) (by rw [g18]; omega) (by decide) (by rw [g18]; exact s0)).trans ?_) | (refine (vF_g rfl rfl).trans ?_; refine (vF_g rfl rfl).trans ?_; refine (vne (x := fdv f T 452 18) (y := 0) (by rw [g18]; omega) (by decide) (by rw [g18]; exact s0)).trans ?_) | (refine (vF_g rfl rfl).trans ?_; refine (vne (x := fdv f T 452 18) (y := 0) (by rw [g18]; omega) (by decide) (by rw [g18]; exact s0)).trans ?_))
      (first | (exact rfl) | (refine (vF_g rfl rfl).trans ?_; refine (vF_g rfl rfl).trans ?_; exact rfl) | (refine (vF_g rfl rfl).trans ?_; refine (vF_g rfl rfl).trans ?_; refine (vF_g rfl rfl).trans ?_; exact rfl) | (refine (vF_g rfl rfl).trans ?_; exact rfl))
theorem th_loopV9 {D c x : Nat} {E : Nat → Nat} {f : Vw} (hc : f 453 1 = c) (hc9 : c ≤ 8) (hN : ∀ j, j < c → vM MT0 (D + 2) 238 [vR 452, vI (203 + 17 * j)] f = some ((0, 0), vI (if E j = x then 1 else 0), f)) : ∀ (m j F : Nat), j + m = c → 5 * m + 5 ≤ F → vFn (vM MT0 (D + 2)) nb_X11_thingHere F 1 0 [vR 452, vI 1, vI j] [] f = some ((0, 0), vI (fidx E x m j), f) := by
  intro m
  induction m with
  | zero =>
    intro j F hj hF
    obtain ⟨F1, rfl⟩ : ∃ F1, F = F1 + 4 := ⟨F - 4, by omega⟩
    (first | (refine (vgt (x := 1) (y := 0) (by decide) (by decide)).trans ?_) | (refine (vF_g rfl rfl).trans ?_; refine (vF_g rfl rfl).trans ?_; refine (vgt (x := 1) (y := 0) (by decide) (by decide)).trans ?_) | (refine (vF_g rfl rfl).trans ?_; refine (vgt (x := 1) (y := 0) (by decide) (by decide)).trans ?_))
    (first | (refine (vge2 (x := j) (y := f 453 1) (by omega) (by rw [hc]; omega)).trans ?_) | (refine (vF_g rfl rfl).trans ?_; refine (vF_g rfl rfl).trans ?_; refine (vge2 (x := j) (y := f 453 1) (by omega) (by rw [hc]; omega)).trans ?_) | (refine (vF_g rfl rfl).trans ?_; refine (vge2 (x := j) (y := f 453 1) (by omega) (by rw [hc]; omega)).trans ?_))
    (first | (exact rfl) | (refine (vF_g rfl rfl).trans ?_; refine (vF_g rfl rfl).trans ?_; exact rfl) | (refine (vF_g rfl rfl).trans ?_; refine (vF_g rfl rfl).trans ?_; refine (vF_g rfl rfl).trans ?_; exact rfl) | (refine (vF_g rfl rfl).trans ?_; exact rfl))
  | succ m ih =>
    intro j F hj hF
    obtain ⟨F1, rfl⟩ : ∃ F1, F = F1 + 5 := ⟨F - 5, by omega⟩
    have e1 := v_placeV (D := D + 1) (j := j) (f := f) (by omega)
    have e2 := hN j (by omega)
    (first | (refine (vgt (x := 1) (y := 0) (by decide) (by decide)).trans ?_) | (refine (vF_g rfl rfl).trans ?_; refine (vF_g rfl rfl).trans ?_; refine (vgt (x := 1) (y := 0) (by decide) (by decide)).trans ?_) | (refine (vF_g rfl rfl).trans ?_; refine (vgt (x := 1) (y := 0) (by decide) (by decide)).trans ?_))
    (first | (refine (vlt (x := j) (y := f 453 1) (by rw [hc]; omega) (by rw [hc]; omega)).trans ?_) | (refine (vF_g rfl rfl).trans ?_; refine (vF_g rfl rfl).trans ?_; refine (vlt (x := j) (y := f 453 1) (by rw [hc]; omega) (by rw [hc]; omega)).trans ?_) | (refine (vF_g rfl rfl).trans ?_; refine (vlt (x := j) (y := f 453 1) (by rw [hc]; omega) (by rw [hc]; omega)).trans ?_))
    (first | (refine (vbnd_0 e1).trans ?_) | (refine (vF_g rfl rfl).trans ?_; refine (vF_g rfl rfl).trans ?_; refine (vbnd_0 e1).trans ?_) | (refine (vF_g rfl rfl).trans ?_; refine (vbnd_0 e1).trans ?_))
    (first | (refine (vbnd_0 e2).trans ?_) | (refine (vF_g rfl rfl).trans ?_; refine (vF_g rfl rfl).trans ?_; refine (vbnd_0 e2).trans ?_) | (refine (vF_g rfl rfl).trans ?_; refine (vbnd_0 e2).trans ?_))
    rw [show fidx E x (m + 1) j = if E j = x then j else fidx E x m (j + 1) from rfl]
    by_cases q : E j = x
    · rw [if_pos q, if_pos q]
      (first | (refine (vgt (x := 1) (y := 0) (by decide) (by decide)).trans ?_) | (refine (vF_g rfl rfl).trans ?_; refine (vF_g rfl rfl).trans ?_; refine (vgt (x := 1) (y := 0) (by decide) (by decide)).trans ?_) | (refine (vF_g rfl rfl).trans ?_; refine (vgt (x := 1) (y := 0) (by decide) (by decide)).trans ?_))
      (first | (exact rfl) | (refine (vF_g rfl rfl).trans ?_; refine (vF_g rfl rfl).trans ?_; exact rfl) | (refine (vF_g rfl rfl).trans ?_; refine (vF_g rfl rfl).trans ?_; refine (vF_g rfl rfl).trans ?_; exact rfl) | (refine (vF_g rfl rfl).trans ?_; exact rfl))
    · rw [if_neg q, if_neg q]
      (first | (refine (veq (x := 0) (y := 0) rfl).trans ?_) | (refine (vF_g rfl rfl).trans ?_; refine (vF_g rfl rfl).trans ?_; refine (veq (x := 0) (y := 0) rfl).trans ?_) | (refine (vF_g rfl rfl).trans ?_; refine (veq (x := 0) (y := 0) rfl).trans ?_))
      (first | (refine Eq.trans (b := vFn (vM MT0 (D + 2)) nb_X11_thingHere F1 1 0 [vR 452, vI 1, vI ((j + 1) % 4294967296)] [] f) rfl ?_) | (refine (vF_g rfl rfl).trans ?_; refine (vF_g rfl rfl).trans ?_; refine Eq.trans (b := vFn (vM MT0 (D + 2)) nb_X11_thingHere F1 1 0 [vR 452, vI 1, vI ((j + 1) % 4294967296)] [] f) rfl ?_) | (refine (vF_g rfl rfl).trans ?_; refine Eq.trans (b := vFn (vM MT0 (D + 2)) nb_X11_thingHere F1 1 0 [vR 452, vI 1, vI ((j + 1) % 4294967296)] [] f) rfl ?_))
      rw [Nat.mod_eq_of_lt (show j + 1 < 4294967296 by omega)]
      exact ih (j + 1) F1 (by omega) (by omega)
theorem v_findVR {D n c : Nat} {T : Nat → Nat} {E : Nat → Nat} {f : Vw} (hx : TxR f n T) (hc : f 453 1 = c) (hc9 : c ≤ 8) (hr : ∀ j, j < c → nmRow f (203 + 17 * j) (E j)) : (nmOK T n → vM MT0 (D + 5) 270 [vR 452] f = some ((0, 0), vI (fidx E (pkr (nmr T 0 n)) c 0), fdv f T)) ∧ (¬ nmOK T n → vM MT0 (D + 5) 270 [vR 452] f = some ((0, 0), vI 4294967295, fdv f T)) := by
  have hn := hx.1
  have e1 := v_nextR (D := D + 1) (f := vup (vup f 452 6 0) 452 17 0) (p := 0) (T := T) (n := n) (txR_up (by decide) (txR_up (by decide) hx)) vup_eq (Nat.zero_le _)
  have g18 : fdv f T 452 18 = tS T 0 := rkv_18
  have g19 : fdv f T 452 19 = tZ T 0 := rkv_19
  have g16 : fdv f T 452 16 = n := (fdv_x hx).2.1
  have gc : fdv f T 453 1 = c := (fdv_o (Or.inl (by decide))).trans hc
  have gr : ∀ j, j < c → nmRow (fdv f T) (203 + 17 * j) (E j) := fun j hj => by
    obtain ⟨z, U, a1, a2, a3, a4, a5⟩ := hr j hj
    exact ⟨z, U, a1, a2, (fdv_o (Or.inl (by decide))).trans a3, fun k hk => ⟨(fdv_o (Or.inl (by decide))).trans (a4 k hk).1, (a4 k hk).2⟩, a5⟩
  have hS := tS_le hx.2.2.2.2 (Nat.zero_le n)
  have wrap : ∀ r, vM MT0 (D + 4) 268 [vR 452, vI 1] f = some ((0, 0), vI r, fdv f T) → vM MT0 (D + 5) 270 [vR 452] f = some ((0, 0), vI r, fdv f T) := fun r e => vM_go rfl rfl rfl rfl fun F hF => (by (first | (refine (vbnd_0 e).trans ?_) | (refine (vF_g rfl rfl).trans ?_; refine (vF_g rfl rfl).trans ?_; refine (vbnd_0 e).trans ?_) | (refine (vF_g rfl rfl).trans ?_; refine (vbnd_0 e).trans ?_)); (first | (exact rfl) | (refine (vF_g rfl rfl).trans ?_; refine (vF_g rfl rfl).trans ?_; exact rfl) | (refine (vF_g rfl rfl).trans ?_; refine (vF_g rfl rfl).trans ?_; refine (vF_g rfl rfl).trans ?_; exact rfl) | (refine (vF_g rfl rfl).trans ?_; exact rfl)))
  refine ⟨fun h => wrap _ ?_, fun h => wrap _ ?_⟩
  · obtain ⟨s0, z0⟩ := wd_1w hx.2.2.2.2 h.1 hn h.2.2
    have t : vM MT0 (D + 3) 240 [vR 452, vI 1] (fdv f T) = some ((0, 0), vI (fidx E (pkr (nmr T 0 n)) c 0), fdv f T) :=
      vM_go rfl rfl rfl rfl fun F hF => (by (first | (refine Eq.trans (b := vFn (vM MT0 (D + 2)) nb_X11_thingHere (F + 59) 1 0 [vR 452, vI 1, vI 0] [] (fdv f T)) rfl ?_) | (refine (vF_g rfl rfl).trans ?_; refine (vF_g rfl rfl).trans ?_; refine Eq.trans (b := vFn (vM MT0 (D + 2)) nb_X11_thingHere (F + 59) 1 0 [vR 452, vI 1, vI 0] [] (fdv f T)) rfl ?_) | (refine (vF_g rfl rfl).trans ?_; refine Eq.trans (b := vFn (vM MT0 (D + 2)) nb_X11_thingHere (F + 59) 1 0 [vR 452, vI 1, vI 0] [] (fdv f T)) rfl ?_)); (first | (exact (th_loopV9 (D := D) gc hc9 (fun j hj => v_isNamed (D := D) (fdv_x hx) (g18.trans s0) (g19.trans z0) h.2.1 (by decide) (by omega) (gr j hj) h.2.2) c 0 (F + 59) (by omega) (by omega))) | (refine (vF_g rfl rfl).trans ?_; refine (vF_g rfl rfl).trans ?_; exact (th_loopV9 (D := D) gc hc9 (fun j hj => v_isNamed (D := D) (fdv_x hx) (g18.trans s0) (g19.trans z0) h.2.1 (by decide) (by omega) (gr j hj) h.2.2) c 0 (F + 59) (by omega) (by omega))) | (refine (vF_g rfl rfl).trans ?_; exact (th_loopV9 (D := D) gc hc9 (fun j hj => v_isNamed (D := D) (fdv_x hx) (g18.trans s0) (g19.trans z0) h.2.1 (by decide) (by omega) (gr j hj) h.2.2) c 0 (F + 59) (by omega) (by omega)))))
    refine vM_go rfl rfl rfl rfl fun F hF => ?_
    (first | (refine (vbnd_0 e1).trans ?_) | (refine (vF_g rfl rfl).trans ?_; refine (vF_g rfl rfl).trans ?_; refine (vbnd_0 e1).trans ?_) | (refine (vF_g rfl rfl).trans ?_; refine (vbnd_0 e1).trans ?_))
    (first | (refine (veq (x := fdv f T 452 18) (y := 0) (g18.trans s0)).trans ?_) | (refine (vF_g rfl rfl).trans ?_; refine (vF_g rfl rfl).trans ?_; refine (veq (x := fdv f T 452 18) (y := 0) (g18.trans s0)).trans ?_) | (refine (vF_g rfl rfl).trans ?_; refine (veq (x := fdv f T 452 18) (y := 0) (g18.trans s0)).trans ?_))
    (first | (refine (veq (x := fdv f T 452 19) (y := fdv f T 452 16) (by rw [g19, g16, z0])).trans ?_) | (refine (vF_g rfl rfl).trans ?_; refine (vF_g rfl rfl).trans ?_; refine (veq (x := fdv f T 452 19) (y := fdv f T 452 16) (by rw [g19, g16, z0])).trans ?_) | (refine (vF_g rfl rfl).trans ?_; refine (veq (x := fdv f T 452 19) (y := fdv f T 452 16) (by rw [g19, g16, z0])).trans ?_))
    (first | (refine (vgt (x := fdv f T 452 16) (y := 0) (by rw [g16]; omega) (by rw [g16]; exact h.1)).trans ?_) | (refine (vF_g rfl rfl).trans ?_; refine (vF_g rfl rfl).trans ?_; refine (vgt (x := fdv f T 452 16) (y := 0) (by rw [g16]; omega) (by rw [g16]; exact h.1)).trans ?_) | (refine (vF_g rfl rfl).trans ?_; refine (vgt (x := fdv f T 452 16) (y := 0) (by rw [g16]; omega) (by rw [g16]; exact h.1)).trans ?_))
    (first | (refine (vbnd_0 t).trans ?_) | (refine (vF_g rfl rfl).trans ?_; refine (vF_g rfl rfl).trans ?_; refine (vbnd_0 t).trans ?_) | (refine (vF_g rfl rfl).trans ?_; refine (vbnd_0 t).trans ?_))
    (first | (exact rfl) | (refine (vF_g rfl rfl).trans ?_; refine (vF_g rfl rfl).trans ?_; exact rfl) | (refine (vF_g rfl rfl).trans ?_; refine (vF_g rfl rfl).trans ?_; refine (vF_g rfl rfl).trans ?_; exact rfl) | (refine (vF_g rfl rfl).trans ?_; exact rfl))
  · by_cases s0 : tS T 0 = 0
    · by_cases z0 : tZ T 0 = n
      · by_cases n0 : 1 ≤ n
        · have w := wd_2w s0 z0
          have n6 : 6 < n := Nat.lt_of_not_le (fun q => h ⟨n0, q, w⟩)
          have hq : ∀ j, j < c → vM MT0 (D + 2) 238 [vR 452, vI (203 + 17 * j)] (fdv f T) = some ((0, 0), vI (if E j = 0 then 1 else 0), fdv f T) := fun j hj => by
            rw [if_neg (nm_0 (hr j hj))]
            exact v_isNamed9 (D := D) (g19.trans z0) n6 hn (by omega) (gr j hj)
          have t : vM MT0 (D + 3) 240 [vR 452, vI 1] (fdv f T) = some ((0, 0), vI (fidx E 0 c 0), fdv f T) :=
            vM_go rfl rfl rfl rfl fun F hF => (by (first | (refine Eq.trans (b := vFn (vM MT0 (D + 2)) nb_X11_thingHere (F + 59) 1 0 [vR 452, vI 1, vI 0] [] (fdv f T)) rfl ?_) | (refine (vF_g rfl rfl).trans ?_; refine (vF_g rfl rfl).trans ?_; refine Eq.trans (b := vFn (vM MT0 (D + 2)) nb_X11_thingHere (F + 59) 1 0 [vR 452, vI 1, vI 0] [] (fdv f T)) rfl ?_) | (refine (vF_g rfl rfl).trans ?_; refine Eq.trans (b := vFn (vM MT0 (D + 2)) nb_X11_thingHere (F + 59) 1 0 [vR 452, vI 1, vI 0] [] (fdv f T)) rfl ?_)); (first | (exact (th_loopV9 (D := D) gc hc9 hq c 0 (F + 59) (by omega) (by omega))) | (refine (vF_g rfl rfl).trans ?_; refine (vF_g rfl rfl).trans ?_; exact (th_loopV9 (D := D) gc hc9 hq c 0 (F + 59) (by omega) (by omega))) | (refine (vF_g rfl rfl).trans ?_; exact (th_loopV9 (D := D) gc hc9 hq c 0 (F + 59) (by omega) (by omega)))))
          rw [fidx_no c 0 (fun i _ hi => nm_0 (hr i (by omega)))] at t
          refine vM_go rfl rfl rfl rfl fun F hF => ?_
          (first | (refine (vbnd_0 e1).trans ?_) | (refine (vF_g rfl rfl).trans ?_; refine (vF_g rfl rfl).trans ?_; refine (vbnd_0 e1).trans ?_) | (refine (vF_g rfl rfl).trans ?_; refine (vbnd_0 e1).trans ?_))
          (first | (refine (veq (x := fdv f T 452 18) (y := 0) (g18.trans s0)).trans ?_) | (refine (vF_g rfl rfl).trans ?_; refine (vF_g rfl rfl).trans ?_; refine (veq (x := fdv f T 452 18) (y := 0) (g18.trans s0)).trans ?_) | (refine (vF_g rfl rfl).trans ?_; refine (veq (x := fdv f T 452 18) (y := 0) (g18.trans s0)).trans ?_))
          (first | (refine (veq (x := fdv f T 452 19) (y := fdv f T 452 16) (by rw [g19, g16, z0])).trans ?_) | (refine (vF_g rfl rfl).trans ?_; refine (vF_g rfl rfl).trans ?_; refine (veq (x := fdv f T 452 19) (y := fdv f T 452 16) (by rw [g19, g16, z0])).trans ?_) | (refine (vF_g rfl rfl).trans ?_; refine (veq (x := fdv f T 452 19) (y := fdv f T 452 16) (by rw [g19, g16, z0])).trans ?_))
          (first | (refine (vgt (x := fdv f T 452 16) (y := 0) (by rw [g16]; omega) (by rw [g16]; exact n0)).trans ?_) | (refine (vF_g rfl rfl).trans ?_; refine (vF_g rfl rfl).trans ?_; refine (vgt (x := fdv f T 452 16) (y := 0) (by rw [g16]; omega) (by rw [g16]; exact n0)).trans ?_) | (refine (vF_g rfl rfl).trans ?_; refine (vgt (x := fdv f T 452 16) (y := 0) (by rw [g16]; omega) (by rw [g16]; exact n0)).trans ?_))
          (first | (refine (vbnd_0 t).trans ?_) | (refine (vF_g rfl rfl).trans ?_; refine (vF_g rfl rfl).trans ?_; refine (vbnd_0 t).trans ?_) | (refine (vF_g rfl rfl).trans ?_; refine (vbnd_0 t).trans ?_))
          (first | (exact rfl) | (refine (vF_g rfl rfl).trans ?_; refine (vF_g rfl rfl).trans ?_; exact rfl) | (refine (vF_g rfl rfl).trans ?_; refine (vF_g rfl rfl).trans ?_; refine (vF_g rfl rfl).trans ?_; exact rfl) | (refine (vF_g rfl rfl).trans ?_; exact rfl))
        · refine vM_go rfl rfl rfl rfl fun F hF => ?_
          (first | (refine (vbnd_0 e1).trans ?_) | (refine (vF_g rfl rfl).trans ?_; refine (vF_g rfl rfl).trans ?_; refine (vbnd_0 e1).trans ?_) | (refine (vF_g rfl rfl).trans ?_; refine (vbnd_0 e1).trans ?_))
          (first | (refine (veq (x := fdv f T 452 18) (y := 0) (g18.trans s0)).trans ?_) | (refine (vF_g rfl rfl).trans ?_; refine (vF_g rfl rfl).trans ?_; refine (veq (x := fdv f T 452 18) (y := 0) (g18.trans s0)).trans ?_) | (refine (vF_g rfl rfl).trans ?_; refine (veq (x := fdv f T 452 18) (y := 0) (g18.trans s0)).trans ?_))
          (first | (refine (veq (x := fdv f T 452 19) (y := fdv f T 452 16) (by rw [g19, g16, z0])).trans ?_) | (refine (vF_g rfl rfl).trans ?_; refine (vF_g rfl rfl).trans ?_; refine (veq (x := fdv f T 452 19) (y := fdv f T 452 16) (by rw [g19, g16, z0])).trans ?_) | (refine (vF_g rfl rfl).trans ?_; refine (veq (x := fdv f T 452 19) (y := fdv f T 452 16) (by rw [g19, g16, z0])).trans ?_))
          (first | (refine (veq (x := fdv f T 452 16) (y := 0) (by rw [g16]; omega)).trans ?_) | (refine (vF_g rfl rfl).trans ?_; refine (vF_g rfl rfl).trans ?_; refine (veq (x := fdv f T 452 16) (y := 0) (by rw [g16]; omega)).trans ?_) | (refine (vF_g rfl rfl).trans ?_; refine (veq (x := fdv f T 452 16) (y := 0) (by rw [g16]; omega)).trans ?_))
          (first | (exact rfl) | (refine (vF_g rfl rfl).trans ?_; refine (vF_g rfl rfl).trans ?_; exact rfl) | (refine (vF_g rfl rfl).trans ?_; refine (vF_g rfl rfl).trans ?_; refine (vF_g rfl rfl).trans ?_; exact rfl) | (refine (vF_g rfl rfl).trans ?_; exact rfl))
      · have z9 := tZ_lew (T := T) hx.2.2.2.2
        refine vM_go rfl rfl rfl rfl fun F hF => ?_
        (first | (refine (vbnd_0 e1).trans ?_) | (refine (vF_g rfl rfl).trans ?_; refine (vF_g rfl rfl).trans ?_; refine (vbnd_0 e1).trans ?_) | (refine (vF_g rfl rfl).trans ?_; refine (vbnd_0 e1).trans ?_))
        (first | (refine (veq (x := fdv f T 452 18) (y := 0) (g18.trans s0)).trans ?_) | (refine (vF_g rfl rfl).trans ?_; refine (vF_g rfl rfl).trans ?_; refine (veq (x := fdv f T 452 18) (y := 0) (g18.trans s0)).trans ?_) | (refine (vF_g rfl rfl).trans ?_; refine (veq (x := fdv f T 452 18) (y := 0) (g18.trans s0)).trans ?_))
        (first | (refine (vne (x := fdv f T 452 19) (y := fdv f T 452 16) (by rw [g19]; omega) (by rw [g16]; omega) (by rw [g19, g16]; exact z0)).trans ?_) | (refine (vF_g rfl rfl).trans ?_; refine (vF_g rfl rfl).trans ?_; refine (vne (x := fdv f T 452 19) (y := fdv f T 452 16) (by rw [g19]; omega) (by rw [g16]; omega) (by rw [g19, g16]; exact z0)).trans ?_) | (refine (vF_g rfl rfl).trans ?_; refine (vne (x := fdv f T 452 19) (y := fdv f T 452 16) (by rw [g19]; omega) (by rw [g16]; omega) (by rw [g19, g16]; exact z0)).trans ?_))
        (first | (exact rfl) | (refine (vF_g rfl rfl).trans ?_; refine (vF_g rfl rfl).trans ?_; exact rfl) | (refine (vF_g rfl rfl).trans ?_; refine (vF_g rfl rfl).trans ?_; refine (vF_g rfl rfl).trans ?_; exact rfl) | (refine (vF_g rfl rfl).trans ?_; exact rfl))
    · refine vM_go rfl rfl rfl rfl fun F hF => ?_
      (first | (refine (vbnd_0 e1).trans ?_) | (refine (vF_g rfl rfl).trans ?_; refine (vF_g rfl rfl).trans ?_; refine (vbnd_0 e1).trans ?_) | (refine (vF_g rfl rfl).trans ?_; refine (vbnd_0 e1).trans ?_))
      (first | (refine (vne (x := fdv f T 452 18) (y := 0) (by rw [g18]; omega) (by decide) (by rw [g18]; exact s0)).trans ?_) | (refine (vF_g rfl rfl).trans ?_; refine (vF_g rfl rfl).trans ?_; refine (vne (x := fdv f T 452 18) (y := 0) (by rw [g18]; omega) (by decide) (by rw [g18]; exact s0)).trans ?_) | (refine (vF_g rfl rfl).trans ?_; refine (vne (x := fdv f T 452 18) (y := 0) (by rw [g18]; omega) (by decide) (by rw [g18]; exact s0)).trans ?_))
      (first | (exact rfl) | (refine (vF_g rfl rfl).trans ?_; refine (vF_g rfl rfl).trans ?_; exact rfl) | (refine (vF_g rfl rfl).trans ?_; refine (vF_g rfl rfl).trans ?_; refine (vF_g rfl rfl).trans ?_; exact rfl) | (refine (vF_g rfl rfl).trans ?_; exact rfl))
