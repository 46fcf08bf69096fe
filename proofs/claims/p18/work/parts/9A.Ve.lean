/-! the program's names in a world -/
def fidx (g : Nat → Nat) (x : Nat) : Nat → Nat → Nat
  | 0, _ => 4294967295
  | m + 1, j => if g j = x then j else fidx g x m (j + 1)
theorem lsg_e {a b : Nat} (ha : a < 9223372036854775808) (hb : b < 9223372036854775808) : lsg a = lsg b ↔ a = b := by
  rw [lsg_s ha, lsg_s hb]
  omega
theorem v_isName {D : Nat} {f : Vw} (hk : f 446 2 < 4294967296) (hz : f 446 4 < 2147483648) : (f 446 2 = 1 ∧ f 446 4 ≤ 6 → vM MT0 (D + 1) 53 [vR 446] f = some ((0, 0), vI 1, f)) ∧ (¬ (f 446 2 = 1 ∧ f 446 4 ≤ 6) → vM MT0 (D + 1) 53 [vR 446] f = some ((0, 0), vI 0, f)) := by
  refine ⟨fun c => ?_, fun c => ?_⟩
  · refine vM_go rfl rfl rfl rfl fun F hF => ?_
    (first | (refine (veq c.1).trans ?_) | (refine (vF_g rfl rfl).trans ?_; refine (vF_g rfl rfl).trans ?_; refine (veq c.1).trans ?_) | (refine (vF_g rfl rfl).trans ?_; refine (veq c.1).trans ?_))
    (first | (refine (vle2 (x := f 446 4) (y := 6) (by decide) c.2).trans ?_) | (refine (vF_g rfl rfl).trans ?_; refine (vF_g rfl rfl).trans ?_; refine (vle2 (x := f 446 4) (y := 6) (by decide) c.2).trans ?_) | (refine (vF_g rfl rfl).trans ?_; refine (vle2 (x := f 446 4) (y := 6) (by decide) c.2).trans ?_))
    (first | (exact rfl) | (refine (vF_g rfl rfl).trans ?_; refine (vF_g rfl rfl).trans ?_; exact rfl) | (refine (vF_g rfl rfl).trans ?_; refine (vF_g rfl rfl).trans ?_; refine (vF_g rfl rfl).trans ?_; exact rfl) | (refine (vF_g rfl rfl).trans ?_; exact rfl))
  · by_cases q : f 446 2 = 1
    · refine vM_go rfl rfl rfl rfl fun F hF => ?_
      (first | (refine (veq q).trans ?_) | (refine (vF_g rfl rfl).trans ?_; refine (vF_g rfl rfl).trans ?_; refine (veq q).trans ?_) | (refine (vF_g rfl rfl).trans ?_; refine (veq q).trans ?_))
      (first | (refine (vgt (x := f 446 4) (y := 6) hz (by have : ¬ f 446 4 ≤ 6 := fun w => c ⟨q, w⟩; omega)).trans ?_) | (refine (vF_g rfl rfl).trans ?_; refine (vF_g rfl rfl).trans ?_; refine (vgt (x := f 446 4) (y := 6) hz (by have : ¬ f 446 4 ≤ 6 := fun w => c ⟨q, w⟩; omega)).trans ?_) | (refine (vF_g rfl rfl).trans ?_; refine (vgt (x := f 446 4) (y := 6) hz (by have : ¬ f 446 4 ≤ 6 := fun w => c ⟨q, w⟩; omega)).trans ?_))
      (first | (exact rfl) | (refine (vF_g rfl rfl).trans ?_; refine (vF_g rfl rfl).trans ?_; exact rfl) | (refine (vF_g rfl rfl).trans ?_; refine (vF_g rfl rfl).trans ?_; refine (vF_g rfl rfl).trans ?_; exact rfl) | (refine (vF_g rfl rfl).trans ?_; exact rfl))
    · refine vM_go rfl rfl rfl rfl fun F hF => ?_
      (first | (refine (vne (x := f 446 2) (y := 1) hk (by decide) q).trans ?_) | (refine (vF_g rfl rfl).trans ?_; refine (vF_g rfl rfl).trans ?_; refine (vne (x := f 446 2) (y := 1) hk (by decide) q).trans ?_) | (refine (vF_g rfl rfl).trans ?_; refine (vne (x := f 446 2) (y := 1) hk (by decide) q).trans ?_))
      (first | (exact rfl) | (refine (vF_g rfl rfl).trans ?_; refine (vF_g rfl rfl).trans ?_; exact rfl) | (refine (vF_g rfl rfl).trans ?_; refine (vF_g rfl rfl).trans ?_; refine (vF_g rfl rfl).trans ?_; exact rfl) | (refine (vF_g rfl rfl).trans ?_; exact rfl))
/-- a name may stand there -/
def nOK (T : Nat → Nat) (p : Nat) : Prop := tK T p = 1 ∧ tE T p - tS T p ≤ 6
theorem v_isName9 {D n p : Nat} {T : Nat → Nat} {g : Vw} (hx : TxC g n T) (hp : p ≤ n) (g2 : g 446 2 = tK T p) (g4 : g 446 4 = tE T p - tS T p) : (nOK T p → vM MT0 (D + 1) 53 [vR 446] g = some ((0, 0), vI 1, g)) ∧ (¬ nOK T p → vM MT0 (D + 1) 53 [vR 446] g = some ((0, 0), vI 0, g)) := by
  obtain ⟨b1, b2⟩ := tE_le hx.2.2.2.2 hp
  have hn := hx.1
  have hk : tK T p ≤ 5 := kd9_l _
  have e := v_isName (D := D) (f := g) (by rw [g2]; omega) (by rw [g4]; omega)
  rw [g2, g4] at e
  exact e
theorem v_takeName {D n p : Nat} {T : Nat → Nat} {f : Vw} (hx : TxC f n T) (hp9 : f 446 1 = p) (hp : p ≤ n) : (nOK T p → vM MT0 (D + 3) 54 [vR 446] f = some ((0, 0), vI 1, tk9 f T p)) ∧ (¬ nOK T p → vM MT0 (D + 3) 54 [vR 446] f = some ((0, 0), vI 0, fl 1 (tk9 f T p))) := by
  obtain ⟨w1, w2⟩ := v_isName9 (D := D + 1) (txC_tk (f := f) (p := p) hx) hp tkq_2 tkq_4
  refine ⟨fun c => ?_, fun c => ?_⟩
  · refine vM_go rfl rfl rfl rfl fun F hF => ?_
    (first | (refine (vbnd_1 (v_next9 hx hp9 hp)).trans ?_) | (refine (vF_g rfl rfl).trans ?_; refine (vF_g rfl rfl).trans ?_; refine (vbnd_1 (v_next9 hx hp9 hp)).trans ?_) | (refine (vF_g rfl rfl).trans ?_; refine (vbnd_1 (v_next9 hx hp9 hp)).trans ?_))
    (first | (refine (vbnd_0 (w1 c)).trans ?_) | (refine (vF_g rfl rfl).trans ?_; refine (vF_g rfl rfl).trans ?_; refine (vbnd_0 (w1 c)).trans ?_) | (refine (vF_g rfl rfl).trans ?_; refine (vbnd_0 (w1 c)).trans ?_))
    (first | (refine (vgt (x := 1) (y := 0) (by decide) (by decide)).trans ?_) | (refine (vF_g rfl rfl).trans ?_; refine (vF_g rfl rfl).trans ?_; refine (vgt (x := 1) (y := 0) (by decide) (by decide)).trans ?_) | (refine (vF_g rfl rfl).trans ?_; refine (vgt (x := 1) (y := 0) (by decide) (by decide)).trans ?_))
    (first | (exact rfl) | (refine (vF_g rfl rfl).trans ?_; refine (vF_g rfl rfl).trans ?_; exact rfl) | (refine (vF_g rfl rfl).trans ?_; refine (vF_g rfl rfl).trans ?_; refine (vF_g rfl rfl).trans ?_; exact rfl) | (refine (vF_g rfl rfl).trans ?_; exact rfl))
  · refine vM_go rfl rfl rfl rfl fun F hF => ?_
    (first | (refine (vbnd_1 (v_next9 hx hp9 hp)).trans ?_) | (refine (vF_g rfl rfl).trans ?_; refine (vF_g rfl rfl).trans ?_; refine (vbnd_1 (v_next9 hx hp9 hp)).trans ?_) | (refine (vF_g rfl rfl).trans ?_; refine (vbnd_1 (v_next9 hx hp9 hp)).trans ?_))
    (first | (refine (vbnd_0 (w2 c)).trans ?_) | (refine (vF_g rfl rfl).trans ?_; refine (vF_g rfl rfl).trans ?_; refine (vbnd_0 (w2 c)).trans ?_) | (refine (vF_g rfl rfl).trans ?_; refine (vbnd_0 (w2 c)).trans ?_))
    (first | (refine (veq (x := 0) (y := 0) rfl).trans ?_) | (refine (vF_g rfl rfl).trans ?_; refine (vF_g rfl rfl).trans ?_; refine (veq (x := 0) (y := 0) rfl).trans ?_) | (refine (vF_g rfl rfl).trans ?_; refine (veq (x := 0) (y := 0) rfl).trans ?_))
    (first | (refine (vbnd_0 v_fail9).trans ?_) | (refine (vF_g rfl rfl).trans ?_; refine (vF_g rfl rfl).trans ?_; refine (vbnd_0 v_fail9).trans ?_) | (refine (vF_g rfl rfl).trans ?_; refine (vbnd_0 v_fail9).trans ?_))
    (first | (refine (veq (x := 0) (y := 0) rfl).trans ?_) | (refine (vF_g rfl rfl).trans ?_; refine (vF_g rfl rfl).trans ?_; refine (veq (x := 0) (y := 0) rfl).trans ?_) | (refine (vF_g rfl rfl).trans ?_; refine (veq (x := 0) (y := 0) rfl).trans ?_))
    (first | (exact rfl) | (refine (vF_g rfl rfl).trans ?_; refine (vF_g rfl rfl).trans ?_; exact rfl) | (refine (vF_g rfl rfl).trans ?_; refine (vF_g rfl rfl).trans ?_; refine (vF_g rfl rfl).trans ?_; exact rfl) | (refine (vF_g rfl rfl).trans ?_; exact rfl))
/-- the letters of a word -/
theorem word_l {T : Nat → Nat} {p : Nat} (h : tK T p = 1) : ∀ j, j < tE T p - tS T p → 97 ≤ T (tS T p + j) ∧ T (tS T p + j) ≤ 122 := by
  have e : tE T p = rn T 1 901 (tS T p) := by
    unfold tE
    rw [if_neg (by omega), if_pos (Or.inl h), h]
  have key : ∀ (m q j : Nat), q + j < rn T 1 m q → kd9 (T (q + j)) = 1 := by
    intro m
    induction m with
    | zero =>
      intro q j h
      have h : q + j < q := h
      omega
    | succ m ih =>
      intro q j h
      by_cases w : kd9 (T q) = 1
      · rw [show rn T 1 (m + 1) q = rn T 1 m (q + 1) from if_pos w] at h
        cases j with
        | zero => exact w
        | succ j =>
          have := ih (q + 1) j (by omega)
          rwa [show q + 1 + j = q + (j + 1) by omega] at this
      · rw [show rn T 1 (m + 1) q = q from if_neg w] at h
        omega
  intro j hj
  exact kd9_1.mp (key 901 (tS T p) j (by rw [e] at hj; omega))
theorem word_1 {T : Nat → Nat} {p : Nat} (h : tK T p = 1) : 1 ≤ tE T p - tS T p := by
  have e : tE T p = rn T 1 901 (tS T p) := by
    unfold tE
    rw [if_neg (by omega), if_pos (Or.inl h), h]
  have e2 : rn T 1 901 (tS T p) = rn T 1 900 (tS T p + 1) := if_pos h
  have := rn_ge (T := T) (k := 1) 900 (tS T p + 1)
  omega
/-- the word's letters, the last first -/
def tN (T : Nat → Nat) (p : Nat) : List Nat := nmr T (tS T p) (tE T p - tS T p)
theorem v_name {D n p : Nat} {T : Nat → Nat} {g : Vw} (hx : TxC g n T) (hp : p ≤ n) (hk : nOK T p) (g3 : g 446 3 = tS T p) (g4 : g 446 4 = tE T p - tS T p) : vM MT0 (D + 3) 50 [vR 446] g = some ((0, 0), vJ (pkr (tN T p)), g) := by
  obtain ⟨a1, a2⟩ := tS_le hx.2.2.2.2 hp
  have hn := hx.1
  have e := v_nameAt (D := D) (s := g 446 3) (z := g 446 4) hx (by rw [g3]; omega) (by rw [g4]; exact word_1 hk.1) (by rw [g4]; exact hk.2) (fun j hj => by rw [g3]; exact word_l hk.1 j (by rw [← g4]; exact hj))
  refine vM_go rfl rfl rfl rfl fun F hF => ?_
  (first | (refine (vbnd_0 e).trans ?_) | (refine (vF_g rfl rfl).trans ?_; refine (vF_g rfl rfl).trans ?_; refine (vbnd_0 e).trans ?_) | (refine (vF_g rfl rfl).trans ?_; refine (vbnd_0 e).trans ?_))
  rw [g3, g4]
  (first | (exact rfl) | (refine (vF_g rfl rfl).trans ?_; refine (vF_g rfl rfl).trans ?_; exact rfl) | (refine (vF_g rfl rfl).trans ?_; refine (vF_g rfl rfl).trans ?_; refine (vF_g rfl rfl).trans ?_; exact rfl) | (refine (vF_g rfl rfl).trans ?_; exact rfl))
theorem rtE_46 {j : Nat} (hj : j < 12) : rt0 47 j = 49 + j := by
  rcases (show j = 0 ∨ j = 1 ∨ j = 2 ∨ j = 3 ∨ j = 4 ∨ j = 5 ∨ j = 6 ∨ j = 7 ∨ j = 8 ∨ j = 9 ∨ j = 10 ∨ j = 11 by omega) with rfl | rfl | rfl | rfl | rfl | rfl | rfl | rfl | rfl | rfl | rfl | rfl <;> rfl
theorem shE_46 {j : Nat} (hj : j < 12) {t : Nat → Option VR} : shO (49 + j) 3 0 t = t 1 ∧ shO (49 + j) 3 1 t = t 0 ∧ shO (49 + j) 3 2 t = t 0 ∧ shO (49 + j) 3 3 t = t 0 ∧ shO (49 + j) 3 4 t = t 0 := by
  rcases (show j = 0 ∨ j = 1 ∨ j = 2 ∨ j = 3 ∨ j = 4 ∨ j = 5 ∨ j = 6 ∨ j = 7 ∨ j = 8 ∨ j = 9 ∨ j = 10 ∨ j = 11 by omega) with rfl | rfl | rfl | rfl | rfl | rfl | rfl | rfl | rfl | rfl | rfl | rfl <;> exact ⟨rfl, rfl, rfl, rfl, rfl⟩
theorem rtV_46 {j : Nat} (hj : j < 8) : rt0 48 j = 61 + 3 * j := by
  rcases (show j = 0 ∨ j = 1 ∨ j = 2 ∨ j = 3 ∨ j = 4 ∨ j = 5 ∨ j = 6 ∨ j = 7 by omega) with rfl | rfl | rfl | rfl | rfl | rfl | rfl | rfl <;> rfl
theorem shV_46 {j : Nat} (hj : j < 8) {t : Nat → Option VR} : shO (61 + 3 * j) 8 0 t = t 1 ∧ shO (61 + 3 * j) 8 1 t = t 0 ∧ shO (61 + 3 * j) 8 2 t = t 0 ∧ shO (61 + 3 * j) 8 3 t = t 0 ∧ shO (61 + 3 * j) 8 4 t = t 0 := by
  rcases (show j = 0 ∨ j = 1 ∨ j = 2 ∨ j = 3 ∨ j = 4 ∨ j = 5 ∨ j = 6 ∨ j = 7 by omega) with rfl | rfl | rfl | rfl | rfl | rfl | rfl | rfl <;> exact ⟨rfl, rfl, rfl, rfl, rfl⟩
theorem echoNamed_l46 {D x c : Nat} {f : Vw} (hx : x < 9223372036854775808) (hc : f 46 2 = c) (hc9 : c ≤ 12) (hn : ∀ j, j < c → f (49 + j) 0 < 9223372036854775808) : ∀ (m j F : Nat), j + m = c → 3 * m + 3 ≤ F → vFn (vM MT0 D) nb_X9_echoNamed F 1 0 [vR 46, vJ x, vW 3, vI j] [] f = some ((0, 0), vI (fidx (fun j => f (49 + j) 0) x m j), f) := by
  intro m
  induction m with
  | zero =>
    intro j F hj hF
    obtain ⟨F1, rfl⟩ : ∃ F1, F = F1 + 2 := ⟨F - 2, by omega⟩
    (first | (refine (vge2 (x := j) (y := f 46 2) (by omega) (by rw [hc]; omega)).trans ?_) | (refine (vF_g rfl rfl).trans ?_; refine (vF_g rfl rfl).trans ?_; refine (vge2 (x := j) (y := f 46 2) (by omega) (by rw [hc]; omega)).trans ?_) | (refine (vF_g rfl rfl).trans ?_; refine (vge2 (x := j) (y := f 46 2) (by omega) (by rw [hc]; omega)).trans ?_))
    (first | (exact rfl) | (refine (vF_g rfl rfl).trans ?_; refine (vF_g rfl rfl).trans ?_; exact rfl) | (refine (vF_g rfl rfl).trans ?_; refine (vF_g rfl rfl).trans ?_; refine (vF_g rfl rfl).trans ?_; exact rfl) | (refine (vF_g rfl rfl).trans ?_; exact rfl))
  | succ m ih =>
    intro j F hj hF
    obtain ⟨F1, rfl⟩ : ∃ F1, F = F1 + 3 := ⟨F - 3, by omega⟩
    have hj9 : j < 12 := by omega
    (first | (refine (vlt (x := j) (y := f 46 2) (by rw [hc]; omega) (by rw [hc]; omega)).trans ?_) | (refine (vF_g rfl rfl).trans ?_; refine (vF_g rfl rfl).trans ?_; refine (vlt (x := j) (y := f 46 2) (by rw [hc]; omega) (by rw [hc]; omega)).trans ?_) | (refine (vF_g rfl rfl).trans ?_; refine (vlt (x := j) (y := f 46 2) (by rw [hc]; omega) (by rw [hc]; omega)).trans ?_))
    have e2 : vFn (vM MT0 D) nb_X9_echoNamed (F1 + 2) 2 0 [vR 46, vJ x, vW 3, vI j] [] f = vc3 (bv (toN (lg_cmp (lN (f (49 + j) 0)) (lN x)))) (bv 0) (vFn (vM MT0 D) nb_X9_echoNamed (F1 + 1) 4 0 [vR 46, vJ x, vW 3, vI j] [] f) (vFn (vM MT0 D) nb_X9_echoNamed (F1 + 1) 3 0 [vR 46, vJ x, vW 3, vI j] [] f) (vFn (vM MT0 D) nb_X9_echoNamed (F1 + 1) 4 0 [vR 46, vJ x, vW 3, vI j] [] f) := by
      (first | (refine Eq.trans (b := gd (Nat.ble (j + 1) 12) (shO (rt0 47 j) 3 0 (gft f (rt0 47 j) 0 fun v => vB (vM MT0 D) (vFn (vM MT0 D) nb_X9_echoNamed (F1 + 1)) ((2, 4, 3, 4, 0, 0, 0), []) [(5, 1, 1, 0, 0, 0, 0), (20, 0, 0, 0, 0, 0, 0)] 0 [vR 46, vJ x, vW 3, vI j] [v] f))) rfl ?_) | (refine (vF_g rfl rfl).trans ?_; refine (vF_g rfl rfl).trans ?_; refine Eq.trans (b := gd (Nat.ble (j + 1) 12) (shO (rt0 47 j) 3 0 (gft f (rt0 47 j) 0 fun v => vB (vM MT0 D) (vFn (vM MT0 D) nb_X9_echoNamed (F1 + 1)) ((2, 4, 3, 4, 0, 0, 0), []) [(5, 1, 1, 0, 0, 0, 0), (20, 0, 0, 0, 0, 0, 0)] 0 [vR 46, vJ x, vW 3, vI j] [v] f))) rfl ?_) | (refine (vF_g rfl rfl).trans ?_; refine Eq.trans (b := gd (Nat.ble (j + 1) 12) (shO (rt0 47 j) 3 0 (gft f (rt0 47 j) 0 fun v => vB (vM MT0 D) (vFn (vM MT0 D) nb_X9_echoNamed (F1 + 1)) ((2, 4, 3, 4, 0, 0, 0), []) [(5, 1, 1, 0, 0, 0, 0), (20, 0, 0, 0, 0, 0, 0)] 0 [vR 46, vJ x, vW 3, vI j] [v] f))) rfl ?_))
      rw [Nat.ble_eq_true_of_le (show j + 1 ≤ 12 by omega), rtE_46 hj9, (shE_46 hj9).1]
      (first | (exact rfl) | (refine (vF_g rfl rfl).trans ?_; refine (vF_g rfl rfl).trans ?_; exact rfl) | (refine (vF_g rfl rfl).trans ?_; refine (vF_g rfl rfl).trans ?_; refine (vF_g rfl rfl).trans ?_; exact rfl) | (refine (vF_g rfl rfl).trans ?_; exact rfl))
    rw [e2, show fidx (fun j => f (49 + j) 0) x (m + 1) j = if f (49 + j) 0 = x then j else fidx (fun j => f (49 + j) 0) x m (j + 1) from rfl]
    have hy := hn j (by omega)
    by_cases q : f (49 + j) 0 = x
    · rw [if_pos q, vlc, if_neg (by rw [q]; exact Int.lt_irrefl _), if_pos (by rw [q])]
      (first | (exact rfl) | (refine (vF_g rfl rfl).trans ?_; refine (vF_g rfl rfl).trans ?_; exact rfl) | (refine (vF_g rfl rfl).trans ?_; refine (vF_g rfl rfl).trans ?_; refine (vF_g rfl rfl).trans ?_; exact rfl) | (refine (vF_g rfl rfl).trans ?_; exact rfl))
    · have e4 : ∀ a b : Option VR, (if lsg (f (49 + j) 0) < lsg x then a else if lsg (f (49 + j) 0) = lsg x then b else a) = a := by
        intro a b
        by_cases w : lsg (f (49 + j) 0) < lsg x
        · rw [if_pos w]
        · rw [if_neg w, if_neg (fun z => q ((lsg_e hy hx).mp z))]
      rw [if_neg q, vlc, e4]
      (first | (refine Eq.trans (b := vFn (vM MT0 D) nb_X9_echoNamed F1 1 0 [vR 46, vJ x, vW 3, vI ((j + 1) % 4294967296)] [] f) rfl ?_) | (refine (vF_g rfl rfl).trans ?_; refine (vF_g rfl rfl).trans ?_; refine Eq.trans (b := vFn (vM MT0 D) nb_X9_echoNamed F1 1 0 [vR 46, vJ x, vW 3, vI ((j + 1) % 4294967296)] [] f) rfl ?_) | (refine (vF_g rfl rfl).trans ?_; refine Eq.trans (b := vFn (vM MT0 D) nb_X9_echoNamed F1 1 0 [vR 46, vJ x, vW 3, vI ((j + 1) % 4294967296)] [] f) rfl ?_))
      rw [Nat.mod_eq_of_lt (show j + 1 < 4294967296 by omega)]
      exact ih (j + 1) F1 (by omega) (by omega)
theorem v_echoNamed46 {D x c : Nat} {f : Vw} (hx : x < 9223372036854775808) (hc : f 46 2 = c) (hc9 : c ≤ 12) (hn : ∀ j, j < c → f (49 + j) 0 < 9223372036854775808) : vM MT0 (D + 1) 71 [vR 46, vJ x] f = some ((0, 0), vI (fidx (fun j => f (49 + j) 0) x c 0), f) :=
  vM_go rfl rfl rfl rfl fun F hF => (by (first | (refine Eq.trans (b := vFn (vM MT0 D) nb_X9_echoNamed (F + 59) 1 0 [vR 46, vJ x, vW 3, vI 0] [] f) rfl ?_) | (refine (vF_g rfl rfl).trans ?_; refine (vF_g rfl rfl).trans ?_; refine Eq.trans (b := vFn (vM MT0 D) nb_X9_echoNamed (F + 59) 1 0 [vR 46, vJ x, vW 3, vI 0] [] f) rfl ?_) | (refine (vF_g rfl rfl).trans ?_; refine Eq.trans (b := vFn (vM MT0 D) nb_X9_echoNamed (F + 59) 1 0 [vR 46, vJ x, vW 3, vI 0] [] f) rfl ?_)); (first | (exact (echoNamed_l46 hx hc hc9 hn c 0 (F + 59) (by omega) (by omega))) | (refine (vF_g rfl rfl).trans ?_; refine (vF_g rfl rfl).trans ?_; exact (echoNamed_l46 hx hc hc9 hn c 0 (F + 59) (by omega) (by omega))) | (refine (vF_g rfl rfl).trans ?_; exact (echoNamed_l46 hx hc hc9 hn c 0 (F + 59) (by omega) (by omega)))))
theorem valleyNamed_l46 {D x c : Nat} {f : Vw} (hx : x < 9223372036854775808) (hc : f 46 3 = c) (hc9 : c ≤ 8) (hn : ∀ j, j < c → f (61 + 3 * j) 0 < 9223372036854775808) : ∀ (m j F : Nat), j + m = c → 3 * m + 3 ≤ F → vFn (vM MT0 D) nb_X9_valleyNamed F 1 0 [vR 46, vJ x, vW 3, vI j] [] f = some ((0, 0), vI (fidx (fun j => f (61 + 3 * j) 0) x m j), f) := by
  intro m
  induction m with
  | zero =>
    intro j F hj hF
    obtain ⟨F1, rfl⟩ : ∃ F1, F = F1 + 2 := ⟨F - 2, by omega⟩
    (first | (refine (vge2 (x := j) (y := f 46 3) (by omega) (by rw [hc]; omega)).trans ?_) | (refine (vF_g rfl rfl).trans ?_; refine (vF_g rfl rfl).trans ?_; refine (vge2 (x := j) (y := f 46 3) (by omega) (by rw [hc]; omega)).trans ?_) | (refine (vF_g rfl rfl).trans ?_; refine (vge2 (x := j) (y := f 46 3) (by omega) (by rw [hc]; omega)).trans ?_))
    (first | (exact rfl) | (refine (vF_g rfl rfl).trans ?_; refine (vF_g rfl rfl).trans ?_; exact rfl) | (refine (vF_g rfl rfl).trans ?_; refine (vF_g rfl rfl).trans ?_; refine (vF_g rfl rfl).trans ?_; exact rfl) | (refine (vF_g rfl rfl).trans ?_; exact rfl))
  | succ m ih =>
    intro j F hj hF
    obtain ⟨F1, rfl⟩ : ∃ F1, F = F1 + 3 := ⟨F - 3, by omega⟩
    have hj9 : j < 8 := by omega
    (first | (refine (vlt (x := j) (y := f 46 3) (by rw [hc]; omega) (by rw [hc]; omega)).trans ?_) | (refine (vF_g rfl rfl).trans ?_; refine (vF_g rfl rfl).trans ?_; refine (vlt (x := j) (y := f 46 3) (by rw [hc]; omega) (by rw [hc]; omega)).trans ?_) | (refine (vF_g rfl rfl).trans ?_; refine (vlt (x := j) (y := f 46 3) (by rw [hc]; omega) (by rw [hc]; omega)).trans ?_))
    have e2 : vFn (vM MT0 D) nb_X9_valleyNamed (F1 + 2) 2 0 [vR 46, vJ x, vW 3, vI j] [] f = vc3 (bv (toN (lg_cmp (lN (f (61 + 3 * j) 0)) (lN x)))) (bv 0) (vFn (vM MT0 D) nb_X9_valleyNamed (F1 + 1) 4 0 [vR 46, vJ x, vW 3, vI j] [] f) (vFn (vM MT0 D) nb_X9_valleyNamed (F1 + 1) 3 0 [vR 46, vJ x, vW 3, vI j] [] f) (vFn (vM MT0 D) nb_X9_valleyNamed (F1 + 1) 4 0 [vR 46, vJ x, vW 3, vI j] [] f) := by
      (first | (refine Eq.trans (b := gd (Nat.ble (j + 1) 8) (shO (rt0 48 j) 8 0 (gft f (rt0 48 j) 0 fun v => vB (vM MT0 D) (vFn (vM MT0 D) nb_X9_valleyNamed (F1 + 1)) ((2, 4, 3, 4, 0, 0, 0), []) [(5, 1, 1, 0, 0, 0, 0), (20, 0, 0, 0, 0, 0, 0)] 0 [vR 46, vJ x, vW 3, vI j] [v] f))) rfl ?_) | (refine (vF_g rfl rfl).trans ?_; refine (vF_g rfl rfl).trans ?_; refine Eq.trans (b := gd (Nat.ble (j + 1) 8) (shO (rt0 48 j) 8 0 (gft f (rt0 48 j) 0 fun v => vB (vM MT0 D) (vFn (vM MT0 D) nb_X9_valleyNamed (F1 + 1)) ((2, 4, 3, 4, 0, 0, 0), []) [(5, 1, 1, 0, 0, 0, 0), (20, 0, 0, 0, 0, 0, 0)] 0 [vR 46, vJ x, vW 3, vI j] [v] f))) rfl ?_) | (refine (vF_g rfl rfl).trans ?_; refine Eq.trans (b := gd (Nat.ble (j + 1) 8) (shO (rt0 48 j) 8 0 (gft f (rt0 48 j) 0 fun v => vB (vM MT0 D) (vFn (vM MT0 D) nb_X9_valleyNamed (F1 + 1)) ((2, 4, 3, 4, 0, 0, 0), []) [(5, 1, 1, 0, 0, 0, 0), (20, 0, 0, 0, 0, 0, 0)] 0 [vR 46, vJ x, vW 3, vI j] [v] f))) rfl ?_))
      rw [Nat.ble_eq_true_of_le (show j + 1 ≤ 8 by omega), rtV_46 hj9, (shV_46 hj9).1]
      (first | (exact rfl) | (refine (vF_g rfl rfl).trans ?_; refine (vF_g rfl rfl).trans ?_; exact rfl) | (refine (vF_g rfl rfl).trans ?_; refine (vF_g rfl rfl).trans ?_; refine (vF_g rfl rfl).trans ?_; exact rfl) | (refine (vF_g rfl rfl).trans ?_; exact rfl))
    rw [e2, show fidx (fun j => f (61 + 3 * j) 0) x (m + 1) j = if f (61 + 3 * j) 0 = x then j else fidx (fun j => f (61 + 3 * j) 0) x m (j + 1) from rfl]
    have hy := hn j (by omega)
    by_cases q : f (61 + 3 * j) 0 = x
    · rw [if_pos q, vlc, if_neg (by rw [q]; exact Int.lt_irrefl _), if_pos (by rw [q])]
      (first | (exact rfl) | (refine (vF_g rfl rfl).trans ?_; refine (vF_g rfl rfl).trans ?_; exact rfl) | (refine (vF_g rfl rfl).trans ?_; refine (vF_g rfl rfl).trans ?_; refine (vF_g rfl rfl).trans ?_; exact rfl) | (refine (vF_g rfl rfl).trans ?_; exact rfl))
    · have e4 : ∀ a b : Option VR, (if lsg (f (61 + 3 * j) 0) < lsg x then a else if lsg (f (61 + 3 * j) 0) = lsg x then b else a) = a := by
        intro a b
        by_cases w : lsg (f (61 + 3 * j) 0) < lsg x
        · rw [if_pos w]
        · rw [if_neg w, if_neg (fun z => q ((lsg_e hy hx).mp z))]
      rw [if_neg q, vlc, e4]
      (first | (refine Eq.trans (b := vFn (vM MT0 D) nb_X9_valleyNamed F1 1 0 [vR 46, vJ x, vW 3, vI ((j + 1) % 4294967296)] [] f) rfl ?_) | (refine (vF_g rfl rfl).trans ?_; refine (vF_g rfl rfl).trans ?_; refine Eq.trans (b := vFn (vM MT0 D) nb_X9_valleyNamed F1 1 0 [vR 46, vJ x, vW 3, vI ((j + 1) % 4294967296)] [] f) rfl ?_) | (refine (vF_g rfl rfl).trans ?_; refine Eq.trans (b := vFn (vM MT0 D) nb_X9_valleyNamed F1 1 0 [vR 46, vJ x, vW 3, vI ((j + 1) % 4294967296)] [] f) rfl ?_))
      rw [Nat.mod_eq_of_lt (show j + 1 < 4294967296 by omega)]
      exact ih (j + 1) F1 (by omega) (by omega)
theorem v_valleyNamed46 {D x c : Nat} {f : Vw} (hx : x < 9223372036854775808) (hc : f 46 3 = c) (hc9 : c ≤ 8) (hn : ∀ j, j < c → f (61 + 3 * j) 0 < 9223372036854775808) : vM MT0 (D + 1) 72 [vR 46, vJ x] f = some ((0, 0), vI (fidx (fun j => f (61 + 3 * j) 0) x c 0), f) :=
  vM_go rfl rfl rfl rfl fun F hF => (by (first | (refine Eq.trans (b := vFn (vM MT0 D) nb_X9_valleyNamed (F + 59) 1 0 [vR 46, vJ x, vW 3, vI 0] [] f) rfl ?_) | (refine (vF_g rfl rfl).trans ?_; refine (vF_g rfl rfl).trans ?_; refine Eq.trans (b := vFn (vM MT0 D) nb_X9_valleyNamed (F + 59) 1 0 [vR 46, vJ x, vW 3, vI 0] [] f) rfl ?_) | (refine (vF_g rfl rfl).trans ?_; refine Eq.trans (b := vFn (vM MT0 D) nb_X9_valleyNamed (F + 59) 1 0 [vR 46, vJ x, vW 3, vI 0] [] f) rfl ?_)); (first | (exact (valleyNamed_l46 hx hc hc9 hn c 0 (F + 59) (by omega) (by omega))) | (refine (vF_g rfl rfl).trans ?_; refine (vF_g rfl rfl).trans ?_; exact (valleyNamed_l46 hx hc hc9 hn c 0 (F + 59) (by omega) (by omega))) | (refine (vF_g rfl rfl).trans ?_; exact (valleyNamed_l46 hx hc hc9 hn c 0 (F + 59) (by omega) (by omega)))))
theorem rtE_7 {j : Nat} (hj : j < 12) : rt0 8 j = 10 + j := by
  rcases (show j = 0 ∨ j = 1 ∨ j = 2 ∨ j = 3 ∨ j = 4 ∨ j = 5 ∨ j = 6 ∨ j = 7 ∨ j = 8 ∨ j = 9 ∨ j = 10 ∨ j = 11 by omega) with rfl | rfl | rfl | rfl | rfl | rfl | rfl | rfl | rfl | rfl | rfl | rfl <;> rfl
theorem shE_7 {j : Nat} (hj : j < 12) {t : Nat → Option VR} : shO (10 + j) 3 0 t = t 1 ∧ shO (10 + j) 3 1 t = t 0 ∧ shO (10 + j) 3 2 t = t 0 ∧ shO (10 + j) 3 3 t = t 0 ∧ shO (10 + j) 3 4 t = t 0 := by
  rcases (show j = 0 ∨ j = 1 ∨ j = 2 ∨ j = 3 ∨ j = 4 ∨ j = 5 ∨ j = 6 ∨ j = 7 ∨ j = 8 ∨ j = 9 ∨ j = 10 ∨ j = 11 by omega) with rfl | rfl | rfl | rfl | rfl | rfl | rfl | rfl | rfl | rfl | rfl | rfl <;> exact ⟨rfl, rfl, rfl, rfl, rfl⟩
theorem rtV_7 {j : Nat} (hj : j < 8) : rt0 9 j = 22 + 3 * j := by
  rcases (show j = 0 ∨ j = 1 ∨ j = 2 ∨ j = 3 ∨ j = 4 ∨ j = 5 ∨ j = 6 ∨ j = 7 by omega) with rfl | rfl | rfl | rfl | rfl | rfl | rfl | rfl <;> rfl
theorem shV_7 {j : Nat} (hj : j < 8) {t : Nat → Option VR} : shO (22 + 3 * j) 8 0 t = t 1 ∧ shO (22 + 3 * j) 8 1 t = t 0 ∧ shO (22 + 3 * j) 8 2 t = t 0 ∧ shO (22 + 3 * j) 8 3 t = t 0 ∧ shO (22 + 3 * j) 8 4 t = t 0 := by
  rcases (show j = 0 ∨ j = 1 ∨ j = 2 ∨ j = 3 ∨ j = 4 ∨ j = 5 ∨ j = 6 ∨ j = 7 by omega) with rfl | rfl | rfl | rfl | rfl | rfl | rfl | rfl <;> exact ⟨rfl, rfl, rfl, rfl, rfl⟩
theorem echoNamed_l7 {D x c : Nat} {f : Vw} (hx : x < 9223372036854775808) (hc : f 7 2 = c) (hc9 : c ≤ 12) (hn : ∀ j, j < c → f (10 + j) 0 < 9223372036854775808) : ∀ (m j F : Nat), j + m = c → 3 * m + 3 ≤ F → vFn (vM MT0 D) nb_X9_echoNamed F 1 0 [vR 7, vJ x, vW 3, vI j] [] f = some ((0, 0), vI (fidx (fun j => f (10 + j) 0) x m j), f) := by
  intro m
  induction m with
  | zero =>
    intro j F hj hF
    obtain ⟨F1, rfl⟩ : ∃ F1, F = F1 + 2 := ⟨F - 2, by omega⟩
    (first | (refine (vge2 (x := j) (y := f 7 2) (by omega) (by rw [hc]; omega)).trans ?_) | (refine (vF_g rfl rfl).trans ?_; refine (vF_g rfl rfl).trans ?_; refine (vge2 (x := j) (y := f 7 2) (by omega) (by rw [hc]; omega)).trans ?_) | (refine (vF_g rfl rfl).trans ?_; refine (vge2 (x := j) (y := f 7 2) (by omega) (by rw [hc]; omega)).trans ?_))
    (first | (exact rfl) | (refine (vF_g rfl rfl).trans ?_; refine (vF_g rfl rfl).trans ?_; exact rfl) | (refine (vF_g rfl rfl).trans ?_; refine (vF_g rfl rfl).trans ?_; refine (vF_g rfl rfl).trans ?_; exact rfl) | (refine (vF_g rfl rfl).trans ?_; exact rfl))
  | succ m ih =>
    intro j F hj hF
    obtain ⟨F1, rfl⟩ : ∃ F1, F = F1 + 3 := ⟨F - 3, by omega⟩
    have hj9 : j < 12 := by omega
    (first | (refine (vlt (x := j) (y := f 7 2) (by rw [hc]; omega) (by rw [hc]; omega)).trans ?_) | (refine (vF_g rfl rfl).trans ?_; refine (vF_g rfl rfl).trans ?_; refine (vlt (x := j) (y := f 7 2) (by rw [hc]; omega) (by rw [hc]; omega)).trans ?_) | (refine (vF_g rfl rfl).trans ?_; refine (vlt (x := j) (y := f 7 2) (by rw [hc]; omega) (by rw [hc]; omega)).trans ?_))
    have e2 : vFn (vM MT0 D) nb_X9_echoNamed (F1 + 2) 2 0 [vR 7, vJ x, vW 3, vI j] [] f = vc3 (bv (toN (lg_cmp (lN (f (10 + j) 0)) (lN x)))) (bv 0) (vFn (vM MT0 D) nb_X9_echoNamed (F1 + 1) 4 0 [vR 7, vJ x, vW 3, vI j] [] f) (vFn (vM MT0 D) nb_X9_echoNamed (F1 + 1) 3 0 [vR 7, vJ x, vW 3, vI j] [] f) (vFn (vM MT0 D) nb_X9_echoNamed (F1 + 1) 4 0 [vR 7, vJ x, vW 3, vI j] [] f) := by
      (first | (refine Eq.trans (b := gd (Nat.ble (j + 1) 12) (shO (rt0 8 j) 3 0 (gft f (rt0 8 j) 0 fun v => vB (vM MT0 D) (vFn (vM MT0 D) nb_X9_echoNamed (F1 + 1)) ((2, 4, 3, 4, 0, 0, 0), []) [(5, 1, 1, 0, 0, 0, 0), (20, 0, 0, 0, 0, 0, 0)] 0 [vR 7, vJ x, vW 3, vI j] [v] f))) rfl ?_) | (refine (vF_g rfl rfl).trans ?_; refine (vF_g rfl rfl).trans ?_; refine Eq.trans (b := gd (Nat.ble (j + 1) 12) (shO (rt0 8 j) 3 0 (gft f (rt0 8 j) 0 fun v => vB (vM MT0 D) (vFn (vM MT0 D) nb_X9_echoNamed (F1 + 1)) ((2, 4, 3, 4, 0, 0, 0), []) [(5, 1, 1, 0, 0, 0, 0), (20, 0, 0, 0, 0, 0, 0)] 0 [vR 7, vJ x, vW 3, vI j] [v] f))) rfl ?_) | (refine (vF_g rfl rfl).trans ?_; refine Eq.trans (b := gd (Nat.ble (j + 1) 12) (shO (rt0 8 j) 3 0 (gft f (rt0 8 j) 0 fun v => vB (vM MT0 D) (vFn (vM MT0 D) nb_X9_echoNamed (F1 + 1)) ((2, 4, 3, 4, 0, 0, 0), []) [(5, 1, 1, 0, 0, 0, 0), (20, 0, 0, 0, 0, 0, 0)] 0 [vR 7, vJ x, vW 3, vI j] [v] f))) rfl ?_))
      rw [Nat.ble_eq_true_of_le (show j + 1 ≤ 12 by omega), rtE_7 hj9, (shE_7 hj9).1]
      (first | (exact rfl) | (refine (vF_g rfl rfl).trans ?_; refine (vF_g rfl rfl).trans ?_; exact rfl) | (refine (vF_g rfl rfl).trans ?_; refine (vF_g rfl rfl).trans ?_; refine (vF_g rfl rfl).trans ?_; exact rfl) | (refine (vF_g rfl rfl).trans ?_; exact rfl))
    rw [e2, show fidx (fun j => f (10 + j) 0) x (m + 1) j = if f (10 + j) 0 = x then j else fidx (fun j => f (10 + j) 0) x m (j + 1) from rfl]
    have hy := hn j (by omega)
    by_cases q : f (10 + j) 0 = x
    · rw [if_pos q, vlc, if_neg (by rw [q]; exact Int.lt_irrefl _), if_pos (by rw [q])]
      (first | (exact rfl) | (refine (vF_g rfl rfl).trans ?_; refine (vF_g rfl rfl).trans ?_; exact rfl) | (refine (vF_g rfl rfl).trans ?_; refine (vF_g rfl rfl).trans ?_; refine (vF_g rfl rfl).trans ?_; exact rfl) | (refine (vF_g rfl rfl).trans ?_; exact rfl))
    · have e4 : ∀ a b : Option VR, (if lsg (f (10 + j) 0) < lsg x then a else if lsg (f (10 + j) 0) = lsg x then b else a) = a := by
        intro a b
        by_cases w : lsg (f (10 + j) 0) < lsg x
        · rw [if_pos w]
        · rw [if_neg w, if_neg (fun z => q ((lsg_e hy hx).mp z))]
      rw [if_neg q, vlc, e4]
      (first | (refine Eq.trans (b := vFn (vM MT0 D) nb_X9_echoNamed F1 1 0 [vR 7, vJ x, vW 3, vI ((j + 1) % 4294967296)] [] f) rfl ?_) | (refine (vF_g rfl rfl).trans ?_; refine (vF_g rfl rfl).trans ?_; refine Eq.trans (b := vFn (vM MT0 D) nb_X9_echoNamed F1 1 0 [vR 7, vJ x, vW 3, vI ((j + 1) % 4294967296)] [] f) rfl ?_) | (refine (vF_g rfl rfl).trans ?_; refine Eq.trans (b := vFn (vM MT0 D) nb_X9_echoNamed F1 1 0 [vR 7, vJ x, vW 3, vI ((j + 1) % 4294967296)] [] f) rfl ?_))
      rw [Nat.mod_eq_of_lt (show j + 1 < 4294967296 by omega)]
      exact ih (j + 1) F1 (by omega) (by omega)
theorem v_echoNamed7 {D x c : Nat} {f : Vw} (hx : x < 9223372036854775808) (hc : f 7 2 = c) (hc9 : c ≤ 12) (hn : ∀ j, j < c → f (10 + j) 0 < 9223372036854775808) : vM MT0 (D + 1) 71 [vR 7, vJ x] f = some ((0, 0), vI (fidx (fun j => f (10 + j) 0) x c 0), f) :=
  vM_go rfl rfl rfl rfl fun F hF => (by (first | (refine Eq.trans (b := vFn (vM MT0 D) nb_X9_echoNamed (F + 59) 1 0 [vR 7, vJ x, vW 3, vI 0] [] f) rfl ?_) | (refine (vF_g rfl rfl).trans ?_; refine (vF_g rfl rfl).trans ?_; refine Eq.trans (b := vFn (vM MT0 D) nb_X9_echoNamed (F + 59) 1 0 [vR 7, vJ x, vW 3, vI 0] [] f) rfl ?_) | (refine (vF_g rfl rfl).trans ?_; refine Eq.trans (b := vFn (vM MT0 D) nb_X9_echoNamed (F + 59) 1 0 [vR 7, vJ x, vW 3, vI 0] [] f) rfl ?_)); (first | (exact (echoNamed_l7 hx hc hc9 hn c 0 (F + 59) (by omega) (by omega))) | (refine (vF_g rfl rfl).trans ?_; refine (vF_g rfl rfl).trans ?_; exact (echoNamed_l7 hx hc hc9 hn c 0 (F + 59) (by omega) (by omega))) | (refine (vF_g rfl rfl).trans ?_; exact (echoNamed_l7 hx hc hc9 hn c 0 (F + 59) (by omega) (by omega)))))
theorem valleyNamed_l7 {D x c : Nat} {f : Vw} (hx : x < 9223372036854775808) (hc : f 7 3 = c) (hc9 : c ≤ 8) (hn : ∀ j, j < c → f (22 + 3 * j) 0 < 9223372036854775808) : ∀ (m j F : Nat), j + m = c → 3 * m + 3 ≤ F → vFn (vM MT0 D) nb_X9_valleyNamed F 1 0 [vR 7, vJ x, vW 3, vI j] [] f = some ((0, 0), vI (fidx (fun j => f (22 + 3 * j) 0) x m j), f) := by
  intro m
  induction m with
  | zero =>
    intro j F hj hF
    obtain ⟨F1, rfl⟩ : ∃ F1, F = F1 + 2 := ⟨F - 2, by omega⟩
    (first | (refine (vge2 (x := j) (y := f 7 3) (by omega) (by rw [hc]; omega)).trans ?_) | (refine (vF_g rfl rfl).trans ?_; refine (vF_g rfl rfl).trans ?_; refine (vge2 (x := j) (y := f 7 3) (by omega) (by rw [hc]; omega)).trans ?_) | (refine (vF_g rfl rfl).trans ?_; refine (vge2 (x := j) (y := f 7 3) (by omega) (by rw [hc]; omega)).trans ?_))
    (first | (exact rfl) | (refine (vF_g rfl rfl).trans ?_; refine (vF_g rfl rfl).trans ?_; exact rfl) | (refine (vF_g rfl rfl).trans ?_; refine (vF_g rfl rfl).trans ?_; refine (vF_g rfl rfl).trans ?_; exact rfl) | (refine (vF_g rfl rfl).trans ?_; exact rfl))
  | succ m ih =>
    intro j F hj hF
    obtain ⟨F1, rfl⟩ : ∃ F1, F = F1 + 3 := ⟨F - 3, by omega⟩
    have hj9 : j < 8 := by omega
    (first | (refine (vlt (x := j) (y := f 7 3) (by rw [hc]; omega) (by rw [hc]; omega)).trans ?_) | (refine (vF_g rfl rfl).trans ?_; refine (vF_g rfl rfl).trans ?_; refine (vlt (x := j) (y := f 7 3) (by rw [hc]; omega) (by rw [hc]; omega)).trans ?_) | (refine (vF_g rfl rfl).trans ?_; refine (vlt (x := j) (y := f 7 3) (by rw [hc]; omega) (by rw [hc]; omega)).trans ?_))
    have e2 : vFn (vM MT0 D) nb_X9_valleyNamed (F1 + 2) 2 0 [vR 7, vJ x, vW 3, vI j] [] f = vc3 (bv (toN (lg_cmp (lN (f (22 + 3 * j) 0)) (lN x)))) (bv 0) (vFn (vM MT0 D) nb_X9_valleyNamed (F1 + 1) 4 0 [vR 7, vJ x, vW 3, vI j] [] f) (vFn (vM MT0 D) nb_X9_valleyNamed (F1 + 1) 3 0 [vR 7, vJ x, vW 3, vI j] [] f) (vFn (vM MT0 D) nb_X9_valleyNamed (F1 + 1) 4 0 [vR 7, vJ x, vW 3, vI j] [] f) := by
      (first | (refine Eq.trans (b := gd (Nat.ble (j + 1) 8) (shO (rt0 9 j) 8 0 (gft f (rt0 9 j) 0 fun v => vB (vM MT0 D) (vFn (vM MT0 D) nb_X9_valleyNamed (F1 + 1)) ((2, 4, 3, 4, 0, 0, 0), []) [(5, 1, 1, 0, 0, 0, 0), (20, 0, 0, 0, 0, 0, 0)] 0 [vR 7, vJ x, vW 3, vI j] [v] f))) rfl ?_) | (refine (vF_g rfl rfl).trans ?_; refine (vF_g rfl rfl).trans ?_; refine Eq.trans (b := gd (Nat.ble (j + 1) 8) (shO (rt0 9 j) 8 0 (gft f (rt0 9 j) 0 fun v => vB (vM MT0 D) (vFn (vM MT0 D) nb_X9_valleyNamed (F1 + 1)) ((2, 4, 3, 4, 0, 0, 0), []) [(5, 1, 1, 0, 0, 0, 0), (20, 0, 0, 0, 0, 0, 0)] 0 [vR 7, vJ x, vW 3, vI j] [v] f))) rfl ?_) | (refine (vF_g rfl rfl).trans ?_; refine Eq.trans (b := gd (Nat.ble (j + 1) 8) (shO (rt0 9 j) 8 0 (gft f (rt0 9 j) 0 fun v => vB (vM MT0 D) (vFn (vM MT0 D) nb_X9_valleyNamed (F1 + 1)) ((2, 4, 3, 4, 0, 0, 0), []) [(5, 1, 1, 0, 0, 0, 0), (20, 0, 0, 0, 0, 0, 0)] 0 [vR 7, vJ x, vW 3, vI j] [v] f))) rfl ?_))
      rw [Nat.ble_eq_true_of_le (show j + 1 ≤ 8 by omega), rtV_7 hj9, (shV_7 hj9).1]
      (first | (exact rfl) | (refine (vF_g rfl rfl).trans ?_; refine (vF_g rfl rfl).trans ?_; exact rfl) | (refine (vF_g rfl rfl).trans ?_; refine (vF_g rfl rfl).trans ?_; refine (vF_g rfl rfl).trans ?_; exact rfl) | (refine (vF_g rfl rfl).trans ?_; exact rfl))
    rw [e2, show fidx (fun j => f (22 + 3 * j) 0) x (m + 1) j = if f (22 + 3 * j) 0 = x then j else fidx (fun j => f (22 + 3 * j) 0) x m (j + 1) from rfl]
    have hy := hn j (by omega)
    by_cases q : f (22 + 3 * j) 0 = x
    · rw [if_pos q, vlc, if_neg (by rw [q]; exact Int.lt_irrefl _), if_pos (by rw [q])]
      (first | (exact rfl) | (refine (vF_g rfl rfl).trans ?_; refine (vF_g rfl rfl).trans ?_; exact rfl) | (refine (vF_g rfl rfl).trans ?_; refine (vF_g rfl rfl).trans ?_; refine (vF_g rfl rfl).trans ?_; exact rfl) | (refine (vF_g rfl rfl).trans ?_; exact rfl))
    · have e4 : ∀ a b : Option VR, (if lsg (f (22 + 3 * j) 0) < lsg x then a else if lsg (f (22 + 3 * j) 0) = lsg x then b else a) = a := by
        intro a b
        by_cases w : lsg (f (22 + 3 * j) 0) < lsg x
        · rw [if_pos w]
        · rw [if_neg w, if_neg (fun z => q ((lsg_e hy hx).mp z))]
      rw [if_neg q, vlc, e4]
      (first | (refine Eq.trans (b := vFn (vM MT0 D) nb_X9_valleyNamed F1 1 0 [vR 7, vJ x, vW 3, vI ((j + 1) % 4294967296)] [] f) rfl ?_) | (refine (vF_g rfl rfl).trans ?_; refine (vF_g rfl rfl).trans ?_; refine Eq.trans (b := vFn (vM MT0 D) nb_X9_valleyNamed F1 1 0 [vR 7, vJ x, vW 3, vI ((j + 1) % 4294967296)] [] f) rfl ?_) | (refine (vF_g rfl rfl).trans ?_; refine Eq.trans (b := vFn (vM MT0 D) nb_X9_valleyNamed F1 1 0 [vR 7, vJ x, vW 3, vI ((j + 1) % 4294967296)] [] f) rfl ?_))
      rw [Nat.mod_eq_of_lt (show j + 1 < 4294967296 by omega)]
      exact ih (j + 1) F1 (by omega) (by omega)
theorem v_valleyNamed7 {D x c : Nat} {f : Vw} (hx : x < 9223372036854775808) (hc : f 7 3 = c) (hc9 : c ≤ 8) (hn : ∀ j, j < c → f (22 + 3 * j) 0 < 9223372036854775808) : vM MT0 (D + 1) 72 [vR 7, vJ x] f = some ((0, 0), vI (fidx (fun j => f (22 + 3 * j) 0) x c 0), f) :=
  vM_go rfl rfl rfl rfl fun F hF => (by (first | (refine Eq.trans (b := vFn (vM MT0 D) nb_X9_valleyNamed (F + 59) 1 0 [vR 7, vJ x, vW 3, vI 0] [] f) rfl ?_) | (refine (vF_g rfl rfl).trans ?_; refine (vF_g rfl rfl).trans ?_; refine Eq.trans (b := vFn (vM MT0 D) nb_X9_valleyNamed (F + 59) 1 0 [vR 7, vJ x, vW 3, vI 0] [] f) rfl ?_) | (refine (vF_g rfl rfl).trans ?_; refine Eq.trans (b := vFn (vM MT0 D) nb_X9_valleyNamed (F + 59) 1 0 [vR 7, vJ x, vW 3, vI 0] [] f) rfl ?_)); (first | (exact (valleyNamed_l7 hx hc hc9 hn c 0 (F + 59) (by omega) (by omega))) | (refine (vF_g rfl rfl).trans ?_; refine (vF_g rfl rfl).trans ?_; exact (valleyNamed_l7 hx hc hc9 hn c 0 (F + 59) (by omega) (by omega))) | (refine (vF_g rfl rfl).trans ?_; exact (valleyNamed_l7 hx hc hc9 hn c 0 (F + 59) (by omega) (by omega)))))
