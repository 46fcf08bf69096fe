/-! the program's takers, each from a place of the text -/
def TxC (f : Vw) (n : Nat) (T : Nat → Nat) : Prop := n ≤ 900 ∧ f 1 1 = n ∧ (∀ i, bt f i = T i) ∧ (∀ i, T i < 256 ∨ T i = 4294967295) ∧ ∀ i, n ≤ i → T i = 4294967295
/-- the tokens' object behind the token at p -/
noncomputable def tk9 (f : Vw) (T : Nat → Nat) (p : Nat) : Vw := tkv f (tE T p) (tK T p) (tS T p) (tV T p)
theorem tkv_o {f : Vw} {e k s v a b : Nat} (h : a ≠ 446 ∨ b = 0 ∨ 5 < b) : tkv f e k s v a b = f a b := by
  unfold tkv
  rcases h with h | h | h
  · rw [if_neg h]
  · subst h
    by_cases q : a = 446
    · rw [if_pos q, if_neg (by decide), if_neg (by decide), if_neg (by decide), if_neg (by decide), if_neg (by decide)]
    · rw [if_neg q]
  · by_cases q : a = 446
    · rw [if_pos q, if_neg (by omega), if_neg (by omega), if_neg (by omega), if_neg (by omega), if_neg (by omega)]
    · rw [if_neg q]
theorem tkq_1 {f : Vw} {T : Nat → Nat} {p : Nat} : tk9 f T p 446 1 = tE T p := rfl
theorem tkq_2 {f : Vw} {T : Nat → Nat} {p : Nat} : tk9 f T p 446 2 = tK T p := rfl
theorem tkq_3 {f : Vw} {T : Nat → Nat} {p : Nat} : tk9 f T p 446 3 = tS T p := rfl
theorem tkq_4 {f : Vw} {T : Nat → Nat} {p : Nat} : tk9 f T p 446 4 = tE T p - tS T p := rfl
theorem tkq_5 {f : Vw} {T : Nat → Nat} {p : Nat} : tk9 f T p 446 5 = tV T p := rfl
theorem txC_of {f g : Vw} {n : Nat} {T : Nat → Nat} (h : TxC f n T) (h1 : ∀ i, g 1 i = f 1 i) (h2 : ∀ i, g 2 i = f 2 i) : TxC g n T := ⟨h.1, by rw [h1]; exact h.2.1, fun i => by rw [← h.2.2.1 i]; unfold bt; rw [h1, h2], h.2.2.2.1, h.2.2.2.2⟩
theorem txC_tk {f : Vw} {n p : Nat} {T : Nat → Nat} (h : TxC f n T) : TxC (tk9 f T p) n T := txC_of h (fun i => tkv_o (Or.inl (by decide))) (fun i => tkv_o (Or.inl (by decide)))
theorem fl_o {c a b : Nat} {f : Vw} (h : a ≠ 446 ∨ (b ≠ 6 ∧ b ≠ 7)) : fl c f a b = f a b := by
  unfold fl
  rcases h with h | ⟨h1, h2⟩
  · rw [vup_ne (Or.inl h), vup_ne (Or.inl h)]
  · rw [vup_ne (Or.inr h2), vup_ne (Or.inr h1)]
theorem kd9_l (x : Nat) : kd9 x ≤ 5 := by
  unfold kd9
  split
  · decide
  · split
    · decide
    · split
      · decide
      · split
        · decide
        · split <;> decide
theorem tS_le {T : Nat → Nat} {n p : Nat} (hT0 : ∀ i, n ≤ i → T i = 4294967295) (hp : p ≤ n) : p ≤ tS T p ∧ tS T p ≤ n := sk_le hT0 901 p hp
theorem tE_le {T : Nat → Nat} {n p : Nat} (hT0 : ∀ i, n ≤ i → T i = 4294967295) (hp : p ≤ n) : tS T p ≤ tE T p ∧ tE T p ≤ n := by
  obtain ⟨h1, h2⟩ := tS_le hT0 hp
  unfold tE
  by_cases k0 : tK T p = 0
  · rw [if_pos k0]
    exact ⟨Nat.le_refl _, h2⟩
  · rw [if_neg k0]
    by_cases k12 : tK T p = 1 ∨ tK T p = 2
    · rw [if_pos k12]
      exact rn_le (by omega) hT0 901 (tS T p) h2
    · rw [if_neg k12]
      refine ⟨by omega, ?_⟩
      rcases Nat.lt_or_ge (tS T p) n with q | q
      · exact q
      · refine absurd ?_ k0
        unfold tK
        rw [hT0 _ q]
        decide
theorem v_next9 {D n p : Nat} {T : Nat → Nat} {f : Vw} (hx : TxC f n T) (h1 : f 446 1 = p) (hp : p ≤ n) : vM MT0 (D + 2) 48 [vR 446] f = some ((1, 0), vW 3, tk9 f T p) := v_next hx.1 h1 hx.2.1 hx.2.2.1 hp
theorem bt_T {f : Vw} {n : Nat} {T : Nat → Nat} (hx : TxC f n T) : bt f = T := funext hx.2.2.1
/-- the word stands there, as the program sees it -/
def wOKc (T : Nat → Nat) (w p : Nat) : Prop := tK T p = 1 ∧ tE T p - tS T p = (wrd w).length ∧ wq T (wrd w) (tS T p) = true
theorem wOK_c {T : Nat → Nat} {w p : Nat} (hw : 1 ≤ (wrd w).length) : wOKc T w p ↔ (tZ T p = (wrd w).length ∧ wq T (wrd w) (tS T p) = true) := by
  unfold wOKc
  by_cases k1 : tK T p = 1
  · have e : tE T p - tS T p = tZ T p := by
      unfold tE tZ
      rw [if_neg (by omega), if_pos (Or.inl k1), k1]
    rw [e]
    exact ⟨fun h => h.2, fun h => ⟨k1, h⟩⟩
  · have e : tZ T p = 0 := by
      unfold tZ
      have : rn T 1 901 (tS T p) = tS T p := if_neg k1
      omega
    rw [e]
    exact ⟨fun h => absurd h.1 k1, fun h => by omega⟩
theorem v_wordIs9 {D w n p : Nat} {T : Nat → Nat} {f g : Vw} (h1 : 20 ≤ w) (h2 : w ≤ 30) (hx : TxC g n T) (hp : p ≤ n) (g2 : g 446 2 = tK T p) (g3 : g 446 3 = tS T p) (g4 : g 446 4 = tE T p - tS T p) : (wOKc T w p → vM MT0 (D + 2) 49 [vR 446, vW w] g = some ((0, 0), vI 1, g)) ∧ (¬ wOKc T w p → vM MT0 (D + 2) 49 [vR 446, vW w] g = some ((0, 0), vI 0, g)) := by
  obtain ⟨a1, a2⟩ := tS_le hx.2.2.2.2 hp
  obtain ⟨b1, b2⟩ := tE_le hx.2.2.2.2 hp
  have hn := hx.1
  have hk : tK T p ≤ 5 := kd9_l _
  have e := v_wordIs (D := D) (w := w) (f := g) h1 h2 (by rw [hx.2.1]; exact hx.1) (by rw [g3]; omega) (by rw [g2]; omega) (by rw [g4]; omega)
  rw [g2, g3, g4, bt_T hx] at e
  exact ⟨fun c => (by rw [e, if_pos (show tK T p = 1 ∧ tE T p - tS T p = (wrd w).length ∧ wq T (wrd w) (tS T p) = true from c)]), fun c => (by rw [e, if_neg (show ¬ (tK T p = 1 ∧ tE T p - tS T p = (wrd w).length ∧ wq T (wrd w) (tS T p) = true) from c)])⟩
theorem v_takeWord_20 {D n p : Nat} {T : Nat → Nat} {f : Vw} (hx : TxC f n T) (hp9 : f 446 1 = p) (hp : p ≤ n) : (wOKc T 20 p → vM MT0 (D + 3) 51 [vR 446, vW 20] f = some ((0, 0), vI 1, tk9 f T p)) ∧ (¬ wOKc T 20 p → vM MT0 (D + 3) 51 [vR 446, vW 20] f = some ((0, 0), vI 0, fl 1 (tk9 f T p))) := by
  obtain ⟨w1, w2⟩ := v_wordIs9 (D := D) (w := 20) (f := f) (by decide) (by decide) (txC_tk (p := p) hx) hp tkq_2 tkq_3 tkq_4
  refine ⟨fun c => ?_, fun c => ?_⟩
  · refine vM_go rfl rfl rfl rfl fun F hF => ?_
    (first | (refine (vbnd_1 (v_next9 hx hp9 hp)).trans ?_) | (refine (vF_g rfl rfl).trans ?_; refine (vF_g rfl rfl).trans ?_; refine (vbnd_1 (v_next9 hx hp9 hp)).trans ?_) | (refine (vF_g rfl rfl).trans ?_; refine (vbnd_1 (v_next9 hx hp9 hp)).trans ?_))
    (first | (refine (vbnd_0 (w1 c)).trans ?_) | (refine (vF_g rfl rfl).trans ?_; refine (vF_g rfl rfl).trans ?_; refine (vbnd_0 (w1 c)).trans ?_) | (refine (vF_g rfl rfl).trans ?_; refine (vbnd_0 (w1 c)).trans ?_))
    (first | (refine (vgt (x := 1) (y := 0) (by decide) (by decide)).trans ?_) | (refine (vF_g rfl rfl).trans ?_; refine (vF_g rfl rfl).trans ?_; refine (vgt (x := 1) (y := 0) (by decide) (by decide)).trans ?_) | (refine (vF_g rfl rfl).trans ?_; refine (vgt (x := 1) (y := 0) (by decide) (by decide)).trans ?_))
    (first | (exact rfl) | (refine (vF_g rfl rfl).trans ?_; refine (vF_g rfl rfl).trans ?_; exact rfl) | (refine (vF_g rfl rfl).trans ?_; refine (vF_g rfl rfl).trans ?_; refine (vF_g rfl rfl).trans ?_; exact rfl) | (refine (vF_g rfl rfl).trans ?_; exact rfl))
  · refine vM_go rfl rfl rfl rfl fun F hF => ?_
    (first | (refine (vbnd_1 (v_next9 hx hp9 hp)).trans ?_) | (refine (vF_g rfl rfl).trans ?_; refine (vF_g rfl rfl).trans ?_; refine (vbnd_1 (v_next9 hx hp9 hp)).trans ?_) | (refine (vF_g rfl rfl).trans ?_; refine (vbnd_1 (v_next9 hx hp9 hp)).trans ?_))
    (first | (refine (vbnd_0 (w2 c)).trans ?_) | (refine (vF_g rfl rfl).trans ?_; refine (vF_g rfl rfl).trans ?_; refine (vbnd_0 (w2 c)).trans ?_) | (refine (vF_g rfl rfl).trans ?_; refine (vbnd_0 (w2 c)).trans ?_))
    (first | (refine (veq (x := 0) (y := 0) rfl).trans ?_) | (refine (vF_g rfl rfl).trans ?_; refine (vF_g rfl rfl).trans ?_; refine (veq (x := 0) (y := 0) rfl).trans ?_) | (refine (vF_g rfl rfl).trans ?_; refine (veq (x := 0) (y := 0) rfl).trans ?_))
    (first | (refine (vbnd_0 v_fail9).trans ?_) | (refine (vF_g rfl rfl).trans ?_; refine (vF_g rfl rfl).trans ?_; refine (vbnd_0 v_fail9).trans ?_) | (refine (vF_g rfl rfl).trans ?_; refine (vbnd_0 v_fail9).trans ?_))
    (first | (refine (veq (x := 0) (y := 0) rfl).trans ?_) | (refine (vF_g rfl rfl).trans ?_; refine (vF_g rfl rfl).trans ?_; refine (veq (x := 0) (y := 0) rfl).trans ?_) | (refine (vF_g rfl rfl).trans ?_; refine (veq (x := 0) (y := 0) rfl).trans ?_))
    (first | (exact rfl) | (refine (vF_g rfl rfl).trans ?_; refine (vF_g rfl rfl).trans ?_; exact rfl) | (refine (vF_g rfl rfl).trans ?_; refine (vF_g rfl rfl).trans ?_; refine (vF_g rfl rfl).trans ?_; exact rfl) | (refine (vF_g rfl rfl).trans ?_; exact rfl))
theorem v_takeWord_21 {D n p : Nat} {T : Nat → Nat} {f : Vw} (hx : TxC f n T) (hp9 : f 446 1 = p) (hp : p ≤ n) : (wOKc T 21 p → vM MT0 (D + 3) 51 [vR 446, vW 21] f = some ((0, 0), vI 1, tk9 f T p)) ∧ (¬ wOKc T 21 p → vM MT0 (D + 3) 51 [vR 446, vW 21] f = some ((0, 0), vI 0, fl 1 (tk9 f T p))) := by
  obtain ⟨w1, w2⟩ := v_wordIs9 (D := D) (w := 21) (f := f) (by decide) (by decide) (txC_tk (p := p) hx) hp tkq_2 tkq_3 tkq_4
  refine ⟨fun c => ?_, fun c => ?_⟩
  · refine vM_go rfl rfl rfl rfl fun F hF => ?_
    (first | (refine (vbnd_1 (v_next9 hx hp9 hp)).trans ?_) | (refine (vF_g rfl rfl).trans ?_; refine (vF_g rfl rfl).trans ?_; refine (vbnd_1 (v_next9 hx hp9 hp)).trans ?_) | (refine (vF_g rfl rfl).trans ?_; refine (vbnd_1 (v_next9 hx hp9 hp)).trans ?_))
    (first | (refine (vbnd_0 (w1 c)).trans ?_) | (refine (vF_g rfl rfl).trans ?_; refine (vF_g rfl rfl).trans ?_; refine (vbnd_0 (w1 c)).trans ?_) | (refine (vF_g rfl rfl).trans ?_; refine (vbnd_0 (w1 c)).trans ?_))
    (first | (refine (vgt (x := 1) (y := 0) (by decide) (by decide)).trans ?_) | (refine (vF_g rfl rfl).trans ?_; refine (vF_g rfl rfl).trans ?_; refine (vgt (x := 1) (y := 0) (by decide) (by decide)).trans ?_) | (refine (vF_g rfl rfl).trans ?_; refine (vgt (x := 1) (y := 0) (by decide) (by decide)).trans ?_))
    (first | (exact rfl) | (refine (vF_g rfl rfl).trans ?_; refine (vF_g rfl rfl).trans ?_; exact rfl) | (refine (vF_g rfl rfl).trans ?_; refine (vF_g rfl rfl).trans ?_; refine (vF_g rfl rfl).trans ?_; exact rfl) | (refine (vF_g rfl rfl).trans ?_; exact rfl))
  · refine vM_go rfl rfl rfl rfl fun F hF => ?_
    (first | (refine (vbnd_1 (v_next9 hx hp9 hp)).trans ?_) | (refine (vF_g rfl rfl).trans ?_; refine (vF_g rfl rfl).trans ?_; refine (vbnd_1 (v_next9 hx hp9 hp)).trans ?_) | (refine (vF_g rfl rfl).trans ?_; refine (vbnd_1 (v_next9 hx hp9 hp)).trans ?_))
    (first | (refine (vbnd_0 (w2 c)).trans ?_) | (refine (vF_g rfl rfl).trans ?_; refine (vF_g rfl rfl).trans ?_; refine (vbnd_0 (w2 c)).trans ?_) | (refine (vF_g rfl rfl).trans ?_; refine (vbnd_0 (w2 c)).trans ?_))
    (first | (refine (veq (x := 0) (y := 0) rfl).trans ?_) | (refine (vF_g rfl rfl).trans ?_; refine (vF_g rfl rfl).trans ?_; refine (veq (x := 0) (y := 0) rfl).trans ?_) | (refine (vF_g rfl rfl).trans ?_; refine (veq (x := 0) (y := 0) rfl).trans ?_))
    (first | (refine (vbnd_0 v_fail9).trans ?_) | (refine (vF_g rfl rfl).trans ?_; refine (vF_g rfl rfl).trans ?_; refine (vbnd_0 v_fail9).trans ?_) | (refine (vF_g rfl rfl).trans ?_; refine (vbnd_0 v_fail9).trans ?_))
    (first | (refine (veq (x := 0) (y := 0) rfl).trans ?_) | (refine (vF_g rfl rfl).trans ?_; refine (vF_g rfl rfl).trans ?_; refine (veq (x := 0) (y := 0) rfl).trans ?_) | (refine (vF_g rfl rfl).trans ?_; refine (veq (x := 0) (y := 0) rfl).trans ?_))
    (first | (exact rfl) | (refine (vF_g rfl rfl).trans ?_; refine (vF_g rfl rfl).trans ?_; exact rfl) | (refine (vF_g rfl rfl).trans ?_; refine (vF_g rfl rfl).trans ?_; refine (vF_g rfl rfl).trans ?_; exact rfl) | (refine (vF_g rfl rfl).trans ?_; exact rfl))
theorem v_takeWord_22 {D n p : Nat} {T : Nat → Nat} {f : Vw} (hx : TxC f n T) (hp9 : f 446 1 = p) (hp : p ≤ n) : (wOKc T 22 p → vM MT0 (D + 3) 51 [vR 446, vW 22] f = some ((0, 0), vI 1, tk9 f T p)) ∧ (¬ wOKc T 22 p → vM MT0 (D + 3) 51 [vR 446, vW 22] f = some ((0, 0), vI 0, fl 1 (tk9 f T p))) := by
  obtain ⟨w1, w2⟩ := v_wordIs9 (D := D) (w := 22) (f := f) (by decide) (by decide) (txC_tk (p := p) hx) hp tkq_2 tkq_3 tkq_4
  refine ⟨fun c => ?_, fun c => ?_⟩
  · refine vM_go rfl rfl rfl rfl fun F hF => ?_
    (first | (refine (vbnd_1 (v_next9 hx hp9 hp)).trans ?_) | (refine (vF_g rfl rfl).trans ?_; refine (vF_g rfl rfl).trans ?_; refine (vbnd_1 (v_next9 hx hp9 hp)).trans ?_) | (refine (vF_g rfl rfl).trans ?_; refine (vbnd_1 (v_next9 hx hp9 hp)).trans ?_))
    (first | (refine (vbnd_0 (w1 c)).trans ?_) | (refine (vF_g rfl rfl).trans ?_; refine (vF_g rfl rfl).trans ?_; refine (vbnd_0 (w1 c)).trans ?_) | (refine (vF_g rfl rfl).trans ?_; refine (vbnd_0 (w1 c)).trans ?_))
    (first | (refine (vgt (x := 1) (y := 0) (by decide) (by decide)).trans ?_) | (refine (vF_g rfl rfl).trans ?_; refine (vF_g rfl rfl).trans ?_; refine (vgt (x := 1) (y := 0) (by decide) (by decide)).trans ?_) | (refine (vF_g rfl rfl).trans ?_; refine (vgt (x := 1) (y := 0) (by decide) (by decide)).trans ?_))
    (first | (exact rfl) | (refine (vF_g rfl rfl).trans ?_; refine (vF_g rfl rfl).trans ?_; exact rfl) | (refine (vF_g rfl rfl).trans ?_; refine (vF_g rfl rfl).trans ?_; refine (vF_g rfl rfl).trans ?_; exact rfl) | (refine (vF_g rfl rfl).trans ?_; exact rfl))
  · refine vM_go rfl rfl rfl rfl fun F hF => ?_
    (first | (refine (vbnd_1 (v_next9 hx hp9 hp)).trans ?_) | (refine (vF_g rfl rfl).trans ?_; refine (vF_g rfl rfl).trans ?_; refine (vbnd_1 (v_next9 hx hp9 hp)).trans ?_) | (refine (vF_g rfl rfl).trans ?_; refine (vbnd_1 (v_next9 hx hp9 hp)).trans ?_))
    (first | (refine (vbnd_0 (w2 c)).trans ?_) | (refine (vF_g rfl rfl).trans ?_; refine (vF_g rfl rfl).trans ?_; refine (vbnd_0 (w2 c)).trans ?_) | (refine (vF_g rfl rfl).trans ?_; refine (vbnd_0 (w2 c)).trans ?_))
    (first | (refine (veq (x := 0) (y := 0) rfl).trans ?_) | (refine (vF_g rfl rfl).trans ?_; refine (vF_g rfl rfl).trans ?_; refine (veq (x := 0) (y := 0) rfl).trans ?_) | (refine (vF_g rfl rfl).trans ?_; refine (veq (x := 0) (y := 0) rfl).trans ?_))
    (first | (refine (vbnd_0 v_fail9).trans ?_) | (refine (vF_g rfl rfl).trans ?_; refine (vF_g rfl rfl).trans ?_; refine (vbnd_0 v_fail9).trans ?_) | (refine (vF_g rfl rfl).trans ?_; refine (vbnd_0 v_fail9).trans ?_))
    (first | (refine (veq (x := 0) (y := 0) rfl).trans ?_) | (refine (vF_g rfl rfl).trans ?_; refine (vF_g rfl rfl).trans ?_; refine (veq (x := 0) (y := 0) rfl).trans ?_) | (refine (vF_g rfl rfl).trans ?_; refine (veq (x := 0) (y := 0) rfl).trans ?_))
    (first | (exact rfl) | (refine (vF_g rfl rfl).trans ?_; refine (vF_g rfl rfl).trans ?_; exact rfl) | (refine (vF_g rfl rfl).trans ?_; refine (vF_g rfl rfl).trans ?_; refine (vF_g rfl rfl).trans ?_; exact rfl) | (refine (vF_g rfl rfl).trans ?_; exact rfl))
theorem v_takeWord_23 {D n p : Nat} {T : Nat → Nat} {f : Vw} (hx : TxC f n T) (hp9 : f 446 1 = p) (hp : p ≤ n) : (wOKc T 23 p → vM MT0 (D + 3) 51 [vR 446, vW 23] f = some ((0, 0), vI 1, tk9 f T p)) ∧ (¬ wOKc T 23 p → vM MT0 (D + 3) 51 [vR 446, vW 23] f = some ((0, 0), vI 0, fl 1 (tk9 f T p))) := by
  obtain ⟨w1, w2⟩ := v_wordIs9 (D := D) (w := 23) (f := f) (by decide) (by decide) (txC_tk (p := p) hx) hp tkq_2 tkq_3 tkq_4
  refine ⟨fun c => ?_, fun c => ?_⟩
  · refine vM_go rfl rfl rfl rfl fun F hF => ?_
    (first | (refine (vbnd_1 (v_next9 hx hp9 hp)).trans ?_) | (refine (vF_g rfl rfl).trans ?_; refine (vF_g rfl rfl).trans ?_; refine (vbnd_1 (v_next9 hx hp9 hp)).trans ?_) | (refine (vF_g rfl rfl).trans ?_; refine (vbnd_1 (v_next9 hx hp9 hp)).trans ?_))
    (first | (refine (vbnd_0 (w1 c)).trans ?_) | (refine (vF_g rfl rfl).trans ?_; refine (vF_g rfl rfl).trans ?_; refine (vbnd_0 (w1 c)).trans ?_) | (refine (vF_g rfl rfl).trans ?_; refine (vbnd_0 (w1 c)).trans ?_))
    (first | (refine (vgt (x := 1) (y := 0) (by decide) (by decide)).trans ?_) | (refine (vF_g rfl rfl).trans ?_; refine (vF_g rfl rfl).trans ?_; refine (vgt (x := 1) (y := 0) (by decide) (by decide)).trans ?_) | (refine (vF_g rfl rfl).trans ?_; refine (vgt (x := 1) (y := 0) (by decide) (by decide)).trans ?_))
    (first | (exact rfl) | (refine (vF_g rfl rfl).trans ?_; refine (vF_g rfl rfl).trans ?_; exact rfl) | (refine (vF_g rfl rfl).trans ?_; refine (vF_g rfl rfl).trans ?_; refine (vF_g rfl rfl).trans ?_; exact rfl) | (refine (vF_g rfl rfl).trans ?_; exact rfl))
  · refine vM_go rfl rfl rfl rfl fun F hF => ?_
    (first | (refine (vbnd_1 (v_next9 hx hp9 hp)).trans ?_) | (refine (vF_g rfl rfl).trans ?_; refine (vF_g rfl rfl).trans ?_; refine (vbnd_1 (v_next9 hx hp9 hp)).trans ?_) | (refine (vF_g rfl rfl).trans ?_; refine (vbnd_1 (v_next9 hx hp9 hp)).trans ?_))
    (first | (refine (vbnd_0 (w2 c)).trans ?_) | (refine (vF_g rfl rfl).trans ?_; refine (vF_g rfl rfl).trans ?_; refine (vbnd_0 (w2 c)).trans ?_) | (refine (vF_g rfl rfl).trans ?_; refine (vbnd_0 (w2 c)).trans ?_))
    (first | (refine (veq (x := 0) (y := 0) rfl).trans ?_) | (refine (vF_g rfl rfl).trans ?_; refine (vF_g rfl rfl).trans ?_; refine (veq (x := 0) (y := 0) rfl).trans ?_) | (refine (vF_g rfl rfl).trans ?_; refine (veq (x := 0) (y := 0) rfl).trans ?_))
    (first | (refine (vbnd_0 v_fail9).trans ?_) | (refine (vF_g rfl rfl).trans ?_; refine (vF_g rfl rfl).trans ?_; refine (vbnd_0 v_fail9).trans ?_) | (refine (vF_g rfl rfl).trans ?_; refine (vbnd_0 v_fail9).trans ?_))
    (first | (refine (veq (x := 0) (y := 0) rfl).trans ?_) | (refine (vF_g rfl rfl).trans ?_; refine (vF_g rfl rfl).trans ?_; refine (veq (x := 0) (y := 0) rfl).trans ?_) | (refine (vF_g rfl rfl).trans ?_; refine (veq (x := 0) (y := 0) rfl).trans ?_))
    (first | (exact rfl) | (refine (vF_g rfl rfl).trans ?_; refine (vF_g rfl rfl).trans ?_; exact rfl) | (refine (vF_g rfl rfl).trans ?_; refine (vF_g rfl rfl).trans ?_; refine (vF_g rfl rfl).trans ?_; exact rfl) | (refine (vF_g rfl rfl).trans ?_; exact rfl))
theorem v_takeWord_24 {D n p : Nat} {T : Nat → Nat} {f : Vw} (hx : TxC f n T) (hp9 : f 446 1 = p) (hp : p ≤ n) : (wOKc T 24 p → vM MT0 (D + 3) 51 [vR 446, vW 24] f = some ((0, 0), vI 1, tk9 f T p)) ∧ (¬ wOKc T 24 p → vM MT0 (D + 3) 51 [vR 446, vW 24] f = some ((0, 0), vI 0, fl 1 (tk9 f T p))) := by
  obtain ⟨w1, w2⟩ := v_wordIs9 (D := D) (w := 24) (f := f) (by decide) (by decide) (txC_tk (p := p) hx) hp tkq_2 tkq_3 tkq_4
  refine ⟨fun c => ?_, fun c => ?_⟩
  · refine vM_go rfl rfl rfl rfl fun F hF => ?_
    (first | (refine (vbnd_1 (v_next9 hx hp9 hp)).trans ?_) | (refine (vF_g rfl rfl).trans ?_; refine (vF_g rfl rfl).trans ?_; refine (vbnd_1 (v_next9 hx hp9 hp)).trans ?_) | (refine (vF_g rfl rfl).trans ?_; refine (vbnd_1 (v_next9 hx hp9 hp)).trans ?_))
    (first | (refine (vbnd_0 (w1 c)).trans ?_) | (refine (vF_g rfl rfl).trans ?_; refine (vF_g rfl rfl).trans ?_; refine (vbnd_0 (w1 c)).trans ?_) | (refine (vF_g rfl rfl).trans ?_; refine (vbnd_0 (w1 c)).trans ?_))
    (first | (refine (vgt (x := 1) (y := 0) (by decide) (by decide)).trans ?_) | (refine (vF_g rfl rfl).trans ?_; refine (vF_g rfl rfl).trans ?_; refine (vgt (x := 1) (y := 0) (by decide) (by decide)).trans ?_) | (refine (vF_g rfl rfl).trans ?_; refine (vgt (x := 1) (y := 0) (by decide) (by decide)).trans ?_))
    (first | (exact rfl) | (refine (vF_g rfl rfl).trans ?_; refine (vF_g rfl rfl).trans ?_; exact rfl) | (refine (vF_g rfl rfl).trans ?_; refine (vF_g rfl rfl).trans ?_; refine (vF_g rfl rfl).trans ?_; exact rfl) | (refine (vF_g rfl rfl).trans ?_; exact rfl))
  · refine vM_go rfl rfl rfl rfl fun F hF => ?_
    (first | (refine (vbnd_1 (v_next9 hx hp9 hp)).trans ?_) | (refine (vF_g rfl rfl).trans ?_; refine (vF_g rfl rfl).trans ?_; refine (vbnd_1 (v_next9 hx hp9 hp)).trans ?_) | (refine (vF_g rfl rfl).trans ?_; refine (vbnd_1 (v_next9 hx hp9 hp)).trans ?_))
    (first | (refine (vbnd_0 (w2 c)).trans ?_) | (refine (vF_g rfl rfl).trans ?_; refine (vF_g rfl rfl).trans ?_; refine (vbnd_0 (w2 c)).trans ?_) | (refine (vF_g rfl rfl).trans ?_; refine (vbnd_0 (w2 c)).trans ?_))
    (first | (refine (veq (x := 0) (y := 0) rfl).trans ?_) | (refine (vF_g rfl rfl).trans ?_; refine (vF_g rfl rfl).trans ?_; refine (veq (x := 0) (y := 0) rfl).trans ?_) | (refine (vF_g rfl rfl).trans ?_; refine (veq (x := 0) (y := 0) rfl).trans ?_))
    (first | (refine (vbnd_0 v_fail9).trans ?_) | (refine (vF_g rfl rfl).trans ?_; refine (vF_g rfl rfl).trans ?_; refine (vbnd_0 v_fail9).trans ?_) | (refine (vF_g rfl rfl).trans ?_; refine (vbnd_0 v_fail9).trans ?_))
    (first | (refine (veq (x := 0) (y := 0) rfl).trans ?_) | (refine (vF_g rfl rfl).trans ?_; refine (vF_g rfl rfl).trans ?_; refine (veq (x := 0) (y := 0) rfl).trans ?_) | (refine (vF_g rfl rfl).trans ?_; refine (veq (x := 0) (y := 0) rfl).trans ?_))
    (first | (exact rfl) | (refine (vF_g rfl rfl).trans ?_; refine (vF_g rfl rfl).trans ?_; exact rfl) | (refine (vF_g rfl rfl).trans ?_; refine (vF_g rfl rfl).trans ?_; refine (vF_g rfl rfl).trans ?_; exact rfl) | (refine (vF_g rfl rfl).trans ?_; exact rfl))
theorem v_takeWord_25 {D n p : Nat} {T : Nat → Nat} {f : Vw} (hx : TxC f n T) (hp9 : f 446 1 = p) (hp : p ≤ n) : (wOKc T 25 p → vM MT0 (D + 3) 51 [vR 446, vW 25] f = some ((0, 0), vI 1, tk9 f T p)) ∧ (¬ wOKc T 25 p → vM MT0 (D + 3) 51 [vR 446, vW 25] f = some ((0, 0), vI 0, fl 1 (tk9 f T p))) := by
  obtain ⟨w1, w2⟩ := v_wordIs9 (D := D) (w := 25) (f := f) (by decide) (by decide) (txC_tk (p := p) hx) hp tkq_2 tkq_3 tkq_4
  refine ⟨fun c => ?_, fun c => ?_⟩
  · refine vM_go rfl rfl rfl rfl fun F hF => ?_
    (first | (refine (vbnd_1 (v_next9 hx hp9 hp)).trans ?_) | (refine (vF_g rfl rfl).trans ?_; refine (vF_g rfl rfl).trans ?_; refine (vbnd_1 (v_next9 hx hp9 hp)).trans ?_) | (refine (vF_g rfl rfl).trans ?_; refine (vbnd_1 (v_next9 hx hp9 hp)).trans ?_))
    (first | (refine (vbnd_0 (w1 c)).trans ?_) | (refine (vF_g rfl rfl).trans ?_; refine (vF_g rfl rfl).trans ?_; refine (vbnd_0 (w1 c)).trans ?_) | (refine (vF_g rfl rfl).trans ?_; refine (vbnd_0 (w1 c)).trans ?_))
    (first | (refine (vgt (x := 1) (y := 0) (by decide) (by decide)).trans ?_) | (refine (vF_g rfl rfl).trans ?_; refine (vF_g rfl rfl).trans ?_; refine (vgt (x := 1) (y := 0) (by decide) (by decide)).trans ?_) | (refine (vF_g rfl rfl).trans ?_; refine (vgt (x := 1) (y := 0) (by decide) (by decide)).trans ?_))
    (first | (exact rfl) | (refine (vF_g rfl rfl).trans ?_; refine (vF_g rfl rfl).trans ?_; exact rfl) | (refine (vF_g rfl rfl).trans ?_; refine (vF_g rfl rfl).trans ?_; refine (vF_g rfl rfl).trans ?_; exact rfl) | (refine (vF_g rfl rfl).trans ?_; exact rfl))
  · refine vM_go rfl rfl rfl rfl fun F hF => ?_
    (first | (refine (vbnd_1 (v_next9 hx hp9 hp)).trans ?_) | (refine (vF_g rfl rfl).trans ?_; refine (vF_g rfl rfl).trans ?_; refine (vbnd_1 (v_next9 hx hp9 hp)).trans ?_) | (refine (vF_g rfl rfl).trans ?_; refine (vbnd_1 (v_next9 hx hp9 hp)).trans ?_))
    (first | (refine (vbnd_0 (w2 c)).trans ?_) | (refine (vF_g rfl rfl).trans ?_; refine (vF_g rfl rfl).trans ?_; refine (vbnd_0 (w2 c)).trans ?_) | (refine (vF_g rfl rfl).trans ?_; refine (vbnd_0 (w2 c)).trans ?_))
    (first | (refine (veq (x := 0) (y := 0) rfl).trans ?_) | (refine (vF_g rfl rfl).trans ?_; refine (vF_g rfl rfl).trans ?_; refine (veq (x := 0) (y := 0) rfl).trans ?_) | (refine (vF_g rfl rfl).trans ?_; refine (veq (x := 0) (y := 0) rfl).trans ?_))
    (first | (refine (vbnd_0 v_fail9).trans ?_) | (refine (vF_g rfl rfl).trans ?_; refine (vF_g rfl rfl).trans ?_; refine (vbnd_0 v_fail9).trans ?_) | (refine (vF_g rfl rfl).trans ?_; refine (vbnd_0 v_fail9).trans ?_))
    (first | (refine (veq (x := 0) (y := 0) rfl).trans ?_) | (refine (vF_g rfl rfl).trans ?_; refine (vF_g rfl rfl).trans ?_; refine (veq (x := 0) (y := 0) rfl).trans ?_) | (refine (vF_g rfl rfl).trans ?_; refine (veq (x := 0) (y := 0) rfl).trans ?_))
    (first | (exact rfl) | (refine (vF_g rfl rfl).trans ?_; refine (vF_g rfl rfl).trans ?_; exact rfl) | (refine (vF_g rfl rfl).trans ?_; refine (vF_g rfl rfl).trans ?_; refine (vF_g rfl rfl).trans ?_; exact rfl) | (refine (vF_g rfl rfl).trans ?_; exact rfl))
theorem v_takeWord_26 {D n p : Nat} {T : Nat → Nat} {f : Vw} (hx : TxC f n T) (hp9 : f 446 1 = p) (hp : p ≤ n) : (wOKc T 26 p → vM MT0 (D + 3) 51 [vR 446, vW 26] f = some ((0, 0), vI 1, tk9 f T p)) ∧ (¬ wOKc T 26 p → vM MT0 (D + 3) 51 [vR 446, vW 26] f = some ((0, 0), vI 0, fl 1 (tk9 f T p))) := by
  obtain ⟨w1, w2⟩ := v_wordIs9 (D := D) (w := 26) (f := f) (by decide) (by decide) (txC_tk (p := p) hx) hp tkq_2 tkq_3 tkq_4
  refine ⟨fun c => ?_, fun c => ?_⟩
  · refine vM_go rfl rfl rfl rfl fun F hF => ?_
    (first | (refine (vbnd_1 (v_next9 hx hp9 hp)).trans ?_) | (refine (vF_g rfl rfl).trans ?_; refine (vF_g rfl rfl).trans ?_; refine (vbnd_1 (v_next9 hx hp9 hp)).trans ?_) | (refine (vF_g rfl rfl).trans ?_; refine (vbnd_1 (v_next9 hx hp9 hp)).trans ?_))
    (first | (refine (vbnd_0 (w1 c)).trans ?_) | (refine (vF_g rfl rfl).trans ?_; refine (vF_g rfl rfl).trans ?_; refine (vbnd_0 (w1 c)).trans ?_) | (refine (vF_g rfl rfl).trans ?_; refine (vbnd_0 (w1 c)).trans ?_))
    (first | (refine (vgt (x := 1) (y := 0) (by decide) (by decide)).trans ?_) | (refine (vF_g rfl rfl).trans ?_; refine (vF_g rfl rfl).trans ?_; refine (vgt (x := 1) (y := 0) (by decide) (by decide)).trans ?_) | (refine (vF_g rfl rfl).trans ?_; refine (vgt (x := 1) (y := 0) (by decide) (by decide)).trans ?_))
    (first | (exact rfl) | (refine (vF_g rfl rfl).trans ?_; refine (vF_g rfl rfl).trans ?_; exact rfl) | (refine (vF_g rfl rfl).trans ?_; refine (vF_g rfl rfl).trans ?_; refine (vF_g rfl rfl).trans ?_; exact rfl) | (refine (vF_g rfl rfl).trans ?_; exact rfl))
  · refine vM_go rfl rfl rfl rfl fun F hF => ?_
    (first | (refine (vbnd_1 (v_next9 hx hp9 hp)).trans ?_) | (refine (vF_g rfl rfl).trans ?_; refine (vF_g rfl rfl).trans ?_; refine (vbnd_1 (v_next9 hx hp9 hp)).trans ?_) | (refine (vF_g rfl rfl).trans ?_; refine (vbnd_1 (v_next9 hx hp9 hp)).trans ?_))
    (first | (refine (vbnd_0 (w2 c)).trans ?_) | (refine (vF_g rfl rfl).trans ?_; refine (vF_g rfl rfl).trans ?_; refine (vbnd_0 (w2 c)).trans ?_) | (refine (vF_g rfl rfl).trans ?_; refine (vbnd_0 (w2 c)).trans ?_))
    (first | (refine (veq (x := 0) (y := 0) rfl).trans ?_) | (refine (vF_g rfl rfl).trans ?_; refine (vF_g rfl rfl).trans ?_; refine (veq (x := 0) (y := 0) rfl).trans ?_) | (refine (vF_g rfl rfl).trans ?_; refine (veq (x := 0) (y := 0) rfl).trans ?_))
    (first | (refine (vbnd_0 v_fail9).trans ?_) | (refine (vF_g rfl rfl).trans ?_; refine (vF_g rfl rfl).trans ?_; refine (vbnd_0 v_fail9).trans ?_) | (refine (vF_g rfl rfl).trans ?_; refine (vbnd_0 v_fail9).trans ?_))
    (first | (refine (veq (x := 0) (y := 0) rfl).trans ?_) | (refine (vF_g rfl rfl).trans ?_; refine (vF_g rfl rfl).trans ?_; refine (veq (x := 0) (y := 0) rfl).trans ?_) | (refine (vF_g rfl rfl).trans ?_; refine (veq (x := 0) (y := 0) rfl).trans ?_))
    (first | (exact rfl) | (refine (vF_g rfl rfl).trans ?_; refine (vF_g rfl rfl).trans ?_; exact rfl) | (refine (vF_g rfl rfl).trans ?_; refine (vF_g rfl rfl).trans ?_; refine (vF_g rfl rfl).trans ?_; exact rfl) | (refine (vF_g rfl rfl).trans ?_; exact rfl))
theorem v_takeWord_27 {D n p : Nat} {T : Nat → Nat} {f : Vw} (hx : TxC f n T) (hp9 : f 446 1 = p) (hp : p ≤ n) : (wOKc T 27 p → vM MT0 (D + 3) 51 [vR 446, vW 27] f = some ((0, 0), vI 1, tk9 f T p)) ∧ (¬ wOKc T 27 p → vM MT0 (D + 3) 51 [vR 446, vW 27] f = some ((0, 0), vI 0, fl 1 (tk9 f T p))) := by
  obtain ⟨w1, w2⟩ := v_wordIs9 (D := D) (w := 27) (f := f) (by decide) (by decide) (txC_tk (p := p) hx) hp tkq_2 tkq_3 tkq_4
  refine ⟨fun c => ?_, fun c => ?_⟩
  · refine vM_go rfl rfl rfl rfl fun F hF => ?_
    (first | (refine (vbnd_1 (v_next9 hx hp9 hp)).trans ?_) | (refine (vF_g rfl rfl).trans ?_; refine (vF_g rfl rfl).trans ?_; refine (vbnd_1 (v_next9 hx hp9 hp)).trans ?_) | (refine (vF_g rfl rfl).trans ?_; refine (vbnd_1 (v_next9 hx hp9 hp)).trans ?_))
    (first | (refine (vbnd_0 (w1 c)).trans ?_) | (refine (vF_g rfl rfl).trans ?_; refine (vF_g rfl rfl).trans ?_; refine (vbnd_0 (w1 c)).trans ?_) | (refine (vF_g rfl rfl).trans ?_; refine (vbnd_0 (w1 c)).trans ?_))
    (first | (refine (vgt (x := 1) (y := 0) (by decide) (by decide)).trans ?_) | (refine (vF_g rfl rfl).trans ?_; refine (vF_g rfl rfl).trans ?_; refine (vgt (x := 1) (y := 0) (by decide) (by decide)).trans ?_) | (refine (vF_g rfl rfl).trans ?_; refine (vgt (x := 1) (y := 0) (by decide) (by decide)).trans ?_))
    (first | (exact rfl) | (refine (vF_g rfl rfl).trans ?_; refine (vF_g rfl rfl).trans ?_; exact rfl) | (refine (vF_g rfl rfl).trans ?_; refine (vF_g rfl rfl).trans ?_; refine (vF_g rfl rfl).trans ?_; exact rfl) | (refine (vF_g rfl rfl).trans ?_; exact rfl))
  · refine vM_go rfl rfl rfl rfl fun F hF => ?_
    (first | (refine (vbnd_1 (v_next9 hx hp9 hp)).trans ?_) | (refine (vF_g rfl rfl).trans ?_; refine (vF_g rfl rfl).trans ?_; refine (vbnd_1 (v_next9 hx hp9 hp)).trans ?_) | (refine (vF_g rfl rfl).trans ?_; refine (vbnd_1 (v_next9 hx hp9 hp)).trans ?_))
    (first | (refine (vbnd_0 (w2 c)).trans ?_) | (refine (vF_g rfl rfl).trans ?_; refine (vF_g rfl rfl).trans ?_; refine (vbnd_0 (w2 c)).trans ?_) | (refine (vF_g rfl rfl).trans ?_; refine (vbnd_0 (w2 c)).trans ?_))
    (first | (refine (veq (x := 0) (y := 0) rfl).trans ?_) | (refine (vF_g rfl rfl).trans ?_; refine (vF_g rfl rfl).trans ?_; refine (veq (x := 0) (y := 0) rfl).trans ?_) | (refine (vF_g rfl rfl).trans ?_; refine (veq (x := 0) (y := 0) rfl).trans ?_))
    (first | (refine (vbnd_0 v_fail9).trans ?_) | (refine (vF_g rfl rfl).trans ?_; refine (vF_g rfl rfl).trans ?_; refine (vbnd_0 v_fail9).trans ?_) | (refine (vF_g rfl rfl).trans ?_; refine (vbnd_0 v_fail9).trans ?_))
    (first | (refine (veq (x := 0) (y := 0) rfl).trans ?_) | (refine (vF_g rfl rfl).trans ?_; refine (vF_g rfl rfl).trans ?_; refine (veq (x := 0) (y := 0) rfl).trans ?_) | (refine (vF_g rfl rfl).trans ?_; refine (veq (x := 0) (y := 0) rfl).trans ?_))
    (first | (exact rfl) | (refine (vF_g rfl rfl).trans ?_; refine (vF_g rfl rfl).trans ?_; exact rfl) | (refine (vF_g rfl rfl).trans ?_; refine (vF_g rfl rfl).trans ?_; refine (vF_g rfl rfl).trans ?_; exact rfl) | (refine (vF_g rfl rfl).trans ?_; exact rfl))
theorem v_takeWord_28 {D n p : Nat} {T : Nat → Nat} {f : Vw} (hx : TxC f n T) (hp9 : f 446 1 = p) (hp : p ≤ n) : (wOKc T 28 p → vM MT0 (D + 3) 51 [vR 446, vW 28] f = some ((0, 0), vI 1, tk9 f T p)) ∧ (¬ wOKc T 28 p → vM MT0 (D + 3) 51 [vR 446, vW 28] f = some ((0, 0), vI 0, fl 1 (tk9 f T p))) := by
  obtain ⟨w1, w2⟩ := v_wordIs9 (D := D) (w := 28) (f := f) (by decide) (by decide) (txC_tk (p := p) hx) hp tkq_2 tkq_3 tkq_4
  refine ⟨fun c => ?_, fun c => ?_⟩
  · refine vM_go rfl rfl rfl rfl fun F hF => ?_
    (first | (refine (vbnd_1 (v_next9 hx hp9 hp)).trans ?_) | (refine (vF_g rfl rfl).trans ?_; refine (vF_g rfl rfl).trans ?_; refine (vbnd_1 (v_next9 hx hp9 hp)).trans ?_) | (refine (vF_g rfl rfl).trans ?_; refine (vbnd_1 (v_next9 hx hp9 hp)).trans ?_))
    (first | (refine (vbnd_0 (w1 c)).trans ?_) | (refine (vF_g rfl rfl).trans ?_; refine (vF_g rfl rfl).trans ?_; refine (vbnd_0 (w1 c)).trans ?_) | (refine (vF_g rfl rfl).trans ?_; refine (vbnd_0 (w1 c)).trans ?_))
    (first | (refine (vgt (x := 1) (y := 0) (by decide) (by decide)).trans ?_) | (refine (vF_g rfl rfl).trans ?_; refine (vF_g rfl rfl).trans ?_; refine (vgt (x := 1) (y := 0) (by decide) (by decide)).trans ?_) | (refine (vF_g rfl rfl).trans ?_; refine (vgt (x := 1) (y := 0) (by decide) (by decide)).trans ?_))
    (first | (exact rfl) | (refine (vF_g rfl rfl).trans ?_; refine (vF_g rfl rfl).trans ?_; exact rfl) | (refine (vF_g rfl rfl).trans ?_; refine (vF_g rfl rfl).trans ?_; refine (vF_g rfl rfl).trans ?_; exact rfl) | (refine (vF_g rfl rfl).trans ?_; exact rfl))
  · refine vM_go rfl rfl rfl rfl fun F hF => ?_
    (first | (refine (vbnd_1 (v_next9 hx hp9 hp)).trans ?_) | (refine (vF_g rfl rfl).trans ?_; refine (vF_g rfl rfl).trans ?_; refine (vbnd_1 (v_next9 hx hp9 hp)).trans ?_) | (refine (vF_g rfl rfl).trans ?_; refine (vbnd_1 (v_next9 hx hp9 hp)).trans ?_))
    (first | (refine (vbnd_0 (w2 c)).trans ?_) | (refine (vF_g rfl rfl).trans ?_; refine (vF_g rfl rfl).trans ?_; refine (vbnd_0 (w2 c)).trans ?_) | (refine (vF_g rfl rfl).trans ?_; refine (vbnd_0 (w2 c)).trans ?_))
    (first | (refine (veq (x := 0) (y := 0) rfl).trans ?_) | (refine (vF_g rfl rfl).trans ?_; refine (vF_g rfl rfl).trans ?_; refine (veq (x := 0) (y := 0) rfl).trans ?_) | (refine (vF_g rfl rfl).trans ?_; refine (veq (x := 0) (y := 0) rfl).trans ?_))
    (first | (refine (vbnd_0 v_fail9).trans ?_) | (refine (vF_g rfl rfl).trans ?_; refine (vF_g rfl rfl).trans ?_; refine (vbnd_0 v_fail9).trans ?_) | (refine (vF_g rfl rfl).trans ?_; refine (vbnd_0 v_fail9).trans ?_))
    (first | (refine (veq (x := 0) (y := 0) rfl).trans ?_) | (refine (vF_g rfl rfl).trans ?_; refine (vF_g rfl rfl).trans ?_; refine (veq (x := 0) (y := 0) rfl).trans ?_) | (refine (vF_g rfl rfl).trans ?_; refine (veq (x := 0) (y := 0) rfl).trans ?_))
    (first | (exact rfl) | (refine (vF_g rfl rfl).trans ?_; refine (vF_g rfl rfl).trans ?_; exact rfl) | (refine (vF_g rfl rfl).trans ?_; refine (vF_g rfl rfl).trans ?_; refine (vF_g rfl rfl).trans ?_; exact rfl) | (refine (vF_g rfl rfl).trans ?_; exact rfl))
theorem v_takeWord_29 {D n p : Nat} {T : Nat → Nat} {f : Vw} (hx : TxC f n T) (hp9 : f 446 1 = p) (hp : p ≤ n) : (wOKc T 29 p → vM MT0 (D + 3) 51 [vR 446, vW 29] f = some ((0, 0), vI 1, tk9 f T p)) ∧ (¬ wOKc T 29 p → vM MT0 (D + 3) 51 [vR 446, vW 29] f = some ((0, 0), vI 0, fl 1 (tk9 f T p))) := by
  obtain ⟨w1, w2⟩ := v_wordIs9 (D := D) (w := 29) (f := f) (by decide) (by decide) (txC_tk (p := p) hx) hp tkq_2 tkq_3 tkq_4
  refine ⟨fun c => ?_, fun c => ?_⟩
  · refine vM_go rfl rfl rfl rfl fun F hF => ?_
    (first | (refine (vbnd_1 (v_next9 hx hp9 hp)).trans ?_) | (refine (vF_g rfl rfl).trans ?_; refine (vF_g rfl rfl).trans ?_; refine (vbnd_1 (v_next9 hx hp9 hp)).trans ?_) | (refine (vF_g rfl rfl).trans ?_; refine (vbnd_1 (v_next9 hx hp9 hp)).trans ?_))
    (first | (refine (vbnd_0 (w1 c)).trans ?_) | (refine (vF_g rfl rfl).trans ?_; refine (vF_g rfl rfl).trans ?_; refine (vbnd_0 (w1 c)).trans ?_) | (refine (vF_g rfl rfl).trans ?_; refine (vbnd_0 (w1 c)).trans ?_))
    (first | (refine (vgt (x := 1) (y := 0) (by decide) (by decide)).trans ?_) | (refine (vF_g rfl rfl).trans ?_; refine (vF_g rfl rfl).trans ?_; refine (vgt (x := 1) (y := 0) (by decide) (by decide)).trans ?_) | (refine (vF_g rfl rfl).trans ?_; refine (vgt (x := 1) (y := 0) (by decide) (by decide)).trans ?_))
    (first | (exact rfl) | (refine (vF_g rfl rfl).trans ?_; refine (vF_g rfl rfl).trans ?_; exact rfl) | (refine (vF_g rfl rfl).trans ?_; refine (vF_g rfl rfl).trans ?_; refine (vF_g rfl rfl).trans ?_; exact rfl) | (refine (vF_g rfl rfl).trans ?_; exact rfl))
  · refine vM_go rfl rfl rfl rfl fun F hF => ?_
    (first | (refine (vbnd_1 (v_next9 hx hp9 hp)).trans ?_) | (refine (vF_g rfl rfl).trans ?_; refine (vF_g rfl rfl).trans ?_; refine (vbnd_1 (v_next9 hx hp9 hp)).trans ?_) | (refine (vF_g rfl rfl).trans ?_; refine (vbnd_1 (v_next9 hx hp9 hp)).trans ?_))
    (first | (refine (vbnd_0 (w2 c)).trans ?_) | (refine (vF_g rfl rfl).trans ?_; refine (vF_g rfl rfl).trans ?_; refine (vbnd_0 (w2 c)).trans ?_) | (refine (vF_g rfl rfl).trans ?_; refine (vbnd_0 (w2 c)).trans ?_))
    (first | (refine (veq (x := 0) (y := 0) rfl).trans ?_) | (refine (vF_g rfl rfl).trans ?_; refine (vF_g rfl rfl).trans ?_; refine (veq (x := 0) (y := 0) rfl).trans ?_) | (refine (vF_g rfl rfl).trans ?_; refine (veq (x := 0) (y := 0) rfl).trans ?_))
    (first | (refine (vbnd_0 v_fail9).trans ?_) | (refine (vF_g rfl rfl).trans ?_; refine (vF_g rfl rfl).trans ?_; refine (vbnd_0 v_fail9).trans ?_) | (refine (vF_g rfl rfl).trans ?_; refine (vbnd_0 v_fail9).trans ?_))
    (first | (refine (veq (x := 0) (y := 0) rfl).trans ?_) | (refine (vF_g rfl rfl).trans ?_; refine (vF_g rfl rfl).trans ?_; refine (veq (x := 0) (y := 0) rfl).trans ?_) | (refine (vF_g rfl rfl).trans ?_; refine (veq (x := 0) (y := 0) rfl).trans ?_))
    (first | (exact rfl) | (refine (vF_g rfl rfl).trans ?_; refine (vF_g rfl rfl).trans ?_; exact rfl) | (refine (vF_g rfl rfl).trans ?_; refine (vF_g rfl rfl).trans ?_; refine (vF_g rfl rfl).trans ?_; exact rfl) | (refine (vF_g rfl rfl).trans ?_; exact rfl))
theorem v_takeWord_30 {D n p : Nat} {T : Nat → Nat} {f : Vw} (hx : TxC f n T) (hp9 : f 446 1 = p) (hp : p ≤ n) : (wOKc T 30 p → vM MT0 (D + 3) 51 [vR 446, vW 30] f = some ((0, 0), vI 1, tk9 f T p)) ∧ (¬ wOKc T 30 p → vM MT0 (D + 3) 51 [vR 446, vW 30] f = some ((0, 0), vI 0, fl 1 (tk9 f T p))) := by
  obtain ⟨w1, w2⟩ := v_wordIs9 (D := D) (w := 30) (f := f) (by decide) (by decide) (txC_tk (p := p) hx) hp tkq_2 tkq_3 tkq_4
  refine ⟨fun c => ?_, fun c => ?_⟩
  · refine vM_go rfl rfl rfl rfl fun F hF => ?_
    (first | (refine (vbnd_1 (v_next9 hx hp9 hp)).trans ?_) | (refine (vF_g rfl rfl).trans ?_; refine (vF_g rfl rfl).trans ?_; refine (vbnd_1 (v_next9 hx hp9 hp)).trans ?_) | (refine (vF_g rfl rfl).trans ?_; refine (vbnd_1 (v_next9 hx hp9 hp)).trans ?_))
    (first | (refine (vbnd_0 (w1 c)).trans ?_) | (refine (vF_g rfl rfl).trans ?_; refine (vF_g rfl rfl).trans ?_; refine (vbnd_0 (w1 c)).trans ?_) | (refine (vF_g rfl rfl).trans ?_; refine (vbnd_0 (w1 c)).trans ?_))
    (first | (refine (vgt (x := 1) (y := 0) (by decide) (by decide)).trans ?_) | (refine (vF_g rfl rfl).trans ?_; refine (vF_g rfl rfl).trans ?_; refine (vgt (x := 1) (y := 0) (by decide) (by decide)).trans ?_) | (refine (vF_g rfl rfl).trans ?_; refine (vgt (x := 1) (y := 0) (by decide) (by decide)).trans ?_))
    (first | (exact rfl) | (refine (vF_g rfl rfl).trans ?_; refine (vF_g rfl rfl).trans ?_; exact rfl) | (refine (vF_g rfl rfl).trans ?_; refine (vF_g rfl rfl).trans ?_; refine (vF_g rfl rfl).trans ?_; exact rfl) | (refine (vF_g rfl rfl).trans ?_; exact rfl))
  · refine vM_go rfl rfl rfl rfl fun F hF => ?_
    (first | (refine (vbnd_1 (v_next9 hx hp9 hp)).trans ?_) | (refine (vF_g rfl rfl).trans ?_; refine (vF_g rfl rfl).trans ?_; refine (vbnd_1 (v_next9 hx hp9 hp)).trans ?_) | (refine (vF_g rfl rfl).trans ?_; refine (vbnd_1 (v_next9 hx hp9 hp)).trans ?_))
    (first | (refine (vbnd_0 (w2 c)).trans ?_) | (refine (vF_g rfl rfl).trans ?_; refine (vF_g rfl rfl).trans ?_; refine (vbnd_0 (w2 c)).trans ?_) | (refine (vF_g rfl rfl).trans ?_; refine (vbnd_0 (w2 c)).trans ?_))
    (first | (refine (veq (x := 0) (y := 0) rfl).trans ?_) | (refine (vF_g rfl rfl).trans ?_; refine (vF_g rfl rfl).trans ?_; refine (veq (x := 0) (y := 0) rfl).trans ?_) | (refine (vF_g rfl rfl).trans ?_; refine (veq (x := 0) (y := 0) rfl).trans ?_))
    (first | (refine (vbnd_0 v_fail9).trans ?_) | (refine (vF_g rfl rfl).trans ?_; refine (vF_g rfl rfl).trans ?_; refine (vbnd_0 v_fail9).trans ?_) | (refine (vF_g rfl rfl).trans ?_; refine (vbnd_0 v_fail9).trans ?_))
    (first | (refine (veq (x := 0) (y := 0) rfl).trans ?_) | (refine (vF_g rfl rfl).trans ?_; refine (vF_g rfl rfl).trans ?_; refine (veq (x := 0) (y := 0) rfl).trans ?_) | (refine (vF_g rfl rfl).trans ?_; refine (veq (x := 0) (y := 0) rfl).trans ?_))
    (first | (exact rfl) | (refine (vF_g rfl rfl).trans ?_; refine (vF_g rfl rfl).trans ?_; exact rfl) | (refine (vF_g rfl rfl).trans ?_; refine (vF_g rfl rfl).trans ?_; refine (vF_g rfl rfl).trans ?_; exact rfl) | (refine (vF_g rfl rfl).trans ?_; exact rfl))
theorem v_takeWord {D w n p : Nat} {T : Nat → Nat} {f : Vw} (h1 : 20 ≤ w) (h2 : w ≤ 30) (hx : TxC f n T) (hp9 : f 446 1 = p) (hp : p ≤ n) : (wOKc T w p → vM MT0 (D + 3) 51 [vR 446, vW w] f = some ((0, 0), vI 1, tk9 f T p)) ∧ (¬ wOKc T w p → vM MT0 (D + 3) 51 [vR 446, vW w] f = some ((0, 0), vI 0, fl 1 (tk9 f T p))) := by
  rcases (show w = 20 ∨ w = 21 ∨ w = 22 ∨ w = 23 ∨ w = 24 ∨ w = 25 ∨ w = 26 ∨ w = 27 ∨ w = 28 ∨ w = 29 ∨ w = 30 by omega) with rfl | rfl | rfl | rfl | rfl | rfl | rfl | rfl | rfl | rfl | rfl
  · exact v_takeWord_20 hx hp9 hp
  · exact v_takeWord_21 hx hp9 hp
  · exact v_takeWord_22 hx hp9 hp
  · exact v_takeWord_23 hx hp9 hp
  · exact v_takeWord_24 hx hp9 hp
  · exact v_takeWord_25 hx hp9 hp
  · exact v_takeWord_26 hx hp9 hp
  · exact v_takeWord_27 hx hp9 hp
  · exact v_takeWord_28 hx hp9 hp
  · exact v_takeWord_29 hx hp9 hp
  · exact v_takeWord_30 hx hp9 hp
theorem v_takeSemi {D n p : Nat} {T : Nat → Nat} {f : Vw} (hx : TxC f n T) (hp9 : f 446 1 = p) (hp : p ≤ n) : (tK T p = 3 → vM MT0 (D + 3) 52 [vR 446] f = some ((0, 0), vI 1, tk9 f T p)) ∧ (tK T p ≠ 3 → vM MT0 (D + 3) 52 [vR 446] f = some ((0, 0), vI 0, fl 1 (tk9 f T p))) := by
  have hk : tK T p ≤ 5 := kd9_l _
  refine ⟨fun c => ?_, fun c => ?_⟩
  · refine vM_go rfl rfl rfl rfl fun F hF => ?_
    (first | (refine (vbnd_1 (v_next9 hx hp9 hp)).trans ?_) | (refine (vF_g rfl rfl).trans ?_; refine (vF_g rfl rfl).trans ?_; refine (vbnd_1 (v_next9 hx hp9 hp)).trans ?_) | (refine (vF_g rfl rfl).trans ?_; refine (vbnd_1 (v_next9 hx hp9 hp)).trans ?_))
    (first | (refine (veq c).trans ?_) | (refine (vF_g rfl rfl).trans ?_; refine (vF_g rfl rfl).trans ?_; refine (veq c).trans ?_) | (refine (vF_g rfl rfl).trans ?_; refine (veq c).trans ?_))
    (first | (exact rfl) | (refine (vF_g rfl rfl).trans ?_; refine (vF_g rfl rfl).trans ?_; exact rfl) | (refine (vF_g rfl rfl).trans ?_; refine (vF_g rfl rfl).trans ?_; refine (vF_g rfl rfl).trans ?_; exact rfl) | (refine (vF_g rfl rfl).trans ?_; exact rfl))
  · refine vM_go rfl rfl rfl rfl fun F hF => ?_
    (first | (refine (vbnd_1 (v_next9 hx hp9 hp)).trans ?_) | (refine (vF_g rfl rfl).trans ?_; refine (vF_g rfl rfl).trans ?_; refine (vbnd_1 (v_next9 hx hp9 hp)).trans ?_) | (refine (vF_g rfl rfl).trans ?_; refine (vbnd_1 (v_next9 hx hp9 hp)).trans ?_))
    (first | (refine (vne (show tK T p < 4294967296 by omega) (by decide) c).trans ?_) | (refine (vF_g rfl rfl).trans ?_; refine (vF_g rfl rfl).trans ?_; refine (vne (show tK T p < 4294967296 by omega) (by decide) c).trans ?_) | (refine (vF_g rfl rfl).trans ?_; refine (vne (show tK T p < 4294967296 by omega) (by decide) c).trans ?_))
    (first | (refine (vbnd_0 v_fail9).trans ?_) | (refine (vF_g rfl rfl).trans ?_; refine (vF_g rfl rfl).trans ?_; refine (vbnd_0 v_fail9).trans ?_) | (refine (vF_g rfl rfl).trans ?_; refine (vbnd_0 v_fail9).trans ?_))
    (first | (refine (veq (x := 0) (y := 0) rfl).trans ?_) | (refine (vF_g rfl rfl).trans ?_; refine (vF_g rfl rfl).trans ?_; refine (veq (x := 0) (y := 0) rfl).trans ?_) | (refine (vF_g rfl rfl).trans ?_; refine (veq (x := 0) (y := 0) rfl).trans ?_))
    (first | (exact rfl) | (refine (vF_g rfl rfl).trans ?_; refine (vF_g rfl rfl).trans ?_; exact rfl) | (refine (vF_g rfl rfl).trans ?_; refine (vF_g rfl rfl).trans ?_; refine (vF_g rfl rfl).trans ?_; exact rfl) | (refine (vF_g rfl rfl).trans ?_; exact rfl))
theorem tV_4 {T : Nat → Nat} {p : Nat} (h : tK T p = 2) (h4 : tE T p - tS T p ≤ 4) : tV T p < 10000 := by
  have e1 : tE T p = rn T 2 901 (tS T p) := by
    unfold tE
    rw [if_neg (by omega), if_pos (Or.inr h), h]
  have e2 : tV T p = vfold T 2 901 (tS T p) 0 := by
    unfold tV
    rw [if_neg (by omega), if_pos (Or.inr h), h]
  rw [e2]
  exact vfold_4 (by rw [← e1]; exact h4)
/-- a number, as the program takes it: 0 good, else the error's code -/
noncomputable def nuC (T : Nat → Nat) (p lo hi : Nat) : Nat := if tK T p = 2 ∧ tE T p - tS T p ≤ 4 then (if lo ≤ tV T p ∧ tV T p ≤ hi then 0 else 2) else 1
theorem v_takeNumber {D n p lo hi : Nat} {T : Nat → Nat} {f : Vw} (hx : TxC f n T) (hp9 : f 446 1 = p) (hp : p ≤ n) (hlo : lo < 10000) (hhi : hi < 10000) : (nuC T p lo hi = 0 → vM MT0 (D + 3) 55 [vR 446, vI lo, vI hi] f = some ((0, 0), vI 1, tk9 f T p)) ∧ (nuC T p lo hi ≠ 0 → vM MT0 (D + 3) 55 [vR 446, vI lo, vI hi] f = some ((0, 0), vI 0, fl (nuC T p lo hi) (tk9 f T p))) := by
  obtain ⟨a1, a2⟩ := tS_le hx.2.2.2.2 hp
  obtain ⟨b1, b2⟩ := tE_le hx.2.2.2.2 hp
  have hn := hx.1
  have hk : tK T p ≤ 5 := kd9_l _
  have e := v_checkNumber (D := D) (f := tk9 f T p) (lo := lo) (hi := hi) (by rw [tkq_2]; omega) (by rw [tkq_4]; omega) (fun c1 c2 => by rw [tkq_2] at c1; rw [tkq_4] at c2; rw [tkq_5]; have := tV_4 c1 c2; omega) (by omega) (by omega)
  rw [tkq_2, tkq_4, tkq_5] at e
  unfold nuC
  by_cases c1 : tK T p = 2 ∧ tE T p - tS T p ≤ 4
  · rw [if_pos c1] at e ⊢
    by_cases c2 : lo ≤ tV T p ∧ tV T p ≤ hi
    · rw [if_pos c2] at e ⊢
      exact ⟨fun _ => vM_go rfl rfl rfl rfl fun F hF => (by (first | (refine (vbnd_1 (v_next9 hx hp9 hp)).trans ?_) | (refine (vF_g rfl rfl).trans ?_; refine (vF_g rfl rfl).trans ?_; refine (vbnd_1 (v_next9 hx hp9 hp)).trans ?_) | (refine (vF_g rfl rfl).trans ?_; refine (vbnd_1 (v_next9 hx hp9 hp)).trans ?_)); (first | (refine (vbnd_0 e).trans ?_) | (refine (vF_g rfl rfl).trans ?_; refine (vF_g rfl rfl).trans ?_; refine (vbnd_0 e).trans ?_) | (refine (vF_g rfl rfl).trans ?_; refine (vbnd_0 e).trans ?_)); (first | (exact rfl) | (refine (vF_g rfl rfl).trans ?_; refine (vF_g rfl rfl).trans ?_; exact rfl) | (refine (vF_g rfl rfl).trans ?_; refine (vF_g rfl rfl).trans ?_; refine (vF_g rfl rfl).trans ?_; exact rfl) | (refine (vF_g rfl rfl).trans ?_; exact rfl))), fun h => absurd rfl h⟩
    · rw [if_neg c2] at e ⊢
      exact ⟨fun h => (by cases h), fun _ => vM_go rfl rfl rfl rfl fun F hF => (by (first | (refine (vbnd_1 (v_next9 hx hp9 hp)).trans ?_) | (refine (vF_g rfl rfl).trans ?_; refine (vF_g rfl rfl).trans ?_; refine (vbnd_1 (v_next9 hx hp9 hp)).trans ?_) | (refine (vF_g rfl rfl).trans ?_; refine (vbnd_1 (v_next9 hx hp9 hp)).trans ?_)); (first | (refine (vbnd_0 e).trans ?_) | (refine (vF_g rfl rfl).trans ?_; refine (vF_g rfl rfl).trans ?_; refine (vbnd_0 e).trans ?_) | (refine (vF_g rfl rfl).trans ?_; refine (vbnd_0 e).trans ?_)); (first | (exact rfl) | (refine (vF_g rfl rfl).trans ?_; refine (vF_g rfl rfl).trans ?_; exact rfl) | (refine (vF_g rfl rfl).trans ?_; refine (vF_g rfl rfl).trans ?_; refine (vF_g rfl rfl).trans ?_; exact rfl) | (refine (vF_g rfl rfl).trans ?_; exact rfl)))⟩
  · rw [if_neg c1] at e ⊢
    exact ⟨fun h => (by cases h), fun _ => vM_go rfl rfl rfl rfl fun F hF => (by (first | (refine (vbnd_1 (v_next9 hx hp9 hp)).trans ?_) | (refine (vF_g rfl rfl).trans ?_; refine (vF_g rfl rfl).trans ?_; refine (vbnd_1 (v_next9 hx hp9 hp)).trans ?_) | (refine (vF_g rfl rfl).trans ?_; refine (vbnd_1 (v_next9 hx hp9 hp)).trans ?_)); (first | (refine (vbnd_0 e).trans ?_) | (refine (vF_g rfl rfl).trans ?_; refine (vF_g rfl rfl).trans ?_; refine (vbnd_0 e).trans ?_) | (refine (vF_g rfl rfl).trans ?_; refine (vbnd_0 e).trans ?_)); (first | (exact rfl) | (refine (vF_g rfl rfl).trans ?_; refine (vF_g rfl rfl).trans ?_; exact rfl) | (refine (vF_g rfl rfl).trans ?_; refine (vF_g rfl rfl).trans ?_; refine (vF_g rfl rfl).trans ?_; exact rfl) | (refine (vF_g rfl rfl).trans ?_; exact rfl)))⟩
