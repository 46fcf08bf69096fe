/-! the reference's tokens on views -/
theorem vlc {x y : Nat} {a b c : Option VR} : vc3 (bv (toN (lg_cmp (lN x) (lN y)))) (bv 0) a b c = if lsg x < lsg y then a else if lsg x = lsg y then b else c := by
  have h := lcmp_sg x y
  by_cases q : lsg x < lsg y
  · rw [if_pos q] at h ⊢
    exact vc3_1 (by rw [bv_is, bv_is]; exact bi_lt_iff.mpr (by rw [h, sgZ0]; decide))
  · rw [if_neg q] at h ⊢
    by_cases q2 : lsg x = lsg y
    · rw [if_pos q2] at h ⊢
      exact vc3_2 (by rw [bv_is, bv_is]; exact bi_eq_iff.mpr (by rw [h, sgZ0]))
    · rw [if_neg q2] at h ⊢
      exact vc3_3 (by rw [bv_is, bv_is]; exact bi_lt_iff.mpr (by rw [h, sgZ0]; decide))
theorem v_in {D x a b : Nat} {f : Vw} : vM MT0 (D + 1) 174 [vJ x, vJ a, vJ b] f = some ((0, 0), vI (if lsg a ≤ lsg x ∧ lsg x ≤ lsg b then 1 else 0), f) := by
  refine vM_go rfl rfl rfl rfl fun F hF => ?_
  by_cases h1 : lsg a ≤ lsg x
  · have e1 : ∀ u w : Option VR, (if lsg x < lsg a then u else if lsg x = lsg a then w else w) = w := by
      intro u w
      rw [if_neg (Int.not_lt.mpr h1)]
      split <;> rfl
    by_cases h2 : lsg x ≤ lsg b
    · rw [if_pos ⟨h1, h2⟩]
      (first | (refine vlc.trans ?_) | (refine (vF_g rfl rfl).trans ?_; refine (vF_g rfl rfl).trans ?_; refine vlc.trans ?_) | (refine (vF_g rfl rfl).trans ?_; refine vlc.trans ?_))
      refine (e1 _ _).trans ?_
      (first | (refine vlc.trans ?_) | (refine (vF_g rfl rfl).trans ?_; refine (vF_g rfl rfl).trans ?_; refine vlc.trans ?_) | (refine (vF_g rfl rfl).trans ?_; refine vlc.trans ?_))
      rcases Int.lt_or_eq_of_le h2 with q | q
      · rw [if_pos q]
        (first | (exact rfl) | (refine (vF_g rfl rfl).trans ?_; refine (vF_g rfl rfl).trans ?_; exact rfl) | (refine (vF_g rfl rfl).trans ?_; refine (vF_g rfl rfl).trans ?_; refine (vF_g rfl rfl).trans ?_; exact rfl) | (refine (vF_g rfl rfl).trans ?_; exact rfl))
      · rw [if_neg (by rw [q]; exact Int.lt_irrefl _), if_pos q]
        (first | (exact rfl) | (refine (vF_g rfl rfl).trans ?_; refine (vF_g rfl rfl).trans ?_; exact rfl) | (refine (vF_g rfl rfl).trans ?_; refine (vF_g rfl rfl).trans ?_; refine (vF_g rfl rfl).trans ?_; exact rfl) | (refine (vF_g rfl rfl).trans ?_; exact rfl))
    · rw [if_neg (fun q => h2 q.2)]
      (first | (refine vlc.trans ?_) | (refine (vF_g rfl rfl).trans ?_; refine (vF_g rfl rfl).trans ?_; refine vlc.trans ?_) | (refine (vF_g rfl rfl).trans ?_; refine vlc.trans ?_))
      refine (e1 _ _).trans ?_
      (first | (refine vlc.trans ?_) | (refine (vF_g rfl rfl).trans ?_; refine (vF_g rfl rfl).trans ?_; refine vlc.trans ?_) | (refine (vF_g rfl rfl).trans ?_; refine vlc.trans ?_))
      rw [if_neg (fun q => h2 (Int.le_of_lt q)), if_neg (fun q => h2 (Int.le_of_eq q))]
      (first | (exact rfl) | (refine (vF_g rfl rfl).trans ?_; refine (vF_g rfl rfl).trans ?_; exact rfl) | (refine (vF_g rfl rfl).trans ?_; refine (vF_g rfl rfl).trans ?_; refine (vF_g rfl rfl).trans ?_; exact rfl) | (refine (vF_g rfl rfl).trans ?_; exact rfl))
  · rw [if_neg (fun q => h1 q.1)]
    (first | (refine vlc.trans ?_) | (refine (vF_g rfl rfl).trans ?_; refine (vF_g rfl rfl).trans ?_; refine vlc.trans ?_) | (refine (vF_g rfl rfl).trans ?_; refine vlc.trans ?_))
    rw [if_pos (Int.not_le.mp h1)]
    (first | (exact rfl) | (refine (vF_g rfl rfl).trans ?_; refine (vF_g rfl rfl).trans ?_; exact rfl) | (refine (vF_g rfl rfl).trans ?_; refine (vF_g rfl rfl).trans ?_; refine (vF_g rfl rfl).trans ?_; exact rfl) | (refine (vF_g rfl rfl).trans ?_; exact rfl))
theorem lsg_s {n : Nat} (h : n < 9223372036854775808) : lsg n = (n : Int) := by unfold lsg; omega
theorem sg_N : sg 4294967295 = -1 := by
  unfold sg bi
  decide
theorem in_9 {t lo hi : Nat} (ht : t < 256 ∨ t = 4294967295) (hlo : lo < 10000) (hhi : hi < 10000) : (lsg lo ≤ lsg (toNL (nI t).toInt64) ∧ lsg (toNL (nI t).toInt64) ≤ lsg hi) ↔ (lo ≤ t ∧ t ≤ hi) := by
  rw [lsg_i2l, lsg_s (show lo < 9223372036854775808 by omega), lsg_s (show hi < 9223372036854775808 by omega)]
  rcases ht with h | h
  · rw [sg_eq (show t ≤ 2147483647 by omega)]
    omega
  · rw [h, sg_N]
    omega
noncomputable def btR (f : Vw) (i : Nat) : Nat := if i < f 452 16 then f 462 i else 4294967295
theorem v_byteR {D i : Nat} {f : Vw} (hi : i < 2147483648) (hn : f 452 16 ≤ 900) : vM MT0 (D + 1) 228 [vR 452, vI i] f = some ((0, 0), vI (btR f i), f) := by
  refine vM_go rfl rfl rfl rfl fun F hF => ?_
  unfold btR
  by_cases h : i < f 452 16
  · rw [if_pos h]
    (first | (refine (vlt (x := i) (y := f 452 16) (by omega) h).trans ?_) | (refine (vF_g rfl rfl).trans ?_; refine (vF_g rfl rfl).trans ?_; refine (vlt (x := i) (y := f 452 16) (by omega) h).trans ?_) | (refine (vF_g rfl rfl).trans ?_; refine (vlt (x := i) (y := f 452 16) (by omega) h).trans ?_))
    (first | (refine Eq.trans (b := gd (Nat.ble (i + 1) 900) (vFn (vM MT0 D) nb_X11_byteAt (F + 58) 3 0 (iniL 2 [vR 452, vI i]) [vI (f 462 i)] f)) rfl ?_) | (refine (vF_g rfl rfl).trans ?_; refine (vF_g rfl rfl).trans ?_; refine Eq.trans (b := gd (Nat.ble (i + 1) 900) (vFn (vM MT0 D) nb_X11_byteAt (F + 58) 3 0 (iniL 2 [vR 452, vI i]) [vI (f 462 i)] f)) rfl ?_) | (refine (vF_g rfl rfl).trans ?_; refine Eq.trans (b := gd (Nat.ble (i + 1) 900) (vFn (vM MT0 D) nb_X11_byteAt (F + 58) 3 0 (iniL 2 [vR 452, vI i]) [vI (f 462 i)] f)) rfl ?_))
    rw [Nat.ble_eq_true_of_le (show i + 1 ≤ 900 by omega)]
    (first | (exact rfl) | (refine (vF_g rfl rfl).trans ?_; refine (vF_g rfl rfl).trans ?_; exact rfl) | (refine (vF_g rfl rfl).trans ?_; refine (vF_g rfl rfl).trans ?_; refine (vF_g rfl rfl).trans ?_; exact rfl) | (refine (vF_g rfl rfl).trans ?_; exact rfl))
  · rw [if_neg h]
    (first | (refine (vge2 (x := i) (y := f 452 16) hi (by omega)).trans ?_) | (refine (vF_g rfl rfl).trans ?_; refine (vF_g rfl rfl).trans ?_; refine (vge2 (x := i) (y := f 452 16) hi (by omega)).trans ?_) | (refine (vF_g rfl rfl).trans ?_; refine (vge2 (x := i) (y := f 452 16) hi (by omega)).trans ?_))
    (first | (exact rfl) | (refine (vF_g rfl rfl).trans ?_; refine (vF_g rfl rfl).trans ?_; exact rfl) | (refine (vF_g rfl rfl).trans ?_; refine (vF_g rfl rfl).trans ?_; refine (vF_g rfl rfl).trans ?_; exact rfl) | (refine (vF_g rfl rfl).trans ?_; exact rfl))
theorem btR_up {f : Vw} {j x i : Nat} (hj : j ≠ 16) : btR (vup f 452 j x) i = btR f i := by
  unfold btR
  rw [vup_ne (Or.inr (Ne.symm hj)), vup_ne (Or.inl (by decide))]
theorem kd9_1 {x : Nat} : kd9 x = 1 ↔ 97 ≤ x ∧ x ≤ 122 := by
  unfold kd9
  by_cases h : 97 ≤ x ∧ x ≤ 122
  · rw [if_pos h]
    exact ⟨fun _ => h, fun _ => rfl⟩
  · rw [if_neg h]
    refine ⟨fun q => ?_, fun q => absurd q h⟩
    split at q
    · cases q
    · split at q
      · cases q
      · split at q
        · cases q
        · split at q <;> cases q
theorem kd9_2 {x : Nat} : kd9 x = 2 ↔ 48 ≤ x ∧ x ≤ 57 := by
  unfold kd9
  by_cases h : 97 ≤ x ∧ x ≤ 122
  · rw [if_pos h]
    exact ⟨fun q => (by cases q), fun q => (by omega)⟩
  · rw [if_neg h]
    by_cases h2 : 48 ≤ x ∧ x ≤ 57
    · rw [if_pos h2]
      exact ⟨fun _ => h2, fun _ => rfl⟩
    · rw [if_neg h2]
      refine ⟨fun q => ?_, fun q => absurd q h2⟩
      split at q
      · cases q
      · split at q
        · cases q
        · split at q <;> cases q
/-- the text, its length: what is read of it -/
def TxR (f : Vw) (n : Nat) (T : Nat → Nat) : Prop := n ≤ 900 ∧ f 452 16 = n ∧ (∀ i, btR f i = T i) ∧ (∀ i, T i < 256 ∨ T i = 4294967295) ∧ ∀ i, n ≤ i → T i = 4294967295
theorem txR_up {f : Vw} {n : Nat} {T : Nat → Nat} {j x : Nat} (hj : j ≠ 16) (h : TxR f n T) : TxR (vup f 452 j x) n T := ⟨h.1, by rw [vup_ne (Or.inr (Ne.symm hj))]; exact h.2.1, fun i => by rw [btR_up hj]; exact h.2.2.1 i, h.2.2.2.1, h.2.2.2.2⟩
theorem nr_skip {D n : Nat} {T : Nat → Nat} : ∀ (m p c F : Nat) (g : Vw), c + 2 * m + 2 ≤ F → TxR g n T → g 452 17 = p → p ≤ n → n - p ≤ m → ∃ c', c ≤ c' ∧ vFn (vM MT0 (D + 1)) nb_X11_next F 0 0 [vR 452] [] g = vFn (vM MT0 (D + 1)) nb_X11_next c' 2 0 [vR 452] [] (vup g 452 17 (sk T m p)) := by
  have out : ∀ (p F : Nat) (g : Vw), TxR g n T → g 452 17 = p → p ≤ n → T p ≠ 32 → vFn (vM MT0 (D + 1)) nb_X11_next (F + 1) 0 0 [vR 452] [] g = vFn (vM MT0 (D + 1)) nb_X11_next F 2 0 [vR 452] [] g := by
    intro p F g hx h1 h2 h3
    have hb : btR g (g 452 17) = T p := by rw [h1, hx.2.2.1]
    have hl := hx.2.2.2.1 p
    (first | (refine (vbnd_0 (v_byteR (i := g 452 17) (f := g) (by rw [h1]; have := hx.1; omega) (by rw [hx.2.1]; exact hx.1))).trans ?_) | (refine (vF_g rfl rfl).trans ?_; refine (vF_g rfl rfl).trans ?_; refine (vbnd_0 (v_byteR (i := g 452 17) (f := g) (by rw [h1]; have := hx.1; omega) (by rw [hx.2.1]; exact hx.1))).trans ?_) | (refine (vF_g rfl rfl).trans ?_; refine (vbnd_0 (v_byteR (i := g 452 17) (f := g) (by rw [h1]; have := hx.1; omega) (by rw [hx.2.1]; exact hx.1))).trans ?_))
    (first | (exact vne (x := btR g (g 452 17)) (y := 32) (by rw [hb]; omega) (by decide) (by rw [hb]; exact h3)) | (refine (vF_g rfl rfl).trans ?_; refine (vF_g rfl rfl).trans ?_; exact vne (x := btR g (g 452 17)) (y := 32) (by rw [hb]; omega) (by decide) (by rw [hb]; exact h3)) | (refine (vF_g rfl rfl).trans ?_; exact vne (x := btR g (g 452 17)) (y := 32) (by rw [hb]; omega) (by decide) (by rw [hb]; exact h3)))
  intro m
  induction m with
  | zero =>
    intro p c F g hF hx h1 h2 h3
    obtain ⟨F1, rfl⟩ : ∃ F1, F = F1 + 1 := ⟨F - 1, by omega⟩
    refine ⟨F1, by omega, ?_⟩
    rw [show sk T 0 p = p from rfl, vup_id h1]
    exact out p F1 g hx h1 h2 (by rw [hx.2.2.2.2 p (by omega)]; decide)
  | succ m ih =>
    intro p c F g hF hx h1 h2 h3
    by_cases q : T p = 32
    · have hp : p < n := Nat.lt_of_not_le fun w => by
        rw [hx.2.2.2.2 p w] at q
        omega
      obtain ⟨F1, rfl⟩ : ∃ F1, F = F1 + 2 := ⟨F - 2, by omega⟩
      obtain ⟨c', k1, k2⟩ := ih (p + 1) c F1 (vup g 452 17 (p + 1)) (by omega) (txR_up (by decide) hx) vup_eq (by omega) (by omega)
      refine ⟨c', k1, ?_⟩
      have hb : btR g (g 452 17) = T p := by rw [h1, hx.2.2.1]
      have hn := hx.1
      (first | (refine (vbnd_0 (v_byteR (i := g 452 17) (f := g) (by rw [h1]; omega) (by rw [hx.2.1]; exact hx.1))).trans ?_) | (refine (vF_g rfl rfl).trans ?_; refine (vF_g rfl rfl).trans ?_; refine (vbnd_0 (v_byteR (i := g 452 17) (f := g) (by rw [h1]; omega) (by rw [hx.2.1]; exact hx.1))).trans ?_) | (refine (vF_g rfl rfl).trans ?_; refine (vbnd_0 (v_byteR (i := g 452 17) (f := g) (by rw [h1]; omega) (by rw [hx.2.1]; exact hx.1))).trans ?_))
      (first | (refine (veq (x := btR g (g 452 17)) (y := 32) (by rw [hb]; exact q)).trans ?_) | (refine (vF_g rfl rfl).trans ?_; refine (vF_g rfl rfl).trans ?_; refine (veq (x := btR g (g 452 17)) (y := 32) (by rw [hb]; exact q)).trans ?_) | (refine (vF_g rfl rfl).trans ?_; refine (veq (x := btR g (g 452 17)) (y := 32) (by rw [hb]; exact q)).trans ?_))
      (first | (refine Eq.trans (b := vFn (vM MT0 (D + 1)) nb_X11_next F1 0 0 [vR 452] [] (vup g 452 17 ((g 452 17 + 1) % 4294967296))) rfl ?_) | (refine (vF_g rfl rfl).trans ?_; refine (vF_g rfl rfl).trans ?_; refine Eq.trans (b := vFn (vM MT0 (D + 1)) nb_X11_next F1 0 0 [vR 452] [] (vup g 452 17 ((g 452 17 + 1) % 4294967296))) rfl ?_) | (refine (vF_g rfl rfl).trans ?_; refine Eq.trans (b := vFn (vM MT0 (D + 1)) nb_X11_next F1 0 0 [vR 452] [] (vup g 452 17 ((g 452 17 + 1) % 4294967296))) rfl ?_))
      rw [h1, Nat.mod_eq_of_lt (show p + 1 < 4294967296 by omega), k2, vup_vup, show sk T (m + 1) p = sk T m (p + 1) from if_pos q]
    · obtain ⟨F1, rfl⟩ : ∃ F1, F = F1 + 1 := ⟨F - 1, by omega⟩
      refine ⟨F1, by omega, ?_⟩
      rw [show sk T (m + 1) p = p from if_neg q, vup_id h1]
      exact out p F1 g hx h1 h2 q
theorem nr_word {D n s : Nat} {T : Nat → Nat} : ∀ (m q c F : Nat) (g : Vw), c + 2 * m + 2 ≤ F → TxR g n T → g 452 18 = s → g 452 19 = q - s → s ≤ q → q ≤ n → n - q ≤ m → ∃ c', c ≤ c' ∧ vFn (vM MT0 (D + 1)) nb_X11_next F 3 0 [vR 452] [] g = vFn (vM MT0 (D + 1)) nb_X11_next c' 5 0 [vR 452] [] (vup g 452 19 (rn T 1 m q - s)) := by
  have rd : ∀ (q : Nat) (g : Vw), TxR g n T → g 452 18 = s → g 452 19 = q - s → s ≤ q → q ≤ n → (g 452 18 + g 452 19) % 4294967296 = q ∧ btR g ((g 452 18 + g 452 19) % 4294967296) = T q := by
    intro q g hx h1 h2 h3 h4
    have hn := hx.1
    have e : (g 452 18 + g 452 19) % 4294967296 = q := by rw [h1, h2, Nat.mod_eq_of_lt (by omega)]; omega
    exact ⟨e, by rw [e, hx.2.2.1]⟩
  have out : ∀ (q F : Nat) (g : Vw), TxR g n T → g 452 18 = s → g 452 19 = q - s → s ≤ q → q ≤ n → kd9 (T q) ≠ 1 → vFn (vM MT0 (D + 1)) nb_X11_next (F + 1) 3 0 [vR 452] [] g = vFn (vM MT0 (D + 1)) nb_X11_next F 5 0 [vR 452] [] g := by
    intro q F g hx h1 h2 h3 h4 h5
    obtain ⟨r1, r2⟩ := rd q g hx h1 h2 h3 h4
    have hn := hx.1
    (first | (refine (vbnd_0 (v_byteR (i := (g 452 18 + g 452 19) % 4294967296) (f := g) (by rw [r1]; omega) (by rw [hx.2.1]; exact hx.1))).trans ?_) | (refine (vF_g rfl rfl).trans ?_; refine (vF_g rfl rfl).trans ?_; refine (vbnd_0 (v_byteR (i := (g 452 18 + g 452 19) % 4294967296) (f := g) (by rw [r1]; omega) (by rw [hx.2.1]; exact hx.1))).trans ?_) | (refine (vF_g rfl rfl).trans ?_; refine (vbnd_0 (v_byteR (i := (g 452 18 + g 452 19) % 4294967296) (f := g) (by rw [r1]; omega) (by rw [hx.2.1]; exact hx.1))).trans ?_))
    (first | (refine (vbnd_0 (v_in (x := toNL (nI (btR g ((g 452 18 + g 452 19) % 4294967296))).toInt64) (a := 97) (b := 122) (f := g))).trans ?_) | (refine (vF_g rfl rfl).trans ?_; refine (vF_g rfl rfl).trans ?_; refine (vbnd_0 (v_in (x := toNL (nI (btR g ((g 452 18 + g 452 19) % 4294967296))).toInt64) (a := 97) (b := 122) (f := g))).trans ?_) | (refine (vF_g rfl rfl).trans ?_; refine (vbnd_0 (v_in (x := toNL (nI (btR g ((g 452 18 + g 452 19) % 4294967296))).toInt64) (a := 97) (b := 122) (f := g))).trans ?_))
    rw [r2, if_neg (fun w => h5 (kd9_1.mpr ((in_9 (hx.2.2.2.1 q) (by decide) (by decide)).mp w)))]
    (first | (exact veq (x := 0) (y := 0) rfl) | (refine (vF_g rfl rfl).trans ?_; refine (vF_g rfl rfl).trans ?_; exact veq (x := 0) (y := 0) rfl) | (refine (vF_g rfl rfl).trans ?_; exact veq (x := 0) (y := 0) rfl))
  intro m
  induction m with
  | zero =>
    intro q c F g hF hx h1 h2 h3 h4 h5
    obtain ⟨F1, rfl⟩ : ∃ F1, F = F1 + 1 := ⟨F - 1, by omega⟩
    refine ⟨F1, by omega, ?_⟩
    rw [show rn T 1 0 q = q from rfl, vup_id h2]
    exact out q F1 g hx h1 h2 h3 h4 (by rw [hx.2.2.2.2 q (by omega)]; decide)
  | succ m ih =>
    intro q c F g hF hx h1 h2 h3 h4 h5
    by_cases w : kd9 (T q) = 1
    · have hq : q < n := Nat.lt_of_not_le fun x => by
        rw [hx.2.2.2.2 q x] at w
        exact absurd w (by decide)
      have hn := hx.1
      obtain ⟨F1, rfl⟩ : ∃ F1, F = F1 + 2 := ⟨F - 2, by omega⟩
      obtain ⟨c', k1, k2⟩ := ih (q + 1) c F1 (vup g 452 19 (q + 1 - s)) (by omega) (txR_up (by decide) hx) (by rw [vup_ne (Or.inr (by decide))]; exact h1) vup_eq (by omega) (by omega) (by omega)
      refine ⟨c', k1, ?_⟩
      obtain ⟨r1, r2⟩ := rd q g hx h1 h2 h3 h4
      (first | (refine (vbnd_0 (v_byteR (i := (g 452 18 + g 452 19) % 4294967296) (f := g) (by rw [r1]; omega) (by rw [hx.2.1]; exact hx.1))).trans ?_) | (refine (vF_g rfl rfl).trans ?_; refine (vF_g rfl rfl).trans ?_; refine (vbnd_0 (v_byteR (i := (g 452 18 + g 452 19) % 4294967296) (f := g) (by rw [r1]; omega) (by rw [hx.2.1]; exact hx.1))).trans ?_) | (refine (vF_g rfl rfl).trans ?_; refine (vbnd_0 (v_byteR (i := (g 452 18 + g 452 19) % 4294967296) (f := g) (by rw [r1]; omega) (by rw [hx.2.1]; exact hx.1))).trans ?_))
      (first | (refine (vbnd_0 (v_in (x := toNL (nI (btR g ((g 452 18 + g 452 19) % 4294967296))).toInt64) (a := 97) (b := 122) (f := g))).trans ?_) | (refine (vF_g rfl rfl).trans ?_; refine (vF_g rfl rfl).trans ?_; refine (vbnd_0 (v_in (x := toNL (nI (btR g ((g 452 18 + g 452 19) % 4294967296))).toInt64) (a := 97) (b := 122) (f := g))).trans ?_) | (refine (vF_g rfl rfl).trans ?_; refine (vbnd_0 (v_in (x := toNL (nI (btR g ((g 452 18 + g 452 19) % 4294967296))).toInt64) (a := 97) (b := 122) (f := g))).trans ?_))
      rw [r2, if_pos ((in_9 (hx.2.2.2.1 q) (by decide) (by decide)).mpr (kd9_1.mp w))]
      (first | (refine (vgt (x := 1) (y := 0) (by decide) (by decide)).trans ?_) | (refine (vF_g rfl rfl).trans ?_; refine (vF_g rfl rfl).trans ?_; refine (vgt (x := 1) (y := 0) (by decide) (by decide)).trans ?_) | (refine (vF_g rfl rfl).trans ?_; refine (vgt (x := 1) (y := 0) (by decide) (by decide)).trans ?_))
      (first | (refine Eq.trans (b := vFn (vM MT0 (D + 1)) nb_X11_next F1 3 0 [vR 452] [] (vup g 452 19 ((g 452 19 + 1) % 4294967296))) rfl ?_) | (refine (vF_g rfl rfl).trans ?_; refine (vF_g rfl rfl).trans ?_; refine Eq.trans (b := vFn (vM MT0 (D + 1)) nb_X11_next F1 3 0 [vR 452] [] (vup g 452 19 ((g 452 19 + 1) % 4294967296))) rfl ?_) | (refine (vF_g rfl rfl).trans ?_; refine Eq.trans (b := vFn (vM MT0 (D + 1)) nb_X11_next F1 3 0 [vR 452] [] (vup g 452 19 ((g 452 19 + 1) % 4294967296))) rfl ?_))
      rw [h2, Nat.mod_eq_of_lt (show q - s + 1 < 4294967296 by omega), show q - s + 1 = q + 1 - s by omega, k2, vup_vup, show rn T 1 (m + 1) q = rn T 1 m (q + 1) from if_pos w]
    · obtain ⟨F1, rfl⟩ : ∃ F1, F = F1 + 1 := ⟨F - 1, by omega⟩
      refine ⟨F1, by omega, ?_⟩
      rw [show rn T 1 (m + 1) q = q from if_neg w, vup_id h2]
      exact out q F1 g hx h1 h2 h3 h4 w
/-- how long the word is that begins there -/
def tZ (T : Nat → Nat) (p : Nat) : Nat := rn T 1 901 (tS T p) - tS T p
noncomputable def rkv (f : Vw) (T : Nat → Nat) (p : Nat) : Vw := vup (vup (vup f 452 17 (tS T p)) 452 18 (tS T p)) 452 19 (tZ T p)
theorem v_nextR {D n p : Nat} {T : Nat → Nat} {f : Vw} (hx : TxR f n T) (h1 : f 452 17 = p) (hp : p ≤ n) : vM MT0 (D + 2) 229 [vR 452] f = some ((0, 0), vI (T (tS T p)), rkv f T p) := by
  have hn := hx.1
  obtain ⟨hs1, hs2⟩ := sk_le hx.2.2.2.2 901 p hp
  refine vM_go rfl rfl rfl rfl fun F0 hF0 => ?_
  show vFn (vM MT0 (D + 1)) nb_X11_next (F0 + 60) 0 0 [vR 452] [] f = _
  obtain ⟨c, c1, c2⟩ := nr_skip (D := D) 901 p 900000 (F0 + 60) f (by omega) hx h1 hp (by omega)
  rw [c2]
  have hS : tS T p = sk T 901 p := rfl
  rw [← hS] at hs1 hs2 ⊢
  obtain ⟨F, rfl⟩ : ∃ F, c = F + 1 := ⟨c - 1, by omega⟩
  have e2 : vFn (vM MT0 (D + 1)) nb_X11_next (F + 1) 2 0 [vR 452] [] (vup f 452 17 (tS T p)) = vFn (vM MT0 (D + 1)) nb_X11_next F 3 0 [vR 452] [] (vup (vup (vup f 452 17 (tS T p)) 452 18 (vup f 452 17 (tS T p) 452 17)) 452 19 0) := (by (first | (exact rfl) | (refine (vF_g rfl rfl).trans ?_; refine (vF_g rfl rfl).trans ?_; exact rfl) | (refine (vF_g rfl rfl).trans ?_; refine (vF_g rfl rfl).trans ?_; refine (vF_g rfl rfl).trans ?_; exact rfl) | (refine (vF_g rfl rfl).trans ?_; exact rfl)))
  rw [e2, vup_eq]
  obtain ⟨c', k1, k2⟩ := nr_word (D := D) (s := tS T p) 901 (tS T p) 1 F (vup (vup (vup f 452 17 (tS T p)) 452 18 (tS T p)) 452 19 0) (by omega) (txR_up (by decide) (txR_up (by decide) (txR_up (by decide) hx))) (by rw [vup_ne (Or.inr (by decide)), vup_eq]) (by rw [vup_eq]; omega) (Nat.le_refl _) hs2 (by omega)
  rw [k2, vup_vup]
  obtain ⟨F2, rfl⟩ : ∃ F2, c' = F2 + 1 := ⟨c' - 1, by omega⟩
  have hr : rkv f T p = vup (vup (vup f 452 17 (tS T p)) 452 18 (tS T p)) 452 19 (rn T 1 901 (tS T p) - tS T p) := rfl
  rw [← hr]
  have h17 : rkv f T p 452 17 = tS T p := by rw [hr, vup_ne (Or.inr (by decide)), vup_ne (Or.inr (by decide)), vup_eq]
  have hx' : TxR (rkv f T p) n T := by
    rw [hr]
    exact txR_up (by decide) (txR_up (by decide) (txR_up (by decide) hx))
  (first | (refine (vbnd_0 (v_byteR (i := rkv f T p 452 17) (f := rkv f T p) (by rw [h17]; omega) (by rw [hx'.2.1]; exact hn))).trans ?_) | (refine (vF_g rfl rfl).trans ?_; refine (vF_g rfl rfl).trans ?_; refine (vbnd_0 (v_byteR (i := rkv f T p 452 17) (f := rkv f T p) (by rw [h17]; omega) (by rw [hx'.2.1]; exact hn))).trans ?_) | (refine (vF_g rfl rfl).trans ?_; refine (vbnd_0 (v_byteR (i := rkv f T p 452 17) (f := rkv f T p) (by rw [h17]; omega) (by rw [hx'.2.1]; exact hn))).trans ?_))
  rw [h17, hx'.2.2.1]
  (first | (exact rfl) | (refine (vF_g rfl rfl).trans ?_; refine (vF_g rfl rfl).trans ?_; exact rfl) | (refine (vF_g rfl rfl).trans ?_; refine (vF_g rfl rfl).trans ?_; refine (vF_g rfl rfl).trans ?_; exact rfl) | (refine (vF_g rfl rfl).trans ?_; exact rfl))
