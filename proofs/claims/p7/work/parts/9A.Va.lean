/-! the reference's takers of tokens -/
noncomputable def flR (c : Nat) (f : Vw) : Vw := vup (vup f 452 20 c) 452 21 (f 452 18)
theorem v_must {D is c : Nat} {f : Vw} (his : is = 0 ∨ is = 1) (he : f 452 20 < 4294967296) : vM MT0 (D + 1) 230 [vR 452, vI is, vI c] f = some ((1, 0), vW 3, if is = 0 ∧ f 452 20 = 0 then flR c f else f) := by
  refine vM_go rfl rfl rfl rfl fun F hF => ?_
  rcases his with h | h
  · subst h
    by_cases q : f 452 20 = 0
    · rw [if_pos ⟨rfl, q⟩]
      have e : vup f 452 20 c 452 18 = f 452 18 := vup_ne (Or.inr (by decide))
      unfold flR
      rw [← e]
      (first | (refine (veq (x := 0) (y := 0) rfl).trans ?_) | (refine (vF_g rfl rfl).trans ?_; refine (vF_g rfl rfl).trans ?_; refine (veq (x := 0) (y := 0) rfl).trans ?_) | (refine (vF_g rfl rfl).trans ?_; refine (veq (x := 0) (y := 0) rfl).trans ?_))
      (first | (refine (veq q).trans ?_) | (refine (vF_g rfl rfl).trans ?_; refine (vF_g rfl rfl).trans ?_; refine (veq q).trans ?_) | (refine (vF_g rfl rfl).trans ?_; refine (veq q).trans ?_))
      (first | (exact rfl) | (refine (vF_g rfl rfl).trans ?_; refine (vF_g rfl rfl).trans ?_; exact rfl) | (refine (vF_g rfl rfl).trans ?_; refine (vF_g rfl rfl).trans ?_; refine (vF_g rfl rfl).trans ?_; exact rfl) | (refine (vF_g rfl rfl).trans ?_; exact rfl))
    · rw [if_neg (fun w => q w.2)]
      (first | (refine (veq (x := 0) (y := 0) rfl).trans ?_) | (refine (vF_g rfl rfl).trans ?_; refine (vF_g rfl rfl).trans ?_; refine (veq (x := 0) (y := 0) rfl).trans ?_) | (refine (vF_g rfl rfl).trans ?_; refine (veq (x := 0) (y := 0) rfl).trans ?_))
      (first | (refine (vne (x := f 452 20) (y := 0) he (by decide) q).trans ?_) | (refine (vF_g rfl rfl).trans ?_; refine (vF_g rfl rfl).trans ?_; refine (vne (x := f 452 20) (y := 0) he (by decide) q).trans ?_) | (refine (vF_g rfl rfl).trans ?_; refine (vne (x := f 452 20) (y := 0) he (by decide) q).trans ?_))
      (first | (exact rfl) | (refine (vF_g rfl rfl).trans ?_; refine (vF_g rfl rfl).trans ?_; exact rfl) | (refine (vF_g rfl rfl).trans ?_; refine (vF_g rfl rfl).trans ?_; refine (vF_g rfl rfl).trans ?_; exact rfl) | (refine (vF_g rfl rfl).trans ?_; exact rfl))
  · subst h
    rw [if_neg (fun w => by cases w.1)]
    (first | (refine (vgt (x := 1) (y := 0) (by decide) (by decide)).trans ?_) | (refine (vF_g rfl rfl).trans ?_; refine (vF_g rfl rfl).trans ?_; refine (vgt (x := 1) (y := 0) (by decide) (by decide)).trans ?_) | (refine (vF_g rfl rfl).trans ?_; refine (vgt (x := 1) (y := 0) (by decide) (by decide)).trans ?_))
    (first | (exact rfl) | (refine (vF_g rfl rfl).trans ?_; refine (vF_g rfl rfl).trans ?_; exact rfl) | (refine (vF_g rfl rfl).trans ?_; refine (vF_g rfl rfl).trans ?_; refine (vF_g rfl rfl).trans ?_; exact rfl) | (refine (vF_g rfl rfl).trans ?_; exact rfl))
theorem v_goesPast {D : Nat} {f : Vw} : vM MT0 (D + 1) 232 [vR 452] f = some ((1, 0), vW 3, vup f 452 17 ((f 452 18 + f 452 19) % 4294967296)) := vM_go rfl rfl rfl rfl fun F hF => (by (first | (exact rfl) | (refine (vF_g rfl rfl).trans ?_; refine (vF_g rfl rfl).trans ?_; exact rfl) | (refine (vF_g rfl rfl).trans ?_; refine (vF_g rfl rfl).trans ?_; refine (vF_g rfl rfl).trans ?_; exact rfl) | (refine (vF_g rfl rfl).trans ?_; exact rfl)))
/-- the word stands there -/
def wOK (T : Nat → Nat) (w p : Nat) : Prop := tZ T p = (wrd w).length ∧ wq T (wrd w) (tS T p) = true
theorem rkv_17 {f : Vw} {T : Nat → Nat} {p : Nat} : rkv f T p 452 17 = tS T p := by
  unfold rkv
  rw [vup_ne (Or.inr (by decide)), vup_ne (Or.inr (by decide)), vup_eq]
theorem rkv_18 {f : Vw} {T : Nat → Nat} {p : Nat} : rkv f T p 452 18 = tS T p := by
  unfold rkv
  rw [vup_ne (Or.inr (by decide)), vup_eq]
theorem rkv_19 {f : Vw} {T : Nat → Nat} {p : Nat} : rkv f T p 452 19 = tZ T p := vup_eq
theorem rkv_o {f : Vw} {T : Nat → Nat} {p k i : Nat} (h : k ≠ 452 ∨ (i ≠ 17 ∧ i ≠ 18 ∧ i ≠ 19)) : rkv f T p k i = f k i := by
  unfold rkv
  rcases h with h | ⟨h1, h2, h3⟩
  · rw [vup_ne (Or.inl h), vup_ne (Or.inl h), vup_ne (Or.inl h)]
  · rw [vup_ne (Or.inr h3), vup_ne (Or.inr h2), vup_ne (Or.inr h1)]
theorem txR_rkv {f : Vw} {n p : Nat} {T : Nat → Nat} (h : TxR f n T) : TxR (rkv f T p) n T := txR_up (by decide) (txR_up (by decide) (txR_up (by decide) h))
theorem tZ_le {T : Nat → Nat} {n p : Nat} (hT0 : ∀ i, n ≤ i → T i = 4294967295) (hp : p ≤ n) : tS T p + tZ T p ≤ n := by
  obtain ⟨h1, h2⟩ := sk_le hT0 901 p hp
  obtain ⟨h3, h4⟩ := rn_le (k := 1) (by decide) hT0 901 (sk T 901 p) h2
  unfold tZ tS
  omega
theorem se_loop_20 {D n s x2 : Nat} {T : Nat → Nat} {f : Vw} (hx : TxR f n T) (hs : f 452 18 = s) (hz : f 452 19 = (wrd 20).length) (hs9 : s ≤ 900) : ∀ (m i F : Nat), i + m = (wrd 20).length → 3 * m + 3 ≤ F → vFn (vM MT0 (D + 1)) nb_X11_sees F 4 0 [vR 452, vW 20, vI x2, vI i] [] f = some ((0, 0), vI (if wq T ((wrd 20).drop i) (s + i) = true then 1 else 0), f) := by
  have hl := wrd_len 20
  intro m
  induction m with
  | zero =>
    intro i F hi hF
    obtain ⟨F1, rfl⟩ : ∃ F1, F = F1 + 2 := ⟨F - 2, by omega⟩
    rw [List.drop_eq_nil_of_le (show (wrd 20).length ≤ i by omega), show wq T [] (s + i) = true from rfl, if_pos rfl]
    (first | (refine (vge2 (x := i) (y := f 452 19) (by omega) (by rw [hz]; omega)).trans ?_) | (refine (vF_g rfl rfl).trans ?_; refine (vF_g rfl rfl).trans ?_; refine (vge2 (x := i) (y := f 452 19) (by omega) (by rw [hz]; omega)).trans ?_) | (refine (vF_g rfl rfl).trans ?_; refine (vge2 (x := i) (y := f 452 19) (by omega) (by rw [hz]; omega)).trans ?_))
    (first | (exact rfl) | (refine (vF_g rfl rfl).trans ?_; refine (vF_g rfl rfl).trans ?_; exact rfl) | (refine (vF_g rfl rfl).trans ?_; refine (vF_g rfl rfl).trans ?_; refine (vF_g rfl rfl).trans ?_; exact rfl) | (refine (vF_g rfl rfl).trans ?_; exact rfl))
  | succ m ih =>
    intro i F hi hF
    obtain ⟨F1, rfl⟩ : ∃ F1, F = F1 + 3 := ⟨F - 3, by omega⟩
    have hq : (f 452 18 + i) % 4294967296 = s + i := by rw [hs, Nat.mod_eq_of_lt (by omega)]
    rw [nthN_drop (wrd 20) i (by omega)]
    (first | (refine (vlt (x := i) (y := f 452 19) (by rw [hz]; omega) (by rw [hz]; omega)).trans ?_) | (refine (vF_g rfl rfl).trans ?_; refine (vF_g rfl rfl).trans ?_; refine (vlt (x := i) (y := f 452 19) (by rw [hz]; omega) (by rw [hz]; omega)).trans ?_) | (refine (vF_g rfl rfl).trans ?_; refine (vlt (x := i) (y := f 452 19) (by rw [hz]; omega) (by rw [hz]; omega)).trans ?_))
    (first | (refine (vbnd_0 (v_byteR (i := (f 452 18 + i) % 4294967296) (f := f) (by rw [hq]; omega) (by rw [hx.2.1]; exact hx.1))).trans ?_) | (refine (vF_g rfl rfl).trans ?_; refine (vF_g rfl rfl).trans ?_; refine (vbnd_0 (v_byteR (i := (f 452 18 + i) % 4294967296) (f := f) (by rw [hq]; omega) (by rw [hx.2.1]; exact hx.1))).trans ?_) | (refine (vF_g rfl rfl).trans ?_; refine (vbnd_0 (v_byteR (i := (f 452 18 + i) % 4294967296) (f := f) (by rw [hq]; omega) (by rw [hx.2.1]; exact hx.1))).trans ?_))
    (first | (refine (vbnd_0 (v_chr (i := i) (by decide) (by decide) (by omega))).trans ?_) | (refine (vF_g rfl rfl).trans ?_; refine (vF_g rfl rfl).trans ?_; refine (vbnd_0 (v_chr (i := i) (by decide) (by decide) (by omega))).trans ?_) | (refine (vF_g rfl rfl).trans ?_; refine (vbnd_0 (v_chr (i := i) (by decide) (by decide) (by omega))).trans ?_))
    rw [hq, hx.2.2.1]
    have hl9 := hx.2.2.2.1 (s + i)
    by_cases q : T (s + i) = nthN (wrd 20) 0 i
    · rw [show wq T (nthN (wrd 20) 0 i :: (wrd 20).drop (i + 1)) (s + i) = wq T ((wrd 20).drop (i + 1)) (s + i + 1) from if_pos q]
      (first | (refine (veq q).trans ?_) | (refine (vF_g rfl rfl).trans ?_; refine (vF_g rfl rfl).trans ?_; refine (veq q).trans ?_) | (refine (vF_g rfl rfl).trans ?_; refine (veq q).trans ?_))
      (first | (refine Eq.trans (b := vFn (vM MT0 (D + 1)) nb_X11_sees F1 4 0 [vR 452, vW 20, vI x2, vI ((i + 1) % 4294967296)] [] f) rfl ?_) | (refine (vF_g rfl rfl).trans ?_; refine (vF_g rfl rfl).trans ?_; refine Eq.trans (b := vFn (vM MT0 (D + 1)) nb_X11_sees F1 4 0 [vR 452, vW 20, vI x2, vI ((i + 1) % 4294967296)] [] f) rfl ?_) | (refine (vF_g rfl rfl).trans ?_; refine Eq.trans (b := vFn (vM MT0 (D + 1)) nb_X11_sees F1 4 0 [vR 452, vW 20, vI x2, vI ((i + 1) % 4294967296)] [] f) rfl ?_))
      rw [Nat.mod_eq_of_lt (show i + 1 < 4294967296 by omega)]
      exact ih (i + 1) F1 (by omega) (by omega)
    · rw [show wq T (nthN (wrd 20) 0 i :: (wrd 20).drop (i + 1)) (s + i) = false from if_neg q, if_neg (by decide)]
      (first | (refine (vne (x := T (s + i)) (y := nthN (wrd 20) 0 i) (by omega) (by have := wrd_lt 20 i; omega) q).trans ?_) | (refine (vF_g rfl rfl).trans ?_; refine (vF_g rfl rfl).trans ?_; refine (vne (x := T (s + i)) (y := nthN (wrd 20) 0 i) (by omega) (by have := wrd_lt 20 i; omega) q).trans ?_) | (refine (vF_g rfl rfl).trans ?_; refine (vne (x := T (s + i)) (y := nthN (wrd 20) 0 i) (by omega) (by have := wrd_lt 20 i; omega) q).trans ?_))
      (first | (exact rfl) | (refine (vF_g rfl rfl).trans ?_; refine (vF_g rfl rfl).trans ?_; exact rfl) | (refine (vF_g rfl rfl).trans ?_; refine (vF_g rfl rfl).trans ?_; refine (vF_g rfl rfl).trans ?_; exact rfl) | (refine (vF_g rfl rfl).trans ?_; exact rfl))
theorem v_sees_20 {D n p : Nat} {T : Nat → Nat} {f : Vw} (hx : TxR f n T) (hp9 : f 452 17 = p) (hp : p ≤ n) (he : f 452 20 = 0) : vM MT0 (D + 3) 231 [vR 452, vW 20] f = some ((0, 0), vI (if tZ T p = (wrd 20).length ∧ wq T (wrd 20) (tS T p) = true then 1 else 0), rkv f T p) := by
  have hl := wrd_len 20
  have hn := hx.1
  have hz := tZ_le (T := T) hx.2.2.2.2 hp
  have e20 : rkv f T p 452 20 = 0 := by rw [rkv_o (Or.inr (by decide))]; exact he
  refine vM_go rfl rfl rfl rfl fun F hF => ?_
  (first | (refine (vbnd_0 (v_nextR hx hp9 hp)).trans ?_) | (refine (vF_g rfl rfl).trans ?_; refine (vF_g rfl rfl).trans ?_; refine (vbnd_0 (v_nextR hx hp9 hp)).trans ?_) | (refine (vF_g rfl rfl).trans ?_; refine (vbnd_0 (v_nextR hx hp9 hp)).trans ?_))
  (first | (refine (veq e20).trans ?_) | (refine (vF_g rfl rfl).trans ?_; refine (vF_g rfl rfl).trans ?_; refine (veq e20).trans ?_) | (refine (vF_g rfl rfl).trans ?_; refine (veq e20).trans ?_))
  (first | (refine (vbnd_0 (v_len (by decide) (by decide))).trans ?_) | (refine (vF_g rfl rfl).trans ?_; refine (vF_g rfl rfl).trans ?_; refine (vbnd_0 (v_len (by decide) (by decide))).trans ?_) | (refine (vF_g rfl rfl).trans ?_; refine (vbnd_0 (v_len (by decide) (by decide))).trans ?_))
  by_cases c : tZ T p = (wrd 20).length
  · (first | (refine (veq (x := rkv f T p 452 19) (y := (wrd 20).length) (by rw [rkv_19]; exact c)).trans ?_) | (refine (vF_g rfl rfl).trans ?_; refine (vF_g rfl rfl).trans ?_; refine (veq (x := rkv f T p 452 19) (y := (wrd 20).length) (by rw [rkv_19]; exact c)).trans ?_) | (refine (vF_g rfl rfl).trans ?_; refine (veq (x := rkv f T p 452 19) (y := (wrd 20).length) (by rw [rkv_19]; exact c)).trans ?_))
    (first | (refine Eq.trans (b := vFn (vM MT0 (D + 2)) nb_X11_sees (F + 57) 4 0 [vR 452, vW 20, vI (T (tS T p)), vI 0] [] (rkv f T p)) rfl ?_) | (refine (vF_g rfl rfl).trans ?_; refine (vF_g rfl rfl).trans ?_; refine Eq.trans (b := vFn (vM MT0 (D + 2)) nb_X11_sees (F + 57) 4 0 [vR 452, vW 20, vI (T (tS T p)), vI 0] [] (rkv f T p)) rfl ?_) | (refine (vF_g rfl rfl).trans ?_; refine Eq.trans (b := vFn (vM MT0 (D + 2)) nb_X11_sees (F + 57) 4 0 [vR 452, vW 20, vI (T (tS T p)), vI 0] [] (rkv f T p)) rfl ?_))
    rw [se_loop_20 (txR_rkv hx) rkv_18 (by rw [rkv_19]; exact c) (by omega) (wrd 20).length 0 (F + 57) (by omega) (by omega)]
    by_cases c3 : wq T (wrd 20) (tS T p) = true
    · rw [if_pos (show wq T ((wrd 20).drop 0) (tS T p + 0) = true from c3), if_pos ⟨c, c3⟩]
    · rw [if_neg (show ¬ wq T ((wrd 20).drop 0) (tS T p + 0) = true from c3), if_neg (fun q => c3 q.2)]
  · rw [if_neg (fun q => c q.1)]
    (first | (refine (vne (x := rkv f T p 452 19) (y := (wrd 20).length) (by rw [rkv_19]; omega) (by omega) (by rw [rkv_19]; exact c)).trans ?_) | (refine (vF_g rfl rfl).trans ?_; refine (vF_g rfl rfl).trans ?_; refine (vne (x := rkv f T p 452 19) (y := (wrd 20).length) (by rw [rkv_19]; omega) (by omega) (by rw [rkv_19]; exact c)).trans ?_) | (refine (vF_g rfl rfl).trans ?_; refine (vne (x := rkv f T p 452 19) (y := (wrd 20).length) (by rw [rkv_19]; omega) (by omega) (by rw [rkv_19]; exact c)).trans ?_))
    (first | (exact rfl) | (refine (vF_g rfl rfl).trans ?_; refine (vF_g rfl rfl).trans ?_; exact rfl) | (refine (vF_g rfl rfl).trans ?_; refine (vF_g rfl rfl).trans ?_; refine (vF_g rfl rfl).trans ?_; exact rfl) | (refine (vF_g rfl rfl).trans ?_; exact rfl))
theorem se_loop_21 {D n s x2 : Nat} {T : Nat → Nat} {f : Vw} (hx : TxR f n T) (hs : f 452 18 = s) (hz : f 452 19 = (wrd 21).length) (hs9 : s ≤ 900) : ∀ (m i F : Nat), i + m = (wrd 21).length → 3 * m + 3 ≤ F → vFn (vM MT0 (D + 1)) nb_X11_sees F 4 0 [vR 452, vW 21, vI x2, vI i] [] f = some ((0, 0), vI (if wq T ((wrd 21).drop i) (s + i) = true then 1 else 0), f) := by
  have hl := wrd_len 21
  intro m
  induction m with
  | zero =>
    intro i F hi hF
    obtain ⟨F1, rfl⟩ : ∃ F1, F = F1 + 2 := ⟨F - 2, by omega⟩
    rw [List.drop_eq_nil_of_le (show (wrd 21).length ≤ i by omega), show wq T [] (s + i) = true from rfl, if_pos rfl]
    (first | (refine (vge2 (x := i) (y := f 452 19) (by omega) (by rw [hz]; omega)).trans ?_) | (refine (vF_g rfl rfl).trans ?_; refine (vF_g rfl rfl).trans ?_; refine (vge2 (x := i) (y := f 452 19) (by omega) (by rw [hz]; omega)).trans ?_) | (refine (vF_g rfl rfl).trans ?_; refine (vge2 (x := i) (y := f 452 19) (by omega) (by rw [hz]; omega)).trans ?_))
    (first | (exact rfl) | (refine (vF_g rfl rfl).trans ?_; refine (vF_g rfl rfl).trans ?_; exact rfl) | (refine (vF_g rfl rfl).trans ?_; refine (vF_g rfl rfl).trans ?_; refine (vF_g rfl rfl).trans ?_; exact rfl) | (refine (vF_g rfl rfl).trans ?_; exact rfl))
  | succ m ih =>
    intro i F hi hF
    obtain ⟨F1, rfl⟩ : ∃ F1, F = F1 + 3 := ⟨F - 3, by omega⟩
    have hq : (f 452 18 + i) % 4294967296 = s + i := by rw [hs, Nat.mod_eq_of_lt (by omega)]
    rw [nthN_drop (wrd 21) i (by omega)]
    (first | (refine (vlt (x := i) (y := f 452 19) (by rw [hz]; omega) (by rw [hz]; omega)).trans ?_) | (refine (vF_g rfl rfl).trans ?_; refine (vF_g rfl rfl).trans ?_; refine (vlt (x := i) (y := f 452 19) (by rw [hz]; omega) (by rw [hz]; omega)).trans ?_) | (refine (vF_g rfl rfl).trans ?_; refine (vlt (x := i) (y := f 452 19) (by rw [hz]; omega) (by rw [hz]; omega)).trans ?_))
    (first | (refine (vbnd_0 (v_byteR (i := (f 452 18 + i) % 4294967296) (f := f) (by rw [hq]; omega) (by rw [hx.2.1]; exact hx.1))).trans ?_) | (refine (vF_g rfl rfl).trans ?_; refine (vF_g rfl rfl).trans ?_; refine (vbnd_0 (v_byteR (i := (f 452 18 + i) % 4294967296) (f := f) (by rw [hq]; omega) (by rw [hx.2.1]; exact hx.1))).trans ?_) | (refine (vF_g rfl rfl).trans ?_; refine (vbnd_0 (v_byteR (i := (f 452 18 + i) % 4294967296) (f := f) (by rw [hq]; omega) (by rw [hx.2.1]; exact hx.1))).trans ?_))
    (first | (refine (vbnd_0 (v_chr (i := i) (by decide) (by decide) (by omega))).trans ?_) | (refine (vF_g rfl rfl).trans ?_; refine (vF_g rfl rfl).trans ?_; refine (vbnd_0 (v_chr (i := i) (by decide) (by decide) (by omega))).trans ?_) | (refine (vF_g rfl rfl).trans ?_; refine (vbnd_0 (v_chr (i := i) (by decide) (by decide) (by omega))).trans ?_))
    rw [hq, hx.2.2.1]
    have hl9 := hx.2.2.2.1 (s + i)
    by_cases q : T (s + i) = nthN (wrd 21) 0 i
    · rw [show wq T (nthN (wrd 21) 0 i :: (wrd 21).drop (i + 1)) (s + i) = wq T ((wrd 21).drop (i + 1)) (s + i + 1) from if_pos q]
      (first | (refine (veq q).trans ?_) | (refine (vF_g rfl rfl).trans ?_; refine (vF_g rfl rfl).trans ?_; refine (veq q).trans ?_) | (refine (vF_g rfl rfl).trans ?_; refine (veq q).trans ?_))
      (first | (refine Eq.trans (b := vFn (vM MT0 (D + 1)) nb_X11_sees F1 4 0 [vR 452, vW 21, vI x2, vI ((i + 1) % 4294967296)] [] f) rfl ?_) | (refine (vF_g rfl rfl).trans ?_; refine (vF_g rfl rfl).trans ?_; refine Eq.trans (b := vFn (vM MT0 (D + 1)) nb_X11_sees F1 4 0 [vR 452, vW 21, vI x2, vI ((i + 1) % 4294967296)] [] f) rfl ?_) | (refine (vF_g rfl rfl).trans ?_; refine Eq.trans (b := vFn (vM MT0 (D + 1)) nb_X11_sees F1 4 0 [vR 452, vW 21, vI x2, vI ((i + 1) % 4294967296)] [] f) rfl ?_))
      rw [Nat.mod_eq_of_lt (show i + 1 < 4294967296 by omega)]
      exact ih (i + 1) F1 (by omega) (by omega)
    · rw [show wq T (nthN (wrd 21) 0 i :: (wrd 21).drop (i + 1)) (s + i) = false from if_neg q, if_neg (by decide)]
      (first | (refine (vne (x := T (s + i)) (y := nthN (wrd 21) 0 i) (by omega) (by have := wrd_lt 21 i; omega) q).trans ?_) | (refine (vF_g rfl rfl).trans ?_; refine (vF_g rfl rfl).trans ?_; refine (vne (x := T (s + i)) (y := nthN (wrd 21) 0 i) (by omega) (by have := wrd_lt 21 i; omega) q).trans ?_) | (refine (vF_g rfl rfl).trans ?_; refine (vne (x := T (s + i)) (y := nthN (wrd 21) 0 i) (by omega) (by have := wrd_lt 21 i; omega) q).trans ?_))
      (first | (exact rfl) | (refine (vF_g rfl rfl).trans ?_; refine (vF_g rfl rfl).trans ?_; exact rfl) | (refine (vF_g rfl rfl).trans ?_; refine (vF_g rfl rfl).trans ?_; refine (vF_g rfl rfl).trans ?_; exact rfl) | (refine (vF_g rfl rfl).trans ?_; exact rfl))
theorem v_sees_21 {D n p : Nat} {T : Nat → Nat} {f : Vw} (hx : TxR f n T) (hp9 : f 452 17 = p) (hp : p ≤ n) (he : f 452 20 = 0) : vM MT0 (D + 3) 231 [vR 452, vW 21] f = some ((0, 0), vI (if tZ T p = (wrd 21).length ∧ wq T (wrd 21) (tS T p) = true then 1 else 0), rkv f T p) := by
  have hl := wrd_len 21
  have hn := hx.1
  have hz := tZ_le (T := T) hx.2.2.2.2 hp
  have e20 : rkv f T p 452 20 = 0 := by rw [rkv_o (Or.inr (by decide))]; exact he
  refine vM_go rfl rfl rfl rfl fun F hF => ?_
  (first | (refine (vbnd_0 (v_nextR hx hp9 hp)).trans ?_) | (refine (vF_g rfl rfl).trans ?_; refine (vF_g rfl rfl).trans ?_; refine (vbnd_0 (v_nextR hx hp9 hp)).trans ?_) | (refine (vF_g rfl rfl).trans ?_; refine (vbnd_0 (v_nextR hx hp9 hp)).trans ?_))
  (first | (refine (veq e20).trans ?_) | (refine (vF_g rfl rfl).trans ?_; refine (vF_g rfl rfl).trans ?_; refine (veq e20).trans ?_) | (refine (vF_g rfl rfl).trans ?_; refine (veq e20).trans ?_))
  (first | (refine (vbnd_0 (v_len (by decide) (by decide))).trans ?_) | (refine (vF_g rfl rfl).trans ?_; refine (vF_g rfl rfl).trans ?_; refine (vbnd_0 (v_len (by decide) (by decide))).trans ?_) | (refine (vF_g rfl rfl).trans ?_; refine (vbnd_0 (v_len (by decide) (by decide))).trans ?_))
  by_cases c : tZ T p = (wrd 21).length
  · (first | (refine (veq (x := rkv f T p 452 19) (y := (wrd 21).length) (by rw [rkv_19]; exact c)).trans ?_) | (refine (vF_g rfl rfl).trans ?_; refine (vF_g rfl rfl).trans ?_; refine (veq (x := rkv f T p 452 19) (y := (wrd 21).length) (by rw [rkv_19]; exact c)).trans ?_) | (refine (vF_g rfl rfl).trans ?_; refine (veq (x := rkv f T p 452 19) (y := (wrd 21).length) (by rw [rkv_19]; exact c)).trans ?_))
    (first | (refine Eq.trans (b := vFn (vM MT0 (D + 2)) nb_X11_sees (F + 57) 4 0 [vR 452, vW 21, vI (T (tS T p)), vI 0] [] (rkv f T p)) rfl ?_) | (refine (vF_g rfl rfl).trans ?_; refine (vF_g rfl rfl).trans ?_; refine Eq.trans (b := vFn (vM MT0 (D + 2)) nb_X11_sees (F + 57) 4 0 [vR 452, vW 21, vI (T (tS T p)), vI 0] [] (rkv f T p)) rfl ?_) | (refine (vF_g rfl rfl).trans ?_; refine Eq.trans (b := vFn (vM MT0 (D + 2)) nb_X11_sees (F + 57) 4 0 [vR 452, vW 21, vI (T (tS T p)), vI 0] [] (rkv f T p)) rfl ?_))
    rw [se_loop_21 (txR_rkv hx) rkv_18 (by rw [rkv_19]; exact c) (by omega) (wrd 21).length 0 (F + 57) (by omega) (by omega)]
    by_cases c3 : wq T (wrd 21) (tS T p) = true
    · rw [if_pos (show wq T ((wrd 21).drop 0) (tS T p + 0) = true from c3), if_pos ⟨c, c3⟩]
    · rw [if_neg (show ¬ wq T ((wrd 21).drop 0) (tS T p + 0) = true from c3), if_neg (fun q => c3 q.2)]
  · rw [if_neg (fun q => c q.1)]
    (first | (refine (vne (x := rkv f T p 452 19) (y := (wrd 21).length) (by rw [rkv_19]; omega) (by omega) (by rw [rkv_19]; exact c)).trans ?_) | (refine (vF_g rfl rfl).trans ?_; refine (vF_g rfl rfl).trans ?_; refine (vne (x := rkv f T p 452 19) (y := (wrd 21).length) (by rw [rkv_19]; omega) (by omega) (by rw [rkv_19]; exact c)).trans ?_) | (refine (vF_g rfl rfl).trans ?_; refine (vne (x := rkv f T p 452 19) (y := (wrd 21).length) (by rw [rkv_19]; omega) (by omega) (by rw [rkv_19]; exact c)).trans ?_))
    (first | (exact rfl) | (refine (vF_g rfl rfl).trans ?_; refine (vF_g rfl rfl).trans ?_; exact rfl) | (refine (vF_g rfl rfl).trans ?_; refine (vF_g rfl rfl).trans ?_; refine (vF_g rfl rfl).trans ?_; exact rfl) | (refine (vF_g rfl rfl).trans ?_; exact rfl))
theorem se_loop_22 {D n s x2 : Nat} {T : Nat → Nat} {f : Vw} (hx : TxR f n T) (hs : f 452 18 = s) (hz : f 452 19 = (wrd 22).length) (hs9 : s ≤ 900) : ∀ (m i F : Nat), i + m = (wrd 22).length → 3 * m + 3 ≤ F → vFn (vM MT0 (D + 1)) nb_X11_sees F 4 0 [vR 452, vW 22, vI x2, vI i] [] f = some ((0, 0), vI (if wq T ((wrd 22).drop i) (s + i) = true then 1 else 0), f) := by
  have hl := wrd_len 22
  intro m
  induction m with
  | zero =>
    intro i F hi hF
    obtain ⟨F1, rfl⟩ : ∃ F1, F = F1 + 2 := ⟨F - 2, by omega⟩
    rw [List.drop_eq_nil_of_le (show (wrd 22).length ≤ i by omega), show wq T [] (s + i) = true from rfl, if_pos rfl]
    (first | (refine (vge2 (x := i) (y := f 452 19) (by omega) (by rw [hz]; omega)).trans ?_) | (refine (vF_g rfl rfl).trans ?_; refine (vF_g rfl rfl).trans ?_; refine (vge2 (x := i) (y := f 452 19) (by omega) (by rw [hz]; omega)).trans ?_) | (refine (vF_g rfl rfl).trans ?_; refine (vge2 (x := i) (y := f 452 19) (by omega) (by rw [hz]; omega)).trans ?_))
    (first | (exact rfl) | (refine (vF_g rfl rfl).trans ?_; refine (vF_g rfl rfl).trans ?_; exact rfl) | (refine (vF_g rfl rfl).trans ?_; refine (vF_g rfl rfl).trans ?_; refine (vF_g rfl rfl).trans ?_; exact rfl) | (refine (vF_g rfl rfl).trans ?_; exact rfl))
  | succ m ih =>
    intro i F hi hF
    obtain ⟨F1, rfl⟩ : ∃ F1, F = F1 + 3 := ⟨F - 3, by omega⟩
    have hq : (f 452 18 + i) % 4294967296 = s + i := by rw [hs, Nat.mod_eq_of_lt (by omega)]
    rw [nthN_drop (wrd 22) i (by omega)]
    (first | (refine (vlt (x := i) (y := f 452 19) (by rw [hz]; omega) (by rw [hz]; omega)).trans ?_) | (refine (vF_g rfl rfl).trans ?_; refine (vF_g rfl rfl).trans ?_; refine (vlt (x := i) (y := f 452 19) (by rw [hz]; omega) (by rw [hz]; omega)).trans ?_) | (refine (vF_g rfl rfl).trans ?_; refine (vlt (x := i) (y := f 452 19) (by rw [hz]; omega) (by rw [hz]; omega)).trans ?_))
    (first | (refine (vbnd_0 (v_byteR (i := (f 452 18 + i) % 4294967296) (f := f) (by rw [hq]; omega) (by rw [hx.2.1]; exact hx.1))).trans ?_) | (refine (vF_g rfl rfl).trans ?_; refine (vF_g rfl rfl).trans ?_; refine (vbnd_0 (v_byteR (i := (f 452 18 + i) % 4294967296) (f := f) (by rw [hq]; omega) (by rw [hx.2.1]; exact hx.1))).trans ?_) | (refine (vF_g rfl rfl).trans ?_; refine (vbnd_0 (v_byteR (i := (f 452 18 + i) % 4294967296) (f := f) (by rw [hq]; omega) (by rw [hx.2.1]; exact hx.1))).trans ?_))
    (first | (refine (vbnd_0 (v_chr (i := i) (by decide) (by decide) (by omega))).trans ?_) | (refine (vF_g rfl rfl).trans ?_; refine (vF_g rfl rfl).trans ?_; refine (vbnd_0 (v_chr (i := i) (by decide) (by decide) (by omega))).trans ?_) | (refine (vF_g rfl rfl).trans ?_; refine (vbnd_0 (v_chr (i := i) (by decide) (by decide) (by omega))).trans ?_))
    rw [hq, hx.2.2.1]
    have hl9 := hx.2.2.2.1 (s + i)
    by_cases q : T (s + i) = nthN (wrd 22) 0 i
    · rw [show wq T (nthN (wrd 22) 0 i :: (wrd 22).drop (i + 1)) (s + i) = wq T ((wrd 22).drop (i + 1)) (s + i + 1) from if_pos q]
      (first | (refine (veq q).trans ?_) | (refine (vF_g rfl rfl).trans ?_; refine (vF_g rfl rfl).trans ?_; refine (veq q).trans ?_) | (refine (vF_g rfl rfl).trans ?_; refine (veq q).trans ?_))
      (first | (refine Eq.trans (b := vFn (vM MT0 (D + 1)) nb_X11_sees F1 4 0 [vR 452, vW 22, vI x2, vI ((i + 1) % 4294967296)] [] f) rfl ?_) | (refine (vF_g rfl rfl).trans ?_; refine (vF_g rfl rfl).trans ?_; refine Eq.trans (b := vFn (vM MT0 (D + 1)) nb_X11_sees F1 4 0 [vR 452, vW 22, vI x2, vI ((i + 1) % 4294967296)] [] f) rfl ?_) | (refine (vF_g rfl rfl).trans ?_; refine Eq.trans (b := vFn (vM MT0 (D + 1)) nb_X11_sees F1 4 0 [vR 452, vW 22, vI x2, vI ((i + 1) % 4294967296)] [] f) rfl ?_))
      rw [Nat.mod_eq_of_lt (show i + 1 < 4294967296 by omega)]
      exact ih (i + 1) F1 (by omega) (by omega)
    · rw [show wq T (nthN (wrd 22) 0 i :: (wrd 22).drop (i + 1)) (s + i) = false from if_neg q, if_neg (by decide)]
      (first | (refine (vne (x := T (s + i)) (y := nthN (wrd 22) 0 i) (by omega) (by have := wrd_lt 22 i; omega) q).trans ?_) | (refine (vF_g rfl rfl).trans ?_; refine (vF_g rfl rfl).trans ?_; refine (vne (x := T (s + i)) (y := nthN (wrd 22) 0 i) (by omega) (by have := wrd_lt 22 i; omega) q).trans ?_) | (refine (vF_g rfl rfl).trans ?_; refine (vne (x := T (s + i)) (y := nthN (wrd 22) 0 i) (by omega) (by have := wrd_lt 22 i; omega) q).trans ?_))
      (first | (exact rfl) | (refine (vF_g rfl rfl).trans ?_; refine (vF_g rfl rfl).trans ?_; exact rfl) | (refine (vF_g rfl rfl).trans ?_; refine (vF_g rfl rfl).trans ?_; refine (vF_g rfl rfl).trans ?_; exact rfl) | (refine (vF_g rfl rfl).trans ?_; exact rfl))
theorem v_sees_22 {D n p : Nat} {T : Nat → Nat} {f : Vw} (hx : TxR f n T) (hp9 : f 452 17 = p) (hp : p ≤ n) (he : f 452 20 = 0) : vM MT0 (D + 3) 231 [vR 452, vW 22] f = some ((0, 0), vI (if tZ T p = (wrd 22).length ∧ wq T (wrd 22) (tS T p) = true then 1 else 0), rkv f T p) := by
  have hl := wrd_len 22
  have hn := hx.1
  have hz := tZ_le (T := T) hx.2.2.2.2 hp
  have e20 : rkv f T p 452 20 = 0 := by rw [rkv_o (Or.inr (by decide))]; exact he
  refine vM_go rfl rfl rfl rfl fun F hF => ?_
  (first | (refine (vbnd_0 (v_nextR hx hp9 hp)).trans ?_) | (refine (vF_g rfl rfl).trans ?_; refine (vF_g rfl rfl).trans ?_; refine (vbnd_0 (v_nextR hx hp9 hp)).trans ?_) | (refine (vF_g rfl rfl).trans ?_; refine (vbnd_0 (v_nextR hx hp9 hp)).trans ?_))
  (first | (refine (veq e20).trans ?_) | (refine (vF_g rfl rfl).trans ?_; refine (vF_g rfl rfl).trans ?_; refine (veq e20).trans ?_) | (refine (vF_g rfl rfl).trans ?_; refine (veq e20).trans ?_))
  (first | (refine (vbnd_0 (v_len (by decide) (by decide))).trans ?_) | (refine (vF_g rfl rfl).trans ?_; refine (vF_g rfl rfl).trans ?_; refine (vbnd_0 (v_len (by decide) (by decide))).trans ?_) | (refine (vF_g rfl rfl).trans ?_; refine (vbnd_0 (v_len (by decide) (by decide))).trans ?_))
  by_cases c : tZ T p = (wrd 22).length
  · (first | (refine (veq (x := rkv f T p 452 19) (y := (wrd 22).length) (by rw [rkv_19]; exact c)).trans ?_) | (refine (vF_g rfl rfl).trans ?_; refine (vF_g rfl rfl).trans ?_; refine (veq (x := rkv f T p 452 19) (y := (wrd 22).length) (by rw [rkv_19]; exact c)).trans ?_) | (refine (vF_g rfl rfl).trans ?_; refine (veq (x := rkv f T p 452 19) (y := (wrd 22).length) (by rw [rkv_19]; exact c)).trans ?_))
    (first | (refine Eq.trans (b := vFn (vM MT0 (D + 2)) nb_X11_sees (F + 57) 4 0 [vR 452, vW 22, vI (T (tS T p)), vI 0] [] (rkv f T p)) rfl ?_) | (refine (vF_g rfl rfl).trans ?_; refine (vF_g rfl rfl).trans ?_; refine Eq.trans (b := vFn (vM MT0 (D + 2)) nb_X11_sees (F + 57) 4 0 [vR 452, vW 22, vI (T (tS T p)), vI 0] [] (rkv f T p)) rfl ?_) | (refine (vF_g rfl rfl).trans ?_; refine Eq.trans (b := vFn (vM MT0 (D + 2)) nb_X11_sees (F + 57) 4 0 [vR 452, vW 22, vI (T (tS T p)), vI 0] [] (rkv f T p)) rfl ?_))
    rw [se_loop_22 (txR_rkv hx) rkv_18 (by rw [rkv_19]; exact c) (by omega) (wrd 22).length 0 (F + 57) (by omega) (by omega)]
    by_cases c3 : wq T (wrd 22) (tS T p) = true
    · rw [if_pos (show wq T ((wrd 22).drop 0) (tS T p + 0) = true from c3), if_pos ⟨c, c3⟩]
    · rw [if_neg (show ¬ wq T ((wrd 22).drop 0) (tS T p + 0) = true from c3), if_neg (fun q => c3 q.2)]
  · rw [if_neg (fun q => c q.1)]
    (first | (refine (vne (x := rkv f T p 452 19) (y := (wrd 22).length) (by rw [rkv_19]; omega) (by omega) (by rw [rkv_19]; exact c)).trans ?_) | (refine (vF_g rfl rfl).trans ?_; refine (vF_g rfl rfl).trans ?_; refine (vne (x := rkv f T p 452 19) (y := (wrd 22).length) (by rw [rkv_19]; omega) (by omega) (by rw [rkv_19]; exact c)).trans ?_) | (refine (vF_g rfl rfl).trans ?_; refine (vne (x := rkv f T p 452 19) (y := (wrd 22).length) (by rw [rkv_19]; omega) (by omega) (by rw [rkv_19]; exact c)).trans ?_))
    (first | (exact rfl) | (refine (vF_g rfl rfl).trans ?_; refine (vF_g rfl rfl).trans ?_; exact rfl) | (refine (vF_g rfl rfl).trans ?_; refine (vF_g rfl rfl).trans ?_; refine (vF_g rfl rfl).trans ?_; exact rfl) | (refine (vF_g rfl rfl).trans ?_; exact rfl))
theorem se_loop_23 {D n s x2 : Nat} {T : Nat → Nat} {f : Vw} (hx : TxR f n T) (hs : f 452 18 = s) (hz : f 452 19 = (wrd 23).length) (hs9 : s ≤ 900) : ∀ (m i F : Nat), i + m = (wrd 23).length → 3 * m + 3 ≤ F → vFn (vM MT0 (D + 1)) nb_X11_sees F 4 0 [vR 452, vW 23, vI x2, vI i] [] f = some ((0, 0), vI (if wq T ((wrd 23).drop i) (s + i) = true then 1 else 0), f) := by
  have hl := wrd_len 23
  intro m
  induction m with
  | zero =>
    intro i F hi hF
    obtain ⟨F1, rfl⟩ : ∃ F1, F = F1 + 2 := ⟨F - 2, by omega⟩
    rw [List.drop_eq_nil_of_le (show (wrd 23).length ≤ i by omega), show wq T [] (s + i) = true from rfl, if_pos rfl]
    (first | (refine (vge2 (x := i) (y := f 452 19) (by omega) (by rw [hz]; omega)).trans ?_) | (refine (vF_g rfl rfl).trans ?_; refine (vF_g rfl rfl).trans ?_; refine (vge2 (x := i) (y := f 452 19) (by omega) (by rw [hz]; omega)).trans ?_) | (refine (vF_g rfl rfl).trans ?_; refine (vge2 (x := i) (y := f 452 19) (by omega) (by rw [hz]; omega)).trans ?_))
    (first | (exact rfl) | (refine (vF_g rfl rfl).trans ?_; refine (vF_g rfl rfl).trans ?_; exact rfl) | (refine (vF_g rfl rfl).trans ?_; refine (vF_g rfl rfl).trans ?_; refine (vF_g rfl rfl).trans ?_; exact rfl) | (refine (vF_g rfl rfl).trans ?_; exact rfl))
  | succ m ih =>
    intro i F hi hF
    obtain ⟨F1, rfl⟩ : ∃ F1, F = F1 + 3 := ⟨F - 3, by omega⟩
    have hq : (f 452 18 + i) % 4294967296 = s + i := by rw [hs, Nat.mod_eq_of_lt (by omega)]
    rw [nthN_drop (wrd 23) i (by omega)]
    (first | (refine (vlt (x := i) (y := f 452 19) (by rw [hz]; omega) (by rw [hz]; omega)).trans ?_) | (refine (vF_g rfl rfl).trans ?_; refine (vF_g rfl rfl).trans ?_; refine (vlt (x := i) (y := f 452 19) (by rw [hz]; omega) (by rw [hz]; omega)).trans ?_) | (refine (vF_g rfl rfl).trans ?_; refine (vlt (x := i) (y := f 452 19) (by rw [hz]; omega) (by rw [hz]; omega)).trans ?_))
    (first | (refine (vbnd_0 (v_byteR (i := (f 452 18 + i) % 4294967296) (f := f) (by rw [hq]; omega) (by rw [hx.2.1]; exact hx.1))).trans ?_) | (refine (vF_g rfl rfl).trans ?_; refine (vF_g rfl rfl).trans ?_; refine (vbnd_0 (v_byteR (i := (f 452 18 + i) % 4294967296) (f := f) (by rw [hq]; omega) (by rw [hx.2.1]; exact hx.1))).trans ?_) | (refine (vF_g rfl rfl).trans ?_; refine (vbnd_0 (v_byteR (i := (f 452 18 + i) % 4294967296) (f := f) (by rw [hq]; omega) (by rw [hx.2.1]; exact hx.1))).trans ?_))
    (first | (refine (vbnd_0 (v_chr (i := i) (by decide) (by decide) (by omega))).trans ?_) | (refine (vF_g rfl rfl).trans ?_; refine (vF_g rfl rfl).trans ?_; refine (vbnd_0 (v_chr (i := i) (by decide) (by decide) (by omega))).trans ?_) | (refine (vF_g rfl rfl).trans ?_; refine (vbnd_0 (v_chr (i := i) (by decide) (by decide) (by omega))).trans ?_))
    rw [hq, hx.2.2.1]
    have hl9 := hx.2.2.2.1 (s + i)
    by_cases q : T (s + i) = nthN (wrd 23) 0 i
    · rw [show wq T (nthN (wrd 23) 0 i :: (wrd 23).drop (i + 1)) (s + i) = wq T ((wrd 23).drop (i + 1)) (s + i + 1) from if_pos q]
      (first | (refine (veq q).trans ?_) | (refine (vF_g rfl rfl).trans ?_; refine (vF_g rfl rfl).trans ?_; refine (veq q).trans ?_) | (refine (vF_g rfl rfl).trans ?_; refine (veq q).trans ?_))
      (first | (refine Eq.trans (b := vFn (vM MT0 (D + 1)) nb_X11_sees F1 4 0 [vR 452, vW 23, vI x2, vI ((i + 1) % 4294967296)] [] f) rfl ?_) | (refine (vF_g rfl rfl).trans ?_; refine (vF_g rfl rfl).trans ?_; refine Eq.trans (b := vFn (vM MT0 (D + 1)) nb_X11_sees F1 4 0 [vR 452, vW 23, vI x2, vI ((i + 1) % 4294967296)] [] f) rfl ?_) | (refine (vF_g rfl rfl).trans ?_; refine Eq.trans (b := vFn (vM MT0 (D + 1)) nb_X11_sees F1 4 0 [vR 452, vW 23, vI x2, vI ((i + 1) % 4294967296)] [] f) rfl ?_))
      rw [Nat.mod_eq_of_lt (show i + 1 < 4294967296 by omega)]
      exact ih (i + 1) F1 (by omega) (by omega)
    · rw [show wq T (nthN (wrd 23) 0 i :: (wrd 23).drop (i + 1)) (s + i) = false from if_neg q, if_neg (by decide)]
      (first | (refine (vne (x := T (s + i)) (y := nthN (wrd 23) 0 i) (by omega) (by have := wrd_lt 23 i; omega) q).trans ?_) | (refine (vF_g rfl rfl).trans ?_; refine (vF_g rfl rfl).trans ?_; refine (vne (x := T (s + i)) (y := nthN (wrd 23) 0 i) (by omega) (by have := wrd_lt 23 i; omega) q).trans ?_) | (refine (vF_g rfl rfl).trans ?_; refine (vne (x := T (s + i)) (y := nthN (wrd 23) 0 i) (by omega) (by have := wrd_lt 23 i; omega) q).trans ?_))
      (first | (exact rfl) | (refine (vF_g rfl rfl).trans ?_; refine (vF_g rfl rfl).trans ?_; exact rfl) | (refine (vF_g rfl rfl).trans ?_; refine (vF_g rfl rfl).trans ?_; refine (vF_g rfl rfl).trans ?_; exact rfl) | (refine (vF_g rfl rfl).trans ?_; exact rfl))
theorem v_sees_23 {D n p : Nat} {T : Nat → Nat} {f : Vw} (hx : TxR f n T) (hp9 : f 452 17 = p) (hp : p ≤ n) (he : f 452 20 = 0) : vM MT0 (D + 3) 231 [vR 452, vW 23] f = some ((0, 0), vI (if tZ T p = (wrd 23).length ∧ wq T (wrd 23) (tS T p) = true then 1 else 0), rkv f T p) := by
  have hl := wrd_len 23
  have hn := hx.1
  have hz := tZ_le (T := T) hx.2.2.2.2 hp
  have e20 : rkv f T p 452 20 = 0 := by rw [rkv_o (Or.inr (by decide))]; exact he
  refine vM_go rfl rfl rfl rfl fun F hF => ?_
  (first | (refine (vbnd_0 (v_nextR hx hp9 hp)).trans ?_) | (refine (vF_g rfl rfl).trans ?_; refine (vF_g rfl rfl).trans ?_; refine (vbnd_0 (v_nextR hx hp9 hp)).trans ?_) | (refine (vF_g rfl rfl).trans ?_; refine (vbnd_0 (v_nextR hx hp9 hp)).trans ?_))
  (first | (refine (veq e20).trans ?_) | (refine (vF_g rfl rfl).trans ?_; refine (vF_g rfl rfl).trans ?_; refine (veq e20).trans ?_) | (refine (vF_g rfl rfl).trans ?_; refine (veq e20).trans ?_))
  (first | (refine (vbnd_0 (v_len (by decide) (by decide))).trans ?_) | (refine (vF_g rfl rfl).trans ?_; refine (vF_g rfl rfl).trans ?_; refine (vbnd_0 (v_len (by decide) (by decide))).trans ?_) | (refine (vF_g rfl rfl).trans ?_; refine (vbnd_0 (v_len (by decide) (by decide))).trans ?_))
  by_cases c : tZ T p = (wrd 23).length
  · (first | (refine (veq (x := rkv f T p 452 19) (y := (wrd 23).length) (by rw [rkv_19]; exact c)).trans ?_) | (refine (vF_g rfl rfl).trans ?_; refine (vF_g rfl rfl).trans ?_; refine (veq (x := rkv f T p 452 19) (y := (wrd 23).length) (by rw [rkv_19]; exact c)).trans ?_) | (refine (vF_g rfl rfl).trans ?_; refine (veq (x := rkv f T p 452 19) (y := (wrd 23).length) (by rw [rkv_19]; exact c)).trans ?_))
    (first | (refine Eq.trans (b := vFn (vM MT0 (D + 2)) nb_X11_sees (F + 57) 4 0 [vR 452, vW 23, vI (T (tS T p)), vI 0] [] (rkv f T p)) rfl ?_) | (refine (vF_g rfl rfl).trans ?_; refine (vF_g rfl rfl).trans ?_; refine Eq.trans (b := vFn (vM MT0 (D + 2)) nb_X11_sees (F + 57) 4 0 [vR 452, vW 23, vI (T (tS T p)), vI 0] [] (rkv f T p)) rfl ?_) | (refine (vF_g rfl rfl).trans ?_; refine Eq.trans (b := vFn (vM MT0 (D + 2)) nb_X11_sees (F + 57) 4 0 [vR 452, vW 23, vI (T (tS T p)), vI 0] [] (rkv f T p)) rfl ?_))
    rw [se_loop_23 (txR_rkv hx) rkv_18 (by rw [rkv_19]; exact c) (by omega) (wrd 23).length 0 (F + 57) (by omega) (by omega)]
    by_cases c3 : wq T (wrd 23) (tS T p) = true
    · rw [if_pos (show wq T ((wrd 23).drop 0) (tS T p + 0) = true from c3), if_pos ⟨c, c3⟩]
    · rw [if_neg (show ¬ wq T ((wrd 23).drop 0) (tS T p + 0) = true from c3), if_neg (fun q => c3 q.2)]
  · rw [if_neg (fun q => c q.1)]
    (first | (refine (vne (x := rkv f T p 452 19) (y := (wrd 23).length) (by rw [rkv_19]; omega) (by omega) (by rw [rkv_19]; exact c)).trans ?_) | (refine (vF_g rfl rfl).trans ?_; refine (vF_g rfl rfl).trans ?_; refine (vne (x := rkv f T p 452 19) (y := (wrd 23).length) (by rw [rkv_19]; omega) (by omega) (by rw [rkv_19]; exact c)).trans ?_) | (refine (vF_g rfl rfl).trans ?_; refine (vne (x := rkv f T p 452 19) (y := (wrd 23).length) (by rw [rkv_19]; omega) (by omega) (by rw [rkv_19]; exact c)).trans ?_))
    (first | (exact rfl) | (refine (vF_g rfl rfl).trans ?_; refine (vF_g rfl rfl).trans ?_; exact rfl) | (refine (vF_g rfl rfl).trans ?_; refine (vF_g rfl rfl).trans ?_; refine (vF_g rfl rfl).trans ?_; exact rfl) | (refine (vF_g rfl rfl).trans ?_; exact rfl))
theorem se_loop_24 {D n s x2 : Nat} {T : Nat → Nat} {f : Vw} (hx : TxR f n T) (hs : f 452 18 = s) (hz : f 452 19 = (wrd 24).length) (hs9 : s ≤ 900) : ∀ (m i F : Nat), i + m = (wrd 24).length → 3 * m + 3 ≤ F → vFn (vM MT0 (D + 1)) nb_X11_sees F 4 0 [vR 452, vW 24, vI x2, vI i] [] f = some ((0, 0), vI (if wq T ((wrd 24).drop i) (s + i) = true then 1 else 0), f) := by
  have hl := wrd_len 24
  intro m
  induction m with
  | zero =>
    intro i F hi hF
    obtain ⟨F1, rfl⟩ : ∃ F1, F = F1 + 2 := ⟨F - 2, by omega⟩
    rw [List.drop_eq_nil_of_le (show (wrd 24).length ≤ i by omega), show wq T [] (s + i) = true from rfl, if_pos rfl]
    (first | (refine (vge2 (x := i) (y := f 452 19) (by omega) (by rw [hz]; omega)).trans ?_) | (refine (vF_g rfl rfl).trans ?_; refine (vF_g rfl rfl).trans ?_; refine (vge2 (x := i) (y := f 452 19) (by omega) (by rw [hz]; omega)).trans ?_) | (refine (vF_g rfl rfl).trans ?_; refine (vge2 (x := i) (y := f 452 19) (by omega) (by rw [hz]; omega)).trans ?_))
    (first | (exact rfl) | (refine (vF_g rfl rfl).trans ?_; refine (vF_g rfl rfl).trans ?_; exact rfl) | (refine (vF_g rfl rfl).trans ?_; refine (vF_g rfl rfl).trans ?_; refine (vF_g rfl rfl).trans ?_; exact rfl) | (refine (vF_g rfl rfl).trans ?_; exact rfl))
  | succ m ih =>
    intro i F hi hF
    obtain ⟨F1, rfl⟩ : ∃ F1, F = F1 + 3 := ⟨F - 3, by omega⟩
    have hq : (f 452 18 + i) % 4294967296 = s + i := by rw [hs, Nat.mod_eq_of_lt (by omega)]
    rw [nthN_drop (wrd 24) i (by omega)]
    (first | (refine (vlt (x := i) (y := f 452 19) (by rw [hz]; omega) (by rw [hz]; omega)).trans ?_) | (refine (vF_g rfl rfl).trans ?_; refine (vF_g rfl rfl).trans ?_; refine (vlt (x := i) (y := f 452 19) (by rw [hz]; omega) (by rw [hz]; omega)).trans ?_) | (refine (vF_g rfl rfl).trans ?_; refine (vlt (x := i) (y := f 452 19) (by rw [hz]; omega) (by rw [hz]; omega)).trans ?_))
    (first | (refine (vbnd_0 (v_byteR (i := (f 452 18 + i) % 4294967296) (f := f) (by rw [hq]; omega) (by rw [hx.2.1]; exact hx.1))).trans ?_) | (refine (vF_g rfl rfl).trans ?_; refine (vF_g rfl rfl).trans ?_; refine (vbnd_0 (v_byteR (i := (f 452 18 + i) % 4294967296) (f := f) (by rw [hq]; omega) (by rw [hx.2.1]; exact hx.1))).trans ?_) | (refine (vF_g rfl rfl).trans ?_; refine (vbnd_0 (v_byteR (i := (f 452 18 + i) % 4294967296) (f := f) (by rw [hq]; omega) (by rw [hx.2.1]; exact hx.1))).trans ?_))
    (first | (refine (vbnd_0 (v_chr (i := i) (by decide) (by decide) (by omega))).trans ?_) | (refine (vF_g rfl rfl).trans ?_; refine (vF_g rfl rfl).trans ?_; refine (vbnd_0 (v_chr (i := i) (by decide) (by decide) (by omega))).trans ?_) | (refine (vF_g rfl rfl).trans ?_; refine (vbnd_0 (v_chr (i := i) (by decide) (by decide) (by omega))).trans ?_))
    rw [hq, hx.2.2.1]
    have hl9 := hx.2.2.2.1 (s + i)
    by_cases q : T (s + i) = nthN (wrd 24) 0 i
    · rw [show wq T (nthN (wrd 24) 0 i :: (wrd 24).drop (i + 1)) (s + i) = wq T ((wrd 24).drop (i + 1)) (s + i + 1) from if_pos q]
      (first | (refine (veq q).trans ?_) | (refine (vF_g rfl rfl).trans ?_; refine (vF_g rfl rfl).trans ?_; refine (veq q).trans ?_) | (refine (vF_g rfl rfl).trans ?_; refine (veq q).trans ?_))
      (first | (refine Eq.trans (b := vFn (vM MT0 (D + 1)) nb_X11_sees F1 4 0 [vR 452, vW 24, vI x2, vI ((i + 1) % 4294967296)] [] f) rfl ?_) | (refine (vF_g rfl rfl).trans ?_; refine (vF_g rfl rfl).trans ?_; refine Eq.trans (b := vFn (vM MT0 (D + 1)) nb_X11_sees F1 4 0 [vR 452, vW 24, vI x2, vI ((i + 1) % 4294967296)] [] f) rfl ?_) | (refine (vF_g rfl rfl).trans ?_; refine Eq.trans (b := vFn (vM MT0 (D + 1)) nb_X11_sees F1 4 0 [vR 452, vW 24, vI x2, vI ((i + 1) % 4294967296)] [] f) rfl ?_))
      rw [Nat.mod_eq_of_lt (show i + 1 < 4294967296 by omega)]
      exact ih (i + 1) F1 (by omega) (by omega)
    · rw [show wq T (nthN (wrd 24) 0 i :: (wrd 24).drop (i + 1)) (s + i) = false from if_neg q, if_neg (by decide)]
      (first | (refine (vne (x := T (s + i)) (y := nthN (wrd 24) 0 i) (by omega) (by have := wrd_lt 24 i; omega) q).trans ?_) | (refine (vF_g rfl rfl).trans ?_; refine (vF_g rfl rfl).trans ?_; refine (vne (x := T (s + i)) (y := nthN (wrd 24) 0 i) (by omega) (by have := wrd_lt 24 i; omega) q).trans ?_) | (refine (vF_g rfl rfl).trans ?_; refine (vne (x := T (s + i)) (y := nthN (wrd 24) 0 i) (by omega) (by have := wrd_lt 24 i; omega) q).trans ?_))
      (first | (exact rfl) | (refine (vF_g rfl rfl).trans ?_; refine (vF_g rfl rfl).trans ?_; exact rfl) | (refine (vF_g rfl rfl).trans ?_; refine (vF_g rfl rfl).trans ?_; refine (vF_g rfl rfl).trans ?_; exact rfl) | (refine (vF_g rfl rfl).trans ?_; exact rfl))
theorem v_sees_24 {D n p : Nat} {T : Nat → Nat} {f : Vw} (hx : TxR f n T) (hp9 : f 452 17 = p) (hp : p ≤ n) (he : f 452 20 = 0) : vM MT0 (D + 3) 231 [vR 452, vW 24] f = some ((0, 0), vI (if tZ T p = (wrd 24).length ∧ wq T (wrd 24) (tS T p) = true then 1 else 0), rkv f T p) := by
  have hl := wrd_len 24
  have hn := hx.1
  have hz := tZ_le (T := T) hx.2.2.2.2 hp
  have e20 : rkv f T p 452 20 = 0 := by rw [rkv_o (Or.inr (by decide))]; exact he
  refine vM_go rfl rfl rfl rfl fun F hF => ?_
  (first | (refine (vbnd_0 (v_nextR hx hp9 hp)).trans ?_) | (refine (vF_g rfl rfl).trans ?_; refine (vF_g rfl rfl).trans ?_; refine (vbnd_0 (v_nextR hx hp9 hp)).trans ?_) | (refine (vF_g rfl rfl).trans ?_; refine (vbnd_0 (v_nextR hx hp9 hp)).trans ?_))
  (first | (refine (veq e20).trans ?_) | (refine (vF_g rfl rfl).trans ?_; refine (vF_g rfl rfl).trans ?_; refine (veq e20).trans ?_) | (refine (vF_g rfl rfl).trans ?_; refine (veq e20).trans ?_))
  (first | (refine (vbnd_0 (v_len (by decide) (by decide))).trans ?_) | (refine (vF_g rfl rfl).trans ?_; refine (vF_g rfl rfl).trans ?_; refine (vbnd_0 (v_len (by decide) (by decide))).trans ?_) | (refine (vF_g rfl rfl).trans ?_; refine (vbnd_0 (v_len (by decide) (by decide))).trans ?_))
  by_cases c : tZ T p = (wrd 24).length
  · (first | (refine (veq (x := rkv f T p 452 19) (y := (wrd 24).length) (by rw [rkv_19]; exact c)).trans ?_) | (refine (vF_g rfl rfl).trans ?_; refine (vF_g rfl rfl).trans ?_; refine (veq (x := rkv f T p 452 19) (y := (wrd 24).length) (by rw [rkv_19]; exact c)).trans ?_) | (refine (vF_g rfl rfl).trans ?_; refine (veq (x := rkv f T p 452 19) (y := (wrd 24).length) (by rw [rkv_19]; exact c)).trans ?_))
    (first | (refine Eq.trans (b := vFn (vM MT0 (D + 2)) nb_X11_sees (F + 57) 4 0 [vR 452, vW 24, vI (T (tS T p)), vI 0] [] (rkv f T p)) rfl ?_) | (refine (vF_g rfl rfl).trans ?_; refine (vF_g rfl rfl).trans ?_; refine Eq.trans (b := vFn (vM MT0 (D + 2)) nb_X11_sees (F + 57) 4 0 [vR 452, vW 24, vI (T (tS T p)), vI 0] [] (rkv f T p)) rfl ?_) | (refine (vF_g rfl rfl).trans ?_; refine Eq.trans (b := vFn (vM MT0 (D + 2)) nb_X11_sees (F + 57) 4 0 [vR 452, vW 24, vI (T (tS T p)), vI 0] [] (rkv f T p)) rfl ?_))
    rw [se_loop_24 (txR_rkv hx) rkv_18 (by rw [rkv_19]; exact c) (by omega) (wrd 24).length 0 (F + 57) (by omega) (by omega)]
    by_cases c3 : wq T (wrd 24) (tS T p) = true
    · rw [if_pos (show wq T ((wrd 24).drop 0) (tS T p + 0) = true from c3), if_pos ⟨c, c3⟩]
    · rw [if_neg (show ¬ wq T ((wrd 24).drop 0) (tS T p + 0) = true from c3), if_neg (fun q => c3 q.2)]
  · rw [if_neg (fun q => c q.1)]
    (first | (refine (vne (x := rkv f T p 452 19) (y := (wrd 24).length) (by rw [rkv_19]; omega) (by omega) (by rw [rkv_19]; exact c)).trans ?_) | (refine (vF_g rfl rfl).trans ?_; refine (vF_g rfl rfl).trans ?_; refine (vne (x := rkv f T p 452 19) (y := (wrd 24).length) (by rw [rkv_19]; omega) (by omega) (by rw [rkv_19]; exact c)).trans ?_) | (refine (vF_g rfl rfl).trans ?_; refine (vne (x := rkv f T p 452 19) (y := (wrd 24).length) (by rw [rkv_19]; omega) (by omega) (by rw [rkv_19]; exact c)).trans ?_))
    (first | (exact rfl) | (refine (vF_g rfl rfl).trans ?_; refine (vF_g rfl rfl).trans ?_; exact rfl) | (refine (vF_g rfl rfl).trans ?_; refine (vF_g rfl rfl).trans ?_; refine (vF_g rfl rfl).trans ?_; exact rfl) | (refine (vF_g rfl rfl).trans ?_; exact rfl))
theorem se_loop_25 {D n s x2 : Nat} {T : Nat → Nat} {f : Vw} (hx : TxR f n T) (hs : f 452 18 = s) (hz : f 452 19 = (wrd 25).length) (hs9 : s ≤ 900) : ∀ (m i F : Nat), i + m = (wrd 25).length → 3 * m + 3 ≤ F → vFn (vM MT0 (D + 1)) nb_X11_sees F 4 0 [vR 452, vW 25, vI x2, vI i] [] f = some ((0, 0), vI (if wq T ((wrd 25).drop i) (s + i) = true then 1 else 0), f) := by
  have hl := wrd_len 25
  intro m
  induction m with
  | zero =>
    intro i F hi hF
    obtain ⟨F1, rfl⟩ : ∃ F1, F = F1 + 2 := ⟨F - 2, by omega⟩
    rw [List.drop_eq_nil_of_le (show (wrd 25).length ≤ i by omega), show wq T [] (s + i) = true from rfl, if_pos rfl]
    (first | (refine (vge2 (x := i) (y := f 452 19) (by omega) (by rw [hz]; omega)).trans ?_) | (refine (vF_g rfl rfl).trans ?_; refine (vF_g rfl rfl).trans ?_; refine (vge2 (x := i) (y := f 452 19) (by omega) (by rw [hz]; omega)).trans ?_) | (refine (vF_g rfl rfl).trans ?_; refine (vge2 (x := i) (y := f 452 19) (by omega) (by rw [hz]; omega)).trans ?_))
    (first | (exact rfl) | (refine (vF_g rfl rfl).trans ?_; refine (vF_g rfl rfl).trans ?_; exact rfl) | (refine (vF_g rfl rfl).trans ?_; refine (vF_g rfl rfl).trans ?_; refine (vF_g rfl rfl).trans ?_; exact rfl) | (refine (vF_g rfl rfl).trans ?_; exact rfl))
  | succ m ih =>
    intro i F hi hF
    obtain ⟨F1, rfl⟩ : ∃ F1, F = F1 + 3 := ⟨F - 3, by omega⟩
    have hq : (f 452 18 + i) % 4294967296 = s + i := by rw [hs, Nat.mod_eq_of_lt (by omega)]
    rw [nthN_drop (wrd 25) i (by omega)]
    (first | (refine (vlt (x := i) (y := f 452 19) (by rw [hz]; omega) (by rw [hz]; omega)).trans ?_) | (refine (vF_g rfl rfl).trans ?_; refine (vF_g rfl rfl).trans ?_; refine (vlt (x := i) (y := f 452 19) (by rw [hz]; omega) (by rw [hz]; omega)).trans ?_) | (refine (vF_g rfl rfl).trans ?_; refine (vlt (x := i) (y := f 452 19) (by rw [hz]; omega) (by rw [hz]; omega)).trans ?_))
    (first | (refine (vbnd_0 (v_byteR (i := (f 452 18 + i) % 4294967296) (f := f) (by rw [hq]; omega) (by rw [hx.2.1]; exact hx.1))).trans ?_) | (refine (vF_g rfl rfl).trans ?_; refine (vF_g rfl rfl).trans ?_; refine (vbnd_0 (v_byteR (i := (f 452 18 + i) % 4294967296) (f := f) (by rw [hq]; omega) (by rw [hx.2.1]; exact hx.1))).trans ?_) | (refine (vF_g rfl rfl).trans ?_; refine (vbnd_0 (v_byteR (i := (f 452 18 + i) % 4294967296) (f := f) (by rw [hq]; omega) (by rw [hx.2.1]; exact hx.1))).trans ?_))
    (first | (refine (vbnd_0 (v_chr (i := i) (by decide) (by decide) (by omega))).trans ?_) | (refine (vF_g rfl rfl).trans ?_; refine (vF_g rfl rfl).trans ?_; refine (vbnd_0 (v_chr (i := i) (by decide) (by decide) (by omega))).trans ?_) | (refine (vF_g rfl rfl).trans ?_; refine (vbnd_0 (v_chr (i := i) (by decide) (by decide) (by omega))).trans ?_))
    rw [hq, hx.2.2.1]
    have hl9 := hx.2.2.2.1 (s + i)
    by_cases q : T (s + i) = nthN (wrd 25) 0 i
    · rw [show wq T (nthN (wrd 25) 0 i :: (wrd 25).drop (i + 1)) (s + i) = wq T ((wrd 25).drop (i + 1)) (s + i + 1) from if_pos q]
      (first | (refine (veq q).trans ?_) | (refine (vF_g rfl rfl).trans ?_; refine (vF_g rfl rfl).trans ?_; refine (veq q).trans ?_) | (refine (vF_g rfl rfl).trans ?_; refine (veq q).trans ?_))
      (first | (refine Eq.trans (b := vFn (vM MT0 (D + 1)) nb_X11_sees F1 4 0 [vR 452, vW 25, vI x2, vI ((i + 1) % 4294967296)] [] f) rfl ?_) | (refine (vF_g rfl rfl).trans ?_; refine (vF_g rfl rfl).trans ?_; refine Eq.trans (b := vFn (vM MT0 (D + 1)) nb_X11_sees F1 4 0 [vR 452, vW 25, vI x2, vI ((i + 1) % 4294967296)] [] f) rfl ?_) | (refine (vF_g rfl rfl).trans ?_; refine Eq.trans (b := vFn (vM MT0 (D + 1)) nb_X11_sees F1 4 0 [vR 452, vW 25, vI x2, vI ((i + 1) % 4294967296)] [] f) rfl ?_))
      rw [Nat.mod_eq_of_lt (show i + 1 < 4294967296 by omega)]
      exact ih (i + 1) F1 (by omega) (by omega)
    · rw [show wq T (nthN (wrd 25) 0 i :: (wrd 25).drop (i + 1)) (s + i) = false from if_neg q, if_neg (by decide)]
      (first | (refine (vne (x := T (s + i)) (y := nthN (wrd 25) 0 i) (by omega) (by have := wrd_lt 25 i; omega) q).trans ?_) | (refine (vF_g rfl rfl).trans ?_; refine (vF_g rfl rfl).trans ?_; refine (vne (x := T (s + i)) (y := nthN (wrd 25) 0 i) (by omega) (by have := wrd_lt 25 i; omega) q).trans ?_) | (refine (vF_g rfl rfl).trans ?_; refine (vne (x := T (s + i)) (y := nthN (wrd 25) 0 i) (by omega) (by have := wrd_lt 25 i; omega) q).trans ?_))
      (first | (exact rfl) | (refine (vF_g rfl rfl).trans ?_; refine (vF_g rfl rfl).trans ?_; exact rfl) | (refine (vF_g rfl rfl).trans ?_; refine (vF_g rfl rfl).trans ?_; refine (vF_g rfl rfl).trans ?_; exact rfl) | (refine (vF_g rfl rfl).trans ?_; exact rfl))
theorem v_sees_25 {D n p : Nat} {T : Nat → Nat} {f : Vw} (hx : TxR f n T) (hp9 : f 452 17 = p) (hp : p ≤ n) (he : f 452 20 = 0) : vM MT0 (D + 3) 231 [vR 452, vW 25] f = some ((0, 0), vI (if tZ T p = (wrd 25).length ∧ wq T (wrd 25) (tS T p) = true then 1 else 0), rkv f T p) := by
  have hl := wrd_len 25
  have hn := hx.1
  have hz := tZ_le (T := T) hx.2.2.2.2 hp
  have e20 : rkv f T p 452 20 = 0 := by rw [rkv_o (Or.inr (by decide))]; exact he
  refine vM_go rfl rfl rfl rfl fun F hF => ?_
  (first | (refine (vbnd_0 (v_nextR hx hp9 hp)).trans ?_) | (refine (vF_g rfl rfl).trans ?_; refine (vF_g rfl rfl).trans ?_; refine (vbnd_0 (v_nextR hx hp9 hp)).trans ?_) | (refine (vF_g rfl rfl).trans ?_; refine (vbnd_0 (v_nextR hx hp9 hp)).trans ?_))
  (first | (refine (veq e20).trans ?_) | (refine (vF_g rfl rfl).trans ?_; refine (vF_g rfl rfl).trans ?_; refine (veq e20).trans ?_) | (refine (vF_g rfl rfl).trans ?_; refine (veq e20).trans ?_))
  (first | (refine (vbnd_0 (v_len (by decide) (by decide))).trans ?_) | (refine (vF_g rfl rfl).trans ?_; refine (vF_g rfl rfl).trans ?_; refine (vbnd_0 (v_len (by decide) (by decide))).trans ?_) | (refine (vF_g rfl rfl).trans ?_; refine (vbnd_0 (v_len (by decide) (by decide))).trans ?_))
  by_cases c : tZ T p = (wrd 25).length
  · (first | (refine (veq (x := rkv f T p 452 19) (y := (wrd 25).length) (by rw [rkv_19]; exact c)).trans ?_) | (refine (vF_g rfl rfl).trans ?_; refine (vF_g rfl rfl).trans ?_; refine (veq (x := rkv f T p 452 19) (y := (wrd 25).length) (by rw [rkv_19]; exact c)).trans ?_) | (refine (vF_g rfl rfl).trans ?_; refine (veq (x := rkv f T p 452 19) (y := (wrd 25).length) (by rw [rkv_19]; exact c)).trans ?_))
    (first | (refine Eq.trans (b := vFn (vM MT0 (D + 2)) nb_X11_sees (F + 57) 4 0 [vR 452, vW 25, vI (T (tS T p)), vI 0] [] (rkv f T p)) rfl ?_) | (refine (vF_g rfl rfl).trans ?_; refine (vF_g rfl rfl).trans ?_; refine Eq.trans (b := vFn (vM MT0 (D + 2)) nb_X11_sees (F + 57) 4 0 [vR 452, vW 25, vI (T (tS T p)), vI 0] [] (rkv f T p)) rfl ?_) | (refine (vF_g rfl rfl).trans ?_; refine Eq.trans (b := vFn (vM MT0 (D + 2)) nb_X11_sees (F + 57) 4 0 [vR 452, vW 25, vI (T (tS T p)), vI 0] [] (rkv f T p)) rfl ?_))
    rw [se_loop_25 (txR_rkv hx) rkv_18 (by rw [rkv_19]; exact c) (by omega) (wrd 25).length 0 (F + 57) (by omega) (by omega)]
    by_cases c3 : wq T (wrd 25) (tS T p) = true
    · rw [if_pos (show wq T ((wrd 25).drop 0) (tS T p + 0) = true from c3), if_pos ⟨c, c3⟩]
    · rw [if_neg (show ¬ wq T ((wrd 25).drop 0) (tS T p + 0) = true from c3), if_neg (fun q => c3 q.2)]
  · rw [if_neg (fun q => c q.1)]
    (first | (refine (vne (x := rkv f T p 452 19) (y := (wrd 25).length) (by rw [rkv_19]; omega) (by omega) (by rw [rkv_19]; exact c)).trans ?_) | (refine (vF_g rfl rfl).trans ?_; refine (vF_g rfl rfl).trans ?_; refine (vne (x := rkv f T p 452 19) (y := (wrd 25).length) (by rw [rkv_19]; omega) (by omega) (by rw [rkv_19]; exact c)).trans ?_) | (refine (vF_g rfl rfl).trans ?_; refine (vne (x := rkv f T p 452 19) (y := (wrd 25).length) (by rw [rkv_19]; omega) (by omega) (by rw [rkv_19]; exact c)).trans ?_))
    (first | (exact rfl) | (refine (vF_g rfl rfl).trans ?_; refine (vF_g rfl rfl).trans ?_; exact rfl) | (refine (vF_g rfl rfl).trans ?_; refine (vF_g rfl rfl).trans ?_; refine (vF_g rfl rfl).trans ?_; exact rfl) | (refine (vF_g rfl rfl).trans ?_; exact rfl))
theorem se_loop_26 {D n s x2 : Nat} {T : Nat → Nat} {f : Vw} (hx : TxR f n T) (hs : f 452 18 = s) (hz : f 452 19 = (wrd 26).length) (hs9 : s ≤ 900) : ∀ (m i F : Nat), i + m = (wrd 26).length → 3 * m + 3 ≤ F → vFn (vM MT0 (D + 1)) nb_X11_sees F 4 0 [vR 452, vW 26, vI x2, vI i] [] f = some ((0, 0), vI (if wq T ((wrd 26).drop i) (s + i) = true then 1 else 0), f) := by
  have hl := wrd_len 26
  intro m
  induction m with
  | zero =>
    intro i F hi hF
    obtain ⟨F1, rfl⟩ : ∃ F1, F = F1 + 2 := ⟨F - 2, by omega⟩
    rw [List.drop_eq_nil_of_le (show (wrd 26).length ≤ i by omega), show wq T [] (s + i) = true from rfl, if_pos rfl]
    (first | (refine (vge2 (x := i) (y := f 452 19) (by omega) (by rw [hz]; omega)).trans ?_) | (refine (vF_g rfl rfl).trans ?_; refine (vF_g rfl rfl).trans ?_; refine (vge2 (x := i) (y := f 452 19) (by omega) (by rw [hz]; omega)).trans ?_) | (refine (vF_g rfl rfl).trans ?_; refine (vge2 (x := i) (y := f 452 19) (by omega) (by rw [hz]; omega)).trans ?_))
    (first | (exact rfl) | (refine (vF_g rfl rfl).trans ?_; refine (vF_g rfl rfl).trans ?_; exact rfl) | (refine (vF_g rfl rfl).trans ?_; refine (vF_g rfl rfl).trans ?_; refine (vF_g rfl rfl).trans ?_; exact rfl) | (refine (vF_g rfl rfl).trans ?_; exact rfl))
  | succ m ih =>
    intro i F hi hF
    obtain ⟨F1, rfl⟩ : ∃ F1, F = F1 + 3 := ⟨F - 3, by omega⟩
    have hq : (f 452 18 + i) % 4294967296 = s + i := by rw [hs, Nat.mod_eq_of_lt (by omega)]
    rw [nthN_drop (wrd 26) i (by omega)]
    (first | (refine (vlt (x := i) (y := f 452 19) (by rw [hz]; omega) (by rw [hz]; omega)).trans ?_) | (refine (vF_g rfl rfl).trans ?_; refine (vF_g rfl rfl).trans ?_; refine (vlt (x := i) (y := f 452 19) (by rw [hz]; omega) (by rw [hz]; omega)).trans ?_) | (refine (vF_g rfl rfl).trans ?_; refine (vlt (x := i) (y := f 452 19) (by rw [hz]; omega) (by rw [hz]; omega)).trans ?_))
    (first | (refine (vbnd_0 (v_byteR (i := (f 452 18 + i) % 4294967296) (f := f) (by rw [hq]; omega) (by rw [hx.2.1]; exact hx.1))).trans ?_) | (refine (vF_g rfl rfl).trans ?_; refine (vF_g rfl rfl).trans ?_; refine (vbnd_0 (v_byteR (i := (f 452 18 + i) % 4294967296) (f := f) (by rw [hq]; omega) (by rw [hx.2.1]; exact hx.1))).trans ?_) | (refine (vF_g rfl rfl).trans ?_; refine (vbnd_0 (v_byteR (i := (f 452 18 + i) % 4294967296) (f := f) (by rw [hq]; omega) (by rw [hx.2.1]; exact hx.1))).trans ?_))
    (first | (refine (vbnd_0 (v_chr (i := i) (by decide) (by decide) (by omega))).trans ?_) | (refine (vF_g rfl rfl).trans ?_; refine (vF_g rfl rfl).trans ?_; refine (vbnd_0 (v_chr (i := i) (by decide) (by decide) (by omega))).trans ?_) | (refine (vF_g rfl rfl).trans ?_; refine (vbnd_0 (v_chr (i := i) (by decide) (by decide) (by omega))).trans ?_))
    rw [hq, hx.2.2.1]
    have hl9 := hx.2.2.2.1 (s + i)
    by_cases q : T (s + i) = nthN (wrd 26) 0 i
    · rw [show wq T (nthN (wrd 26) 0 i :: (wrd 26).drop (i + 1)) (s + i) = wq T ((wrd 26).drop (i + 1)) (s + i + 1) from if_pos q]
      (first | (refine (veq q).trans ?_) | (refine (vF_g rfl rfl).trans ?_; refine (vF_g rfl rfl).trans ?_; refine (veq q).trans ?_) | (refine (vF_g rfl rfl).trans ?_; refine (veq q).trans ?_))
      (first | (refine Eq.trans (b := vFn (vM MT0 (D + 1)) nb_X11_sees F1 4 0 [vR 452, vW 26, vI x2, vI ((i + 1) % 4294967296)] [] f) rfl ?_) | (refine (vF_g rfl rfl).trans ?_; refine (vF_g rfl rfl).trans ?_; refine Eq.trans (b := vFn (vM MT0 (D + 1)) nb_X11_sees F1 4 0 [vR 452, vW 26, vI x2, vI ((i + 1) % 4294967296)] [] f) rfl ?_) | (refine (vF_g rfl rfl).trans ?_; refine Eq.trans (b := vFn (vM MT0 (D + 1)) nb_X11_sees F1 4 0 [vR 452, vW 26, vI x2, vI ((i + 1) % 4294967296)] [] f) rfl ?_))
      rw [Nat.mod_eq_of_lt (show i + 1 < 4294967296 by omega)]
      exact ih (i + 1) F1 (by omega) (by omega)
    · rw [show wq T (nthN (wrd 26) 0 i :: (wrd 26).drop (i + 1)) (s + i) = false from if_neg q, if_neg (by decide)]
      (first | (refine (vne (x := T (s + i)) (y := nthN (wrd 26) 0 i) (by omega) (by have := wrd_lt 26 i; omega) q).trans ?_) | (refine (vF_g rfl rfl).trans ?_; refine (vF_g rfl rfl).trans ?_; refine (vne (x := T (s + i)) (y := nthN (wrd 26) 0 i) (by omega) (by have := wrd_lt 26 i; omega) q).trans ?_) | (refine (vF_g rfl rfl).trans ?_; refine (vne (x := T (s + i)) (y := nthN (wrd 26) 0 i) (by omega) (by have := wrd_lt 26 i; omega) q).trans ?_))
      (first | (exact rfl) | (refine (vF_g rfl rfl).trans ?_; refine (vF_g rfl rfl).trans ?_; exact rfl) | (refine (vF_g rfl rfl).trans ?_; refine (vF_g rfl rfl).trans ?_; refine (vF_g rfl rfl).trans ?_; exact rfl) | (refine (vF_g rfl rfl).trans ?_; exact rfl))
theorem v_sees_26 {D n p : Nat} {T : Nat → Nat} {f : Vw} (hx : TxR f n T) (hp9 : f 452 17 = p) (hp : p ≤ n) (he : f 452 20 = 0) : vM MT0 (D + 3) 231 [vR 452, vW 26] f = some ((0, 0), vI (if tZ T p = (wrd 26).length ∧ wq T (wrd 26) (tS T p) = true then 1 else 0), rkv f T p) := by
  have hl := wrd_len 26
  have hn := hx.1
  have hz := tZ_le (T := T) hx.2.2.2.2 hp
  have e20 : rkv f T p 452 20 = 0 := by rw [rkv_o (Or.inr (by decide))]; exact he
  refine vM_go rfl rfl rfl rfl fun F hF => ?_
  (first | (refine (vbnd_0 (v_nextR hx hp9 hp)).trans ?_) | (refine (vF_g rfl rfl).trans ?_; refine (vF_g rfl rfl).trans ?_; refine (vbnd_0 (v_nextR hx hp9 hp)).trans ?_) | (refine (vF_g rfl rfl).trans ?_; refine (vbnd_0 (v_nextR hx hp9 hp)).trans ?_))
  (first | (refine (veq e20).trans ?_) | (refine (vF_g rfl rfl).trans ?_; refine (vF_g rfl rfl).trans ?_; refine (veq e20).trans ?_) | (refine (vF_g rfl rfl).trans ?_; refine (veq e20).trans ?_))
  (first | (refine (vbnd_0 (v_len (by decide) (by decide))).trans ?_) | (refine (vF_g rfl rfl).trans ?_; refine (vF_g rfl rfl).trans ?_; refine (vbnd_0 (v_len (by decide) (by decide))).trans ?_) | (refine (vF_g rfl rfl).trans ?_; refine (vbnd_0 (v_len (by decide) (by decide))).trans ?_))
  by_cases c : tZ T p = (wrd 26).length
  · (first | (refine (veq (x := rkv f T p 452 19) (y := (wrd 26).length) (by rw [rkv_19]; exact c)).trans ?_) | (refine (vF_g rfl rfl).trans ?_; refine (vF_g rfl rfl).trans ?_; refine (veq (x := rkv f T p 452 19) (y := (wrd 26).length) (by rw [rkv_19]; exact c)).trans ?_) | (refine (vF_g rfl rfl).trans ?_; refine (veq (x := rkv f T p 452 19) (y := (wrd 26).length) (by rw [rkv_19]; exact c)).trans ?_))
    (first | (refine Eq.trans (b := vFn (vM MT0 (D + 2)) nb_X11_sees (F + 57) 4 0 [vR 452, vW 26, vI (T (tS T p)), vI 0] [] (rkv f T p)) rfl ?_) | (refine (vF_g rfl rfl).trans ?_; refine (vF_g rfl rfl).trans ?_; refine Eq.trans (b := vFn (vM MT0 (D + 2)) nb_X11_sees (F + 57) 4 0 [vR 452, vW 26, vI (T (tS T p)), vI 0] [] (rkv f T p)) rfl ?_) | (refine (vF_g rfl rfl).trans ?_; refine Eq.trans (b := vFn (vM MT0 (D + 2)) nb_X11_sees (F + 57) 4 0 [vR 452, vW 26, vI (T (tS T p)), vI 0] [] (rkv f T p)) rfl ?_))
    rw [se_loop_26 (txR_rkv hx) rkv_18 (by rw [rkv_19]; exact c) (by omega) (wrd 26).length 0 (F + 57) (by omega) (by omega)]
    by_cases c3 : wq T (wrd 26) (tS T p) = true
    · rw [if_pos (show wq T ((wrd 26).drop 0) (tS T p + 0) = true from c3), if_pos ⟨c, c3⟩]
    · rw [if_neg (show ¬ wq T ((wrd 26).drop 0) (tS T p + 0) = true from c3), if_neg (fun q => c3 q.2)]
  · rw [if_neg (fun q => c q.1)]
    (first | (refine (vne (x := rkv f T p 452 19) (y := (wrd 26).length) (by rw [rkv_19]; omega) (by omega) (by rw [rkv_19]; exact c)).trans ?_) | (refine (vF_g rfl rfl).trans ?_; refine (vF_g rfl rfl).trans ?_; refine (vne (x := rkv f T p 452 19) (y := (wrd 26).length) (by rw [rkv_19]; omega) (by omega) (by rw [rkv_19]; exact c)).trans ?_) | (refine (vF_g rfl rfl).trans ?_; refine (vne (x := rkv f T p 452 19) (y := (wrd 26).length) (by rw [rkv_19]; omega) (by omega) (by rw [rkv_19]; exact c)).trans ?_))
    (first | (exact rfl) | (refine (vF_g rfl rfl).trans ?_; refine (vF_g rfl rfl).trans ?_; exact rfl) | (refine (vF_g rfl rfl).trans ?_; refine (vF_g rfl rfl).trans ?_; refine (vF_g rfl rfl).trans ?_; exact rfl) | (refine (vF_g rfl rfl).trans ?_; exact rfl))
theorem se_loop_27 {D n s x2 : Nat} {T : Nat → Nat} {f : Vw} (hx : TxR f n T) (hs : f 452 18 = s) (hz : f 452 19 = (wrd 27).length) (hs9 : s ≤ 900) : ∀ (m i F : Nat), i + m = (wrd 27).length → 3 * m + 3 ≤ F → vFn (vM MT0 (D + 1)) nb_X11_sees F 4 0 [vR 452, vW 27, vI x2, vI i] [] f = some ((0, 0), vI (if wq T ((wrd 27).drop i) (s + i) = true then 1 else 0), f) := by
  have hl := wrd_len 27
  intro m
  induction m with
  | zero =>
    intro i F hi hF
    obtain ⟨F1, rfl⟩ : ∃ F1, F = F1 + 2 := ⟨F - 2, by omega⟩
    rw [List.drop_eq_nil_of_le (show (wrd 27).length ≤ i by omega), show wq T [] (s + i) = true from rfl, if_pos rfl]
    (first | (refine (vge2 (x := i) (y := f 452 19) (by omega) (by rw [hz]; omega)).trans ?_) | (refine (vF_g rfl rfl).trans ?_; refine (vF_g rfl rfl).trans ?_; refine (vge2 (x := i) (y := f 452 19) (by omega) (by rw [hz]; omega)).trans ?_) | (refine (vF_g rfl rfl).trans ?_; refine (vge2 (x := i) (y := f 452 19) (by omega) (by rw [hz]; omega)).trans ?_))
    (first | (exact rfl) | (refine (vF_g rfl rfl).trans ?_; refine (vF_g rfl rfl).trans ?_; exact rfl) | (refine (vF_g rfl rfl).trans ?_; refine (vF_g rfl rfl).trans ?_; refine (vF_g rfl rfl).trans ?_; exact rfl) | (refine (vF_g rfl rfl).trans ?_; exact rfl))
  | succ m ih =>
    intro i F hi hF
    obtain ⟨F1, rfl⟩ : ∃ F1, F = F1 + 3 := ⟨F - 3, by omega⟩
    have hq : (f 452 18 + i) % 4294967296 = s + i := by rw [hs, Nat.mod_eq_of_lt (by omega)]
    rw [nthN_drop (wrd 27) i (by omega)]
    (first | (refine (vlt (x := i) (y := f 452 19) (by rw [hz]; omega) (by rw [hz]; omega)).trans ?_) | (refine (vF_g rfl rfl).trans ?_; refine (vF_g rfl rfl).trans ?_; refine (vlt (x := i) (y := f 452 19) (by rw [hz]; omega) (by rw [hz]; omega)).trans ?_) | (refine (vF_g rfl rfl).trans ?_; refine (vlt (x := i) (y := f 452 19) (by rw [hz]; omega) (by rw [hz]; omega)).trans ?_))
    (first | (refine (vbnd_0 (v_byteR (i := (f 452 18 + i) % 4294967296) (f := f) (by rw [hq]; omega) (by rw [hx.2.1]; exact hx.1))).trans ?_) | (refine (vF_g rfl rfl).trans ?_; refine (vF_g rfl rfl).trans ?_; refine (vbnd_0 (v_byteR (i := (f 452 18 + i) % 4294967296) (f := f) (by rw [hq]; omega) (by rw [hx.2.1]; exact hx.1))).trans ?_) | (refine (vF_g rfl rfl).trans ?_; refine (vbnd_0 (v_byteR (i := (f 452 18 + i) % 4294967296) (f := f) (by rw [hq]; omega) (by rw [hx.2.1]; exact hx.1))).trans ?_))
    (first | (refine (vbnd_0 (v_chr (i := i) (by decide) (by decide) (by omega))).trans ?_) | (refine (vF_g rfl rfl).trans ?_; refine (vF_g rfl rfl).trans ?_; refine (vbnd_0 (v_chr (i := i) (by decide) (by decide) (by omega))).trans ?_) | (refine (vF_g rfl rfl).trans ?_; refine (vbnd_0 (v_chr (i := i) (by decide) (by decide) (by omega))).trans ?_))
    rw [hq, hx.2.2.1]
    have hl9 := hx.2.2.2.1 (s + i)
    by_cases q : T (s + i) = nthN (wrd 27) 0 i
    · rw [show wq T (nthN (wrd 27) 0 i :: (wrd 27).drop (i + 1)) (s + i) = wq T ((wrd 27).drop (i + 1)) (s + i + 1) from if_pos q]
      (first | (refine (veq q).trans ?_) | (refine (vF_g rfl rfl).trans ?_; refine (vF_g rfl rfl).trans ?_; refine (veq q).trans ?_) | (refine (vF_g rfl rfl).trans ?_; refine (veq q).trans ?_))
      (first | (refine Eq.trans (b := vFn (vM MT0 (D + 1)) nb_X11_sees F1 4 0 [vR 452, vW 27, vI x2, vI ((i + 1) % 4294967296)] [] f) rfl ?_) | (refine (vF_g rfl rfl).trans ?_; refine (vF_g rfl rfl).trans ?_; refine Eq.trans (b := vFn (vM MT0 (D + 1)) nb_X11_sees F1 4 0 [vR 452, vW 27, vI x2, vI ((i + 1) % 4294967296)] [] f) rfl ?_) | (refine (vF_g rfl rfl).trans ?_; refine Eq.trans (b := vFn (vM MT0 (D + 1)) nb_X11_sees F1 4 0 [vR 452, vW 27, vI x2, vI ((i + 1) % 4294967296)] [] f) rfl ?_))
      rw [Nat.mod_eq_of_lt (show i + 1 < 4294967296 by omega)]
      exact ih (i + 1) F1 (by omega) (by omega)
    · rw [show wq T (nthN (wrd 27) 0 i :: (wrd 27).drop (i + 1)) (s + i) = false from if_neg q, if_neg (by decide)]
      (first | (refine (vne (x := T (s + i)) (y := nthN (wrd 27) 0 i) (by omega) (by have := wrd_lt 27 i; omega) q).trans ?_) | (refine (vF_g rfl rfl).trans ?_; refine (vF_g rfl rfl).trans ?_; refine (vne (x := T (s + i)) (y := nthN (wrd 27) 0 i) (by omega) (by have := wrd_lt 27 i; omega) q).trans ?_) | (refine (vF_g rfl rfl).trans ?_; refine (vne (x := T (s + i)) (y := nthN (wrd 27) 0 i) (by omega) (by have := wrd_lt 27 i; omega) q).trans ?_))
      (first | (exact rfl) | (refine (vF_g rfl rfl).trans ?_; refine (vF_g rfl rfl).trans ?_; exact rfl) | (refine (vF_g rfl rfl).trans ?_; refine (vF_g rfl rfl).trans ?_; refine (vF_g rfl rfl).trans ?_; exact rfl) | (refine (vF_g rfl rfl).trans ?_; exact rfl))
theorem v_sees_27 {D n p : Nat} {T : Nat → Nat} {f : Vw} (hx : TxR f n T) (hp9 : f 452 17 = p) (hp : p ≤ n) (he : f 452 20 = 0) : vM MT0 (D + 3) 231 [vR 452, vW 27] f = some ((0, 0), vI (if tZ T p = (wrd 27).length ∧ wq T (wrd 27) (tS T p) = true then 1 else 0), rkv f T p) := by
  have hl := wrd_len 27
  have hn := hx.1
  have hz := tZ_le (T := T) hx.2.2.2.2 hp
  have e20 : rkv f T p 452 20 = 0 := by rw [rkv_o (Or.inr (by decide))]; exact he
  refine vM_go rfl rfl rfl rfl fun F hF => ?_
  (first | (refine (vbnd_0 (v_nextR hx hp9 hp)).trans ?_) | (refine (vF_g rfl rfl).trans ?_; refine (vF_g rfl rfl).trans ?_; refine (vbnd_0 (v_nextR hx hp9 hp)).trans ?_) | (refine (vF_g rfl rfl).trans ?_; refine (vbnd_0 (v_nextR hx hp9 hp)).trans ?_))
  (first | (refine (veq e20).trans ?_) | (refine (vF_g rfl rfl).trans ?_; refine (vF_g rfl rfl).trans ?_; refine (veq e20).trans ?_) | (refine (vF_g rfl rfl).trans ?_; refine (veq e20).trans ?_))
  (first | (refine (vbnd_0 (v_len (by decide) (by decide))).trans ?_) | (refine (vF_g rfl rfl).trans ?_; refine (vF_g rfl rfl).trans ?_; refine (vbnd_0 (v_len (by decide) (by decide))).trans ?_) | (refine (vF_g rfl rfl).trans ?_; refine (vbnd_0 (v_len (by decide) (by decide))).trans ?_))
  by_cases c : tZ T p = (wrd 27).length
  · (first | (refine (veq (x := rkv f T p 452 19) (y := (wrd 27).length) (by rw [rkv_19]; exact c)).trans ?_) | (refine (vF_g rfl rfl).trans ?_; refine (vF_g rfl rfl).trans ?_; refine (veq (x := rkv f T p 452 19) (y := (wrd 27).length) (by rw [rkv_19]; exact c)).trans ?_) | (refine (vF_g rfl rfl).trans ?_; refine (veq (x := rkv f T p 452 19) (y := (wrd 27).length) (by rw [rkv_19]; exact c)).trans ?_))
    (first | (refine Eq.trans (b := vFn (vM MT0 (D + 2)) nb_X11_sees (F + 57) 4 0 [vR 452, vW 27, vI (T (tS T p)), vI 0] [] (rkv f T p)) rfl ?_) | (refine (vF_g rfl rfl).trans ?_; refine (vF_g rfl rfl).trans ?_; refine Eq.trans (b := vFn (vM MT0 (D + 2)) nb_X11_sees (F + 57) 4 0 [vR 452, vW 27, vI (T (tS T p)), vI 0] [] (rkv f T p)) rfl ?_) | (refine (vF_g rfl rfl).trans ?_; refine Eq.trans (b := vFn (vM MT0 (D + 2)) nb_X11_sees (F + 57) 4 0 [vR 452, vW 27, vI (T (tS T p)), vI 0] [] (rkv f T p)) rfl ?_))
    rw [se_loop_27 (txR_rkv hx) rkv_18 (by rw [rkv_19]; exact c) (by omega) (wrd 27).length 0 (F + 57) (by omega) (by omega)]
    by_cases c3 : wq T (wrd 27) (tS T p) = true
    · rw [if_pos (show wq T ((wrd 27).drop 0) (tS T p + 0) = true from c3), if_pos ⟨c, c3⟩]
    · rw [if_neg (show ¬ wq T ((wrd 27).drop 0) (tS T p + 0) = true from c3), if_neg (fun q => c3 q.2)]
  · rw [if_neg (fun q => c q.1)]
    (first | (refine (vne (x := rkv f T p 452 19) (y := (wrd 27).length) (by rw [rkv_19]; omega) (by omega) (by rw [rkv_19]; exact c)).trans ?_) | (refine (vF_g rfl rfl).trans ?_; refine (vF_g rfl rfl).trans ?_; refine (vne (x := rkv f T p 452 19) (y := (wrd 27).length) (by rw [rkv_19]; omega) (by omega) (by rw [rkv_19]; exact c)).trans ?_) | (refine (vF_g rfl rfl).trans ?_; refine (vne (x := rkv f T p 452 19) (y := (wrd 27).length) (by rw [rkv_19]; omega) (by omega) (by rw [rkv_19]; exact c)).trans ?_))
    (first | (exact rfl) | (refine (vF_g rfl rfl).trans ?_; refine (vF_g rfl rfl).trans ?_; exact rfl) | (refine (vF_g rfl rfl).trans ?_; refine (vF_g rfl rfl).trans ?_; refine (vF_g rfl rfl).trans ?_; exact rfl) | (refine (vF_g rfl rfl).trans ?_; exact rfl))
theorem se_loop_28 {D n s x2 : Nat} {T : Nat → Nat} {f : Vw} (hx : TxR f n T) (hs : f 452 18 = s) (hz : f 452 19 = (wrd 28).length) (hs9 : s ≤ 900) : ∀ (m i F : Nat), i + m = (wrd 28).length → 3 * m + 3 ≤ F → vFn (vM MT0 (D + 1)) nb_X11_sees F 4 0 [vR 452, vW 28, vI x2, vI i] [] f = some ((0, 0), vI (if wq T ((wrd 28).drop i) (s + i) = true then 1 else 0), f) := by
  have hl := wrd_len 28
  intro m
  induction m with
  | zero =>
    intro i F hi hF
    obtain ⟨F1, rfl⟩ : ∃ F1, F = F1 + 2 := ⟨F - 2, by omega⟩
    rw [List.drop_eq_nil_of_le (show (wrd 28).length ≤ i by omega), show wq T [] (s + i) = true from rfl, if_pos rfl]
    (first | (refine (vge2 (x := i) (y := f 452 19) (by omega) (by rw [hz]; omega)).trans ?_) | (refine (vF_g rfl rfl).trans ?_; refine (vF_g rfl rfl).trans ?_; refine (vge2 (x := i) (y := f 452 19) (by omega) (by rw [hz]; omega)).trans ?_) | (refine (vF_g rfl rfl).trans ?_; refine (vge2 (x := i) (y := f 452 19) (by omega) (by rw [hz]; omega)).trans ?_))
    (first | (exact rfl) | (refine (vF_g rfl rfl).trans ?_; refine (vF_g rfl rfl).trans ?_; exact rfl) | (refine (vF_g rfl rfl).trans ?_; refine (vF_g rfl rfl).trans ?_; refine (vF_g rfl rfl).trans ?_; exact rfl) | (refine (vF_g rfl rfl).trans ?_; exact rfl))
  | succ m ih =>
    intro i F hi hF
    obtain ⟨F1, rfl⟩ : ∃ F1, F = F1 + 3 := ⟨F - 3, by omega⟩
    have hq : (f 452 18 + i) % 4294967296 = s + i := by rw [hs, Nat.mod_eq_of_lt (by omega)]
    rw [nthN_drop (wrd 28) i (by omega)]
    (first | (refine (vlt (x := i) (y := f 452 19) (by rw [hz]; omega) (by rw [hz]; omega)).trans ?_) | (refine (vF_g rfl rfl).trans ?_; refine (vF_g rfl rfl).trans ?_; refine (vlt (x := i) (y := f 452 19) (by rw [hz]; omega) (by rw [hz]; omega)).trans ?_) | (refine (vF_g rfl rfl).trans ?_; refine (vlt (x := i) (y := f 452 19) (by rw [hz]; omega) (by rw [hz]; omega)).trans ?_))
    (first | (refine (vbnd_0 (v_byteR (i := (f 452 18 + i) % 4294967296) (f := f) (by rw [hq]; omega) (by rw [hx.2.1]; exact hx.1))).trans ?_) | (refine (vF_g rfl rfl).trans ?_; refine (vF_g rfl rfl).trans ?_; refine (vbnd_0 (v_byteR (i := (f 452 18 + i) % 4294967296) (f := f) (by rw [hq]; omega) (by rw [hx.2.1]; exact hx.1))).trans ?_) | (refine (vF_g rfl rfl).trans ?_; refine (vbnd_0 (v_byteR (i := (f 452 18 + i) % 4294967296) (f := f) (by rw [hq]; omega) (by rw [hx.2.1]; exact hx.1))).trans ?_))
    (first | (refine (vbnd_0 (v_chr (i := i) (by decide) (by decide) (by omega))).trans ?_) | (refine (vF_g rfl rfl).trans ?_; refine (vF_g rfl rfl).trans ?_; refine (vbnd_0 (v_chr (i := i) (by decide) (by decide) (by omega))).trans ?_) | (refine (vF_g rfl rfl).trans ?_; refine (vbnd_0 (v_chr (i := i) (by decide) (by decide) (by omega))).trans ?_))
    rw [hq, hx.2.2.1]
    have hl9 := hx.2.2.2.1 (s + i)
    by_cases q : T (s + i) = nthN (wrd 28) 0 i
    · rw [show wq T (nthN (wrd 28) 0 i :: (wrd 28).drop (i + 1)) (s + i) = wq T ((wrd 28).drop (i + 1)) (s + i + 1) from if_pos q]
      (first | (refine (veq q).trans ?_) | (refine (vF_g rfl rfl).trans ?_; refine (vF_g rfl rfl).trans ?_; refine (veq q).trans ?_) | (refine (vF_g rfl rfl).trans ?_; refine (veq q).trans ?_))
      (first | (refine Eq.trans (b := vFn (vM MT0 (D + 1)) nb_X11_sees F1 4 0 [vR 452, vW 28, vI x2, vI ((i + 1) % 4294967296)] [] f) rfl ?_) | (refine (vF_g rfl rfl).trans ?_; refine (vF_g rfl rfl).trans ?_; refine Eq.trans (b := vFn (vM MT0 (D + 1)) nb_X11_sees F1 4 0 [vR 452, vW 28, vI x2, vI ((i + 1) % 4294967296)] [] f) rfl ?_) | (refine (vF_g rfl rfl).trans ?_; refine Eq.trans (b := vFn (vM MT0 (D + 1)) nb_X11_sees F1 4 0 [vR 452, vW 28, vI x2, vI ((i + 1) % 4294967296)] [] f) rfl ?_))
      rw [Nat.mod_eq_of_lt (show i + 1 < 4294967296 by omega)]
      exact ih (i + 1) F1 (by omega) (by omega)
    · rw [show wq T (nthN (wrd 28) 0 i :: (wrd 28).drop (i + 1)) (s + i) = false from if_neg q, if_neg (by decide)]
      (first | (refine (vne (x := T (s + i)) (y := nthN (wrd 28) 0 i) (by omega) (by have := wrd_lt 28 i; omega) q).trans ?_) | (refine (vF_g rfl rfl).trans ?_; refine (vF_g rfl rfl).trans ?_; refine (vne (x := T (s + i)) (y := nthN (wrd 28) 0 i) (by omega) (by have := wrd_lt 28 i; omega) q).trans ?_) | (refine (vF_g rfl rfl).trans ?_; refine (vne (x := T (s + i)) (y := nthN (wrd 28) 0 i) (by omega) (by have := wrd_lt 28 i; omega) q).trans ?_))
      (first | (exact rfl) | (refine (vF_g rfl rfl).trans ?_; refine (vF_g rfl rfl).trans ?_; exact rfl) | (refine (vF_g rfl rfl).trans ?_; refine (vF_g rfl rfl).trans ?_; refine (vF_g rfl rfl).trans ?_; exact rfl) | (refine (vF_g rfl rfl).trans ?_; exact rfl))
theorem v_sees_28 {D n p : Nat} {T : Nat → Nat} {f : Vw} (hx : TxR f n T) (hp9 : f 452 17 = p) (hp : p ≤ n) (he : f 452 20 = 0) : vM MT0 (D + 3) 231 [vR 452, vW 28] f = some ((0, 0), vI (if tZ T p = (wrd 28).length ∧ wq T (wrd 28) (tS T p) = true then 1 else 0), rkv f T p) := by
  have hl := wrd_len 28
  have hn := hx.1
  have hz := tZ_le (T := T) hx.2.2.2.2 hp
  have e20 : rkv f T p 452 20 = 0 := by rw [rkv_o (Or.inr (by decide))]; exact he
  refine vM_go rfl rfl rfl rfl fun F hF => ?_
  (first | (refine (vbnd_0 (v_nextR hx hp9 hp)).trans ?_) | (refine (vF_g rfl rfl).trans ?_; refine (vF_g rfl rfl).trans ?_; refine (vbnd_0 (v_nextR hx hp9 hp)).trans ?_) | (refine (vF_g rfl rfl).trans ?_; refine (vbnd_0 (v_nextR hx hp9 hp)).trans ?_))
  (first | (refine (veq e20).trans ?_) | (refine (vF_g rfl rfl).trans ?_; refine (vF_g rfl rfl).trans ?_; refine (veq e20).trans ?_) | (refine (vF_g rfl rfl).trans ?_; refine (veq e20).trans ?_))
  (first | (refine (vbnd_0 (v_len (by decide) (by decide))).trans ?_) | (refine (vF_g rfl rfl).trans ?_; refine (vF_g rfl rfl).trans ?_; refine (vbnd_0 (v_len (by decide) (by decide))).trans ?_) | (refine (vF_g rfl rfl).trans ?_; refine (vbnd_0 (v_len (by decide) (by decide))).trans ?_))
  by_cases c : tZ T p = (wrd 28).length
  · (first | (refine (veq (x := rkv f T p 452 19) (y := (wrd 28).length) (by rw [rkv_19]; exact c)).trans ?_) | (refine (vF_g rfl rfl).trans ?_; refine (vF_g rfl rfl).trans ?_; refine (veq (x := rkv f T p 452 19) (y := (wrd 28).length) (by rw [rkv_19]; exact c)).trans ?_) | (refine (vF_g rfl rfl).trans ?_; refine (veq (x := rkv f T p 452 19) (y := (wrd 28).length) (by rw [rkv_19]; exact c)).trans ?_))
    (first | (refine Eq.trans (b := vFn (vM MT0 (D + 2)) nb_X11_sees (F + 57) 4 0 [vR 452, vW 28, vI (T (tS T p)), vI 0] [] (rkv f T p)) rfl ?_) | (refine (vF_g rfl rfl).trans ?_; refine (vF_g rfl rfl).trans ?_; refine Eq.trans (b := vFn (vM MT0 (D + 2)) nb_X11_sees (F + 57) 4 0 [vR 452, vW 28, vI (T (tS T p)), vI 0] [] (rkv f T p)) rfl ?_) | (refine (vF_g rfl rfl).trans ?_; refine Eq.trans (b := vFn (vM MT0 (D + 2)) nb_X11_sees (F + 57) 4 0 [vR 452, vW 28, vI (T (tS T p)), vI 0] [] (rkv f T p)) rfl ?_))
    rw [se_loop_28 (txR_rkv hx) rkv_18 (by rw [rkv_19]; exact c) (by omega) (wrd 28).length 0 (F + 57) (by omega) (by omega)]
    by_cases c3 : wq T (wrd 28) (tS T p) = true
    · rw [if_pos (show wq T ((wrd 28).drop 0) (tS T p + 0) = true from c3), if_pos ⟨c, c3⟩]
    · rw [if_neg (show ¬ wq T ((wrd 28).drop 0) (tS T p + 0) = true from c3), if_neg (fun q => c3 q.2)]
  · rw [if_neg (fun q => c q.1)]
    (first | (refine (vne (x := rkv f T p 452 19) (y := (wrd 28).length) (by rw [rkv_19]; omega) (by omega) (by rw [rkv_19]; exact c)).trans ?_) | (refine (vF_g rfl rfl).trans ?_; refine (vF_g rfl rfl).trans ?_; refine (vne (x := rkv f T p 452 19) (y := (wrd 28).length) (by rw [rkv_19]; omega) (by omega) (by rw [rkv_19]; exact c)).trans ?_) | (refine (vF_g rfl rfl).trans ?_; refine (vne (x := rkv f T p 452 19) (y := (wrd 28).length) (by rw [rkv_19]; omega) (by omega) (by rw [rkv_19]; exact c)).trans ?_))
    (first | (exact rfl) | (refine (vF_g rfl rfl).trans ?_; refine (vF_g rfl rfl).trans ?_; exact rfl) | (refine (vF_g rfl rfl).trans ?_; refine (vF_g rfl rfl).trans ?_; refine (vF_g rfl rfl).trans ?_; exact rfl) | (refine (vF_g rfl rfl).trans ?_; exact rfl))
theorem se_loop_29 {D n s x2 : Nat} {T : Nat → Nat} {f : Vw} (hx : TxR f n T) (hs : f 452 18 = s) (hz : f 452 19 = (wrd 29).length) (hs9 : s ≤ 900) : ∀ (m i F : Nat), i + m = (wrd 29).length → 3 * m + 3 ≤ F → vFn (vM MT0 (D + 1)) nb_X11_sees F 4 0 [vR 452, vW 29, vI x2, vI i] [] f = some ((0, 0), vI (if wq T ((wrd 29).drop i) (s + i) = true then 1 else 0), f) := by
  have hl := wrd_len 29
  intro m
  induction m with
  | zero =>
    intro i F hi hF
    obtain ⟨F1, rfl⟩ : ∃ F1, F = F1 + 2 := ⟨F - 2, by omega⟩
    rw [List.drop_eq_nil_of_le (show (wrd 29).length ≤ i by omega), show wq T [] (s + i) = true from rfl, if_pos rfl]
    (first | (refine (vge2 (x := i) (y := f 452 19) (by omega) (by rw [hz]; omega)).trans ?_) | (refine (vF_g rfl rfl).trans ?_; refine (vF_g rfl rfl).trans ?_; refine (vge2 (x := i) (y := f 452 19) (by omega) (by rw [hz]; omega)).trans ?_) | (refine (vF_g rfl rfl).trans ?_; refine (vge2 (x := i) (y := f 452 19) (by omega) (by rw [hz]; omega)).trans ?_))
    (first | (exact rfl) | (refine (vF_g rfl rfl).trans ?_; refine (vF_g rfl rfl).trans ?_; exact rfl) | (refine (vF_g rfl rfl).trans ?_; refine (vF_g rfl rfl).trans ?_; refine (vF_g rfl rfl).trans ?_; exact rfl) | (refine (vF_g rfl rfl).trans ?_; exact rfl))
  | succ m ih =>
    intro i F hi hF
    obtain ⟨F1, rfl⟩ : ∃ F1, F = F1 + 3 := ⟨F - 3, by omega⟩
    have hq : (f 452 18 + i) % 4294967296 = s + i := by rw [hs, Nat.mod_eq_of_lt (by omega)]
    rw [nthN_drop (wrd 29) i (by omega)]
    (first | (refine (vlt (x := i) (y := f 452 19) (by rw [hz]; omega) (by rw [hz]; omega)).trans ?_) | (refine (vF_g rfl rfl).trans ?_; refine (vF_g rfl rfl).trans ?_; refine (vlt (x := i) (y := f 452 19) (by rw [hz]; omega) (by rw [hz]; omega)).trans ?_) | (refine (vF_g rfl rfl).trans ?_; refine (vlt (x := i) (y := f 452 19) (by rw [hz]; omega) (by rw [hz]; omega)).trans ?_))
    (first | (refine (vbnd_0 (v_byteR (i := (f 452 18 + i) % 4294967296) (f := f) (by rw [hq]; omega) (by rw [hx.2.1]; exact hx.1))).trans ?_) | (refine (vF_g rfl rfl).trans ?_; refine (vF_g rfl rfl).trans ?_; refine (vbnd_0 (v_byteR (i := (f 452 18 + i) % 4294967296) (f := f) (by rw [hq]; omega) (by rw [hx.2.1]; exact hx.1))).trans ?_) | (refine (vF_g rfl rfl).trans ?_; refine (vbnd_0 (v_byteR (i := (f 452 18 + i) % 4294967296) (f := f) (by rw [hq]; omega) (by rw [hx.2.1]; exact hx.1))).trans ?_))
    (first | (refine (vbnd_0 (v_chr (i := i) (by decide) (by decide) (by omega))).trans ?_) | (refine (vF_g rfl rfl).trans ?_; refine (vF_g rfl rfl).trans ?_; refine (vbnd_0 (v_chr (i := i) (by decide) (by decide) (by omega))).trans ?_) | (refine (vF_g rfl rfl).trans ?_; refine (vbnd_0 (v_chr (i := i) (by decide) (by decide) (by omega))).trans ?_))
    rw [hq, hx.2.2.1]
    have hl9 := hx.2.2.2.1 (s + i)
    by_cases q : T (s + i) = nthN (wrd 29) 0 i
    · rw [show wq T (nthN (wrd 29) 0 i :: (wrd 29).drop (i + 1)) (s + i) = wq T ((wrd 29).drop (i + 1)) (s + i + 1) from if_pos q]
      (first | (refine (veq q).trans ?_) | (refine (vF_g rfl rfl).trans ?_; refine (vF_g rfl rfl).trans ?_; refine (veq q).trans ?_) | (refine (vF_g rfl rfl).trans ?_; refine (veq q).trans ?_))
      (first | (refine Eq.trans (b := vFn (vM MT0 (D + 1)) nb_X11_sees F1 4 0 [vR 452, vW 29, vI x2, vI ((i + 1) % 4294967296)] [] f) rfl ?_) | (refine (vF_g rfl rfl).trans ?_; refine (vF_g rfl rfl).trans ?_; refine Eq.trans (b := vFn (vM MT0 (D + 1)) nb_X11_sees F1 4 0 [vR 452, vW 29, vI x2, vI ((i + 1) % 4294967296)] [] f) rfl ?_) | (refine (vF_g rfl rfl).trans ?_; refine Eq.trans (b := vFn (vM MT0 (D + 1)) nb_X11_sees F1 4 0 [vR 452, vW 29, vI x2, vI ((i + 1) % 4294967296)] [] f) rfl ?_))
      rw [Nat.mod_eq_of_lt (show i + 1 < 4294967296 by omega)]
      exact ih (i + 1) F1 (by omega) (by omega)
    · rw [show wq T (nthN (wrd 29) 0 i :: (wrd 29).drop (i + 1)) (s + i) = false from if_neg q, if_neg (by decide)]
      (first | (refine (vne (x := T (s + i)) (y := nthN (wrd 29) 0 i) (by omega) (by have := wrd_lt 29 i; omega) q).trans ?_) | (refine (vF_g rfl rfl).trans ?_; refine (vF_g rfl rfl).trans ?_; refine (vne (x := T (s + i)) (y := nthN (wrd 29) 0 i) (by omega) (by have := wrd_lt 29 i; omega) q).trans ?_) | (refine (vF_g rfl rfl).trans ?_; refine (vne (x := T (s + i)) (y := nthN (wrd 29) 0 i) (by omega) (by have := wrd_lt 29 i; omega) q).trans ?_))
      (first | (exact rfl) | (refine (vF_g rfl rfl).trans ?_; refine (vF_g rfl rfl).trans ?_; exact rfl) | (refine (vF_g rfl rfl).trans ?_; refine (vF_g rfl rfl).trans ?_; refine (vF_g rfl rfl).trans ?_; exact rfl) | (refine (vF_g rfl rfl).trans ?_; exact rfl))
theorem v_sees_29 {D n p : Nat} {T : Nat → Nat} {f : Vw} (hx : TxR f n T) (hp9 : f 452 17 = p) (hp : p ≤ n) (he : f 452 20 = 0) : vM MT0 (D + 3) 231 [vR 452, vW 29] f = some ((0, 0), vI (if tZ T p = (wrd 29).length ∧ wq T (wrd 29) (tS T p) = true then 1 else 0), rkv f T p) := by
  have hl := wrd_len 29
  have hn := hx.1
  have hz := tZ_le (T := T) hx.2.2.2.2 hp
  have e20 : rkv f T p 452 20 = 0 := by rw [rkv_o (Or.inr (by decide))]; exact he
  refine vM_go rfl rfl rfl rfl fun F hF => ?_
  (first | (refine (vbnd_0 (v_nextR hx hp9 hp)).trans ?_) | (refine (vF_g rfl rfl).trans ?_; refine (vF_g rfl rfl).trans ?_; refine (vbnd_0 (v_nextR hx hp9 hp)).trans ?_) | (refine (vF_g rfl rfl).trans ?_; refine (vbnd_0 (v_nextR hx hp9 hp)).trans ?_))
  (first | (refine (veq e20).trans ?_) | (refine (vF_g rfl rfl).trans ?_; refine (vF_g rfl rfl).trans ?_; refine (veq e20).trans ?_) | (refine (vF_g rfl rfl).trans ?_; refine (veq e20).trans ?_))
  (first | (refine (vbnd_0 (v_len (by decide) (by decide))).trans ?_) | (refine (vF_g rfl rfl).trans ?_; refine (vF_g rfl rfl).trans ?_; refine (vbnd_0 (v_len (by decide) (by decide))).trans ?_) | (refine (vF_g rfl rfl).trans ?_; refine (vbnd_0 (v_len (by decide) (by decide))).trans ?_))
  by_cases c : tZ T p = (wrd 29).length
  · (first | (refine (veq (x := rkv f T p 452 19) (y := (wrd 29).length) (by rw [rkv_19]; exact c)).trans ?_) | (refine (vF_g rfl rfl).trans ?_; refine (vF_g rfl rfl).trans ?_; refine (veq (x := rkv f T p 452 19) (y := (wrd 29).length) (by rw [rkv_19]; exact c)).trans ?_) | (refine (vF_g rfl rfl).trans ?_; refine (veq (x := rkv f T p 452 19) (y := (wrd 29).length) (by rw [rkv_19]; exact c)).trans ?_))
    (first | (refine Eq.trans (b := vFn (vM MT0 (D + 2)) nb_X11_sees (F + 57) 4 0 [vR 452, vW 29, vI (T (tS T p)), vI 0] [] (rkv f T p)) rfl ?_) | (refine (vF_g rfl rfl).trans ?_; refine (vF_g rfl rfl).trans ?_; refine Eq.trans (b := vFn (vM MT0 (D + 2)) nb_X11_sees (F + 57) 4 0 [vR 452, vW 29, vI (T (tS T p)), vI 0] [] (rkv f T p)) rfl ?_) | (refine (vF_g rfl rfl).trans ?_; refine Eq.trans (b := vFn (vM MT0 (D + 2)) nb_X11_sees (F + 57) 4 0 [vR 452, vW 29, vI (T (tS T p)), vI 0] [] (rkv f T p)) rfl ?_))
    rw [se_loop_29 (txR_rkv hx) rkv_18 (by rw [rkv_19]; exact c) (by omega) (wrd 29).length 0 (F + 57) (by omega) (by omega)]
    by_cases c3 : wq T (wrd 29) (tS T p) = true
    · rw [if_pos (show wq T ((wrd 29).drop 0) (tS T p + 0) = true from c3), if_pos ⟨c, c3⟩]
    · rw [if_neg (show ¬ wq T ((wrd 29).drop 0) (tS T p + 0) = true from c3), if_neg (fun q => c3 q.2)]
  · rw [if_neg (fun q => c q.1)]
    (first | (refine (vne (x := rkv f T p 452 19) (y := (wrd 29).length) (by rw [rkv_19]; omega) (by omega) (by rw [rkv_19]; exact c)).trans ?_) | (refine (vF_g rfl rfl).trans ?_; refine (vF_g rfl rfl).trans ?_; refine (vne (x := rkv f T p 452 19) (y := (wrd 29).length) (by rw [rkv_19]; omega) (by omega) (by rw [rkv_19]; exact c)).trans ?_) | (refine (vF_g rfl rfl).trans ?_; refine (vne (x := rkv f T p 452 19) (y := (wrd 29).length) (by rw [rkv_19]; omega) (by omega) (by rw [rkv_19]; exact c)).trans ?_))
    (first | (exact rfl) | (refine (vF_g rfl rfl).trans ?_; refine (vF_g rfl rfl).trans ?_; exact rfl) | (refine (vF_g rfl rfl).trans ?_; refine (vF_g rfl rfl).trans ?_; refine (vF_g rfl rfl).trans ?_; exact rfl) | (refine (vF_g rfl rfl).trans ?_; exact rfl))
theorem se_loop_30 {D n s x2 : Nat} {T : Nat → Nat} {f : Vw} (hx : TxR f n T) (hs : f 452 18 = s) (hz : f 452 19 = (wrd 30).length) (hs9 : s ≤ 900) : ∀ (m i F : Nat), i + m = (wrd 30).length → 3 * m + 3 ≤ F → vFn (vM MT0 (D + 1)) nb_X11_sees F 4 0 [vR 452, vW 30, vI x2, vI i] [] f = some ((0, 0), vI (if wq T ((wrd 30).drop i) (s + i) = true then 1 else 0), f) := by
  have hl := wrd_len 30
  intro m
  induction m with
  | zero =>
    intro i F hi hF
    obtain ⟨F1, rfl⟩ : ∃ F1, F = F1 + 2 := ⟨F - 2, by omega⟩
    rw [List.drop_eq_nil_of_le (show (wrd 30).length ≤ i by omega), show wq T [] (s + i) = true from rfl, if_pos rfl]
    (first | (refine (vge2 (x := i) (y := f 452 19) (by omega) (by rw [hz]; omega)).trans ?_) | (refine (vF_g rfl rfl).trans ?_; refine (vF_g rfl rfl).trans ?_; refine (vge2 (x := i) (y := f 452 19) (by omega) (by rw [hz]; omega)).trans ?_) | (refine (vF_g rfl rfl).trans ?_; refine (vge2 (x := i) (y := f 452 19) (by omega) (by rw [hz]; omega)).trans ?_))
    (first | (exact rfl) | (refine (vF_g rfl rfl).trans ?_; refine (vF_g rfl rfl).trans ?_; exact rfl) | (refine (vF_g rfl rfl).trans ?_; refine (vF_g rfl rfl).trans ?_; refine (vF_g rfl rfl).trans ?_; exact rfl) | (refine (vF_g rfl rfl).trans ?_; exact rfl))
  | succ m ih =>
    intro i F hi hF
    obtain ⟨F1, rfl⟩ : ∃ F1, F = F1 + 3 := ⟨F - 3, by omega⟩
    have hq : (f 452 18 + i) % 4294967296 = s + i := by rw [hs, Nat.mod_eq_of_lt (by omega)]
    rw [nthN_drop (wrd 30) i (by omega)]
    (first | (refine (vlt (x := i) (y := f 452 19) (by rw [hz]; omega) (by rw [hz]; omega)).trans ?_) | (refine (vF_g rfl rfl).trans ?_; refine (vF_g rfl rfl).trans ?_; refine (vlt (x := i) (y := f 452 19) (by rw [hz]; omega) (by rw [hz]; omega)).trans ?_) | (refine (vF_g rfl rfl).trans ?_; refine (vlt (x := i) (y := f 452 19) (by rw [hz]; omega) (by rw [hz]; omega)).trans ?_))
    (first | (refine (vbnd_0 (v_byteR (i := (f 452 18 + i) % 4294967296) (f := f) (by rw [hq]; omega) (by rw [hx.2.1]; exact hx.1))).trans ?_) | (refine (vF_g rfl rfl).trans ?_; refine (vF_g rfl rfl).trans ?_; refine (vbnd_0 (v_byteR (i := (f 452 18 + i) % 4294967296) (f := f) (by rw [hq]; omega) (by rw [hx.2.1]; exact hx.1))).trans ?_) | (refine (vF_g rfl rfl).trans ?_; refine (vbnd_0 (v_byteR (i := (f 452 18 + i) % 4294967296) (f := f) (by rw [hq]; omega) (by rw [hx.2.1]; exact hx.1))).trans ?_))
    (first | (refine (vbnd_0 (v_chr (i := i) (by decide) (by decide) (by omega))).trans ?_) | (refine (vF_g rfl rfl).trans ?_; refine (vF_g rfl rfl).trans ?_; refine (vbnd_0 (v_chr (i := i) (by decide) (by decide) (by omega))).trans ?_) | (refine (vF_g rfl rfl).trans ?_; refine (vbnd_0 (v_chr (i := i) (by decide) (by decide) (by omega))).trans ?_))
    rw [hq, hx.2.2.1]
    have hl9 := hx.2.2.2.1 (s + i)
    by_cases q : T (s + i) = nthN (wrd 30) 0 i
    · rw [show wq T (nthN (wrd 30) 0 i :: (wrd 30).drop (i + 1)) (s + i) = wq T ((wrd 30).drop (i + 1)) (s + i + 1) from if_pos q]
      (first | (refine (veq q).trans ?_) | (refine (vF_g rfl rfl).trans ?_; refine (vF_g rfl rfl).trans ?_; refine (veq q).trans ?_) | (refine (vF_g rfl rfl).trans ?_; refine (veq q).trans ?_))
      (first | (refine Eq.trans (b := vFn (vM MT0 (D + 1)) nb_X11_sees F1 4 0 [vR 452, vW 30, vI x2, vI ((i + 1) % 4294967296)] [] f) rfl ?_) | (refine (vF_g rfl rfl).trans ?_; refine (vF_g rfl rfl).trans ?_; refine Eq.trans (b := vFn (vM MT0 (D + 1)) nb_X11_sees F1 4 0 [vR 452, vW 30, vI x2, vI ((i + 1) % 4294967296)] [] f) rfl ?_) | (refine (vF_g rfl rfl).trans ?_; refine Eq.trans (b := vFn (vM MT0 (D + 1)) nb_X11_sees F1 4 0 [vR 452, vW 30, vI x2, vI ((i + 1) % 4294967296)] [] f) rfl ?_))
      rw [Nat.mod_eq_of_lt (show i + 1 < 4294967296 by omega)]
      exact ih (i + 1) F1 (by omega) (by omega)
    · rw [show wq T (nthN (wrd 30) 0 i :: (wrd 30).drop (i + 1)) (s + i) = false from if_neg q, if_neg (by decide)]
      (first | (refine (vne (x := T (s + i)) (y := nthN (wrd 30) 0 i) (by omega) (by have := wrd_lt 30 i; omega) q).trans ?_) | (refine (vF_g rfl rfl).trans ?_; refine (vF_g rfl rfl).trans ?_; refine (vne (x := T (s + i)) (y := nthN (wrd 30) 0 i) (by omega) (by have := wrd_lt 30 i; omega) q).trans ?_) | (refine (vF_g rfl rfl).trans ?_; refine (vne (x := T (s + i)) (y := nthN (wrd 30) 0 i) (by omega) (by have := wrd_lt 30 i; omega) q).trans ?_))
      (first | (exact rfl) | (refine (vF_g rfl rfl).trans ?_; refine (vF_g rfl rfl).trans ?_; exact rfl) | (refine (vF_g rfl rfl).trans ?_; refine (vF_g rfl rfl).trans ?_; refine (vF_g rfl rfl).trans ?_; exact rfl) | (refine (vF_g rfl rfl).trans ?_; exact rfl))
theorem v_sees_30 {D n p : Nat} {T : Nat → Nat} {f : Vw} (hx : TxR f n T) (hp9 : f 452 17 = p) (hp : p ≤ n) (he : f 452 20 = 0) : vM MT0 (D + 3) 231 [vR 452, vW 30] f = some ((0, 0), vI (if tZ T p = (wrd 30).length ∧ wq T (wrd 30) (tS T p) = true then 1 else 0), rkv f T p) := by
  have hl := wrd_len 30
  have hn := hx.1
  have hz := tZ_le (T := T) hx.2.2.2.2 hp
  have e20 : rkv f T p 452 20 = 0 := by rw [rkv_o (Or.inr (by decide))]; exact he
  refine vM_go rfl rfl rfl rfl fun F hF => ?_
  (first | (refine (vbnd_0 (v_nextR hx hp9 hp)).trans ?_) | (refine (vF_g rfl rfl).trans ?_; refine (vF_g rfl rfl).trans ?_; refine (vbnd_0 (v_nextR hx hp9 hp)).trans ?_) | (refine (vF_g rfl rfl).trans ?_; refine (vbnd_0 (v_nextR hx hp9 hp)).trans ?_))
  (first | (refine (veq e20).trans ?_) | (refine (vF_g rfl rfl).trans ?_; refine (vF_g rfl rfl).trans ?_; refine (veq e20).trans ?_) | (refine (vF_g rfl rfl).trans ?_; refine (veq e20).trans ?_))
  (first | (refine (vbnd_0 (v_len (by decide) (by decide))).trans ?_) | (refine (vF_g rfl rfl).trans ?_; refine (vF_g rfl rfl).trans ?_; refine (vbnd_0 (v_len (by decide) (by decide))).trans ?_) | (refine (vF_g rfl rfl).trans ?_; refine (vbnd_0 (v_len (by decide) (by decide))).trans ?_))
  by_cases c : tZ T p = (wrd 30).length
  · (first | (refine (veq (x := rkv f T p 452 19) (y := (wrd 30).length) (by rw [rkv_19]; exact c)).trans ?_) | (refine (vF_g rfl rfl).trans ?_; refine (vF_g rfl rfl).trans ?_; refine (veq (x := rkv f T p 452 19) (y := (wrd 30).length) (by rw [rkv_19]; exact c)).trans ?_) | (refine (vF_g rfl rfl).trans ?_; refine (veq (x := rkv f T p 452 19) (y := (wrd 30).length) (by rw [rkv_19]; exact c)).trans ?_))
    (first | (refine Eq.trans (b := vFn (vM MT0 (D + 2)) nb_X11_sees (F + 57) 4 0 [vR 452, vW 30, vI (T (tS T p)), vI 0] [] (rkv f T p)) rfl ?_) | (refine (vF_g rfl rfl).trans ?_; refine (vF_g rfl rfl).trans ?_; refine Eq.trans (b := vFn (vM MT0 (D + 2)) nb_X11_sees (F + 57) 4 0 [vR 452, vW 30, vI (T (tS T p)), vI 0] [] (rkv f T p)) rfl ?_) | (refine (vF_g rfl rfl).trans ?_; refine Eq.trans (b := vFn (vM MT0 (D + 2)) nb_X11_sees (F + 57) 4 0 [vR 452, vW 30, vI (T (tS T p)), vI 0] [] (rkv f T p)) rfl ?_))
    rw [se_loop_30 (txR_rkv hx) rkv_18 (by rw [rkv_19]; exact c) (by omega) (wrd 30).length 0 (F + 57) (by omega) (by omega)]
    by_cases c3 : wq T (wrd 30) (tS T p) = true
    · rw [if_pos (show wq T ((wrd 30).drop 0) (tS T p + 0) = true from c3), if_pos ⟨c, c3⟩]
    · rw [if_neg (show ¬ wq T ((wrd 30).drop 0) (tS T p + 0) = true from c3), if_neg (fun q => c3 q.2)]
  · rw [if_neg (fun q => c q.1)]
    (first | (refine (vne (x := rkv f T p 452 19) (y := (wrd 30).length) (by rw [rkv_19]; omega) (by omega) (by rw [rkv_19]; exact c)).trans ?_) | (refine (vF_g rfl rfl).trans ?_; refine (vF_g rfl rfl).trans ?_; refine (vne (x := rkv f T p 452 19) (y := (wrd 30).length) (by rw [rkv_19]; omega) (by omega) (by rw [rkv_19]; exact c)).trans ?_) | (refine (vF_g rfl rfl).trans ?_; refine (vne (x := rkv f T p 452 19) (y := (wrd 30).length) (by rw [rkv_19]; omega) (by omega) (by rw [rkv_19]; exact c)).trans ?_))
    (first | (exact rfl) | (refine (vF_g rfl rfl).trans ?_; refine (vF_g rfl rfl).trans ?_; exact rfl) | (refine (vF_g rfl rfl).trans ?_; refine (vF_g rfl rfl).trans ?_; refine (vF_g rfl rfl).trans ?_; exact rfl) | (refine (vF_g rfl rfl).trans ?_; exact rfl))
theorem v_sees {D w n p : Nat} {T : Nat → Nat} {f : Vw} (h1 : 20 ≤ w) (h2 : w ≤ 30) (hx : TxR f n T) (hp9 : f 452 17 = p) (hp : p ≤ n) (he : f 452 20 = 0) : vM MT0 (D + 3) 231 [vR 452, vW w] f = some ((0, 0), vI (if tZ T p = (wrd w).length ∧ wq T (wrd w) (tS T p) = true then 1 else 0), rkv f T p) := by
  rcases (show w = 20 ∨ w = 21 ∨ w = 22 ∨ w = 23 ∨ w = 24 ∨ w = 25 ∨ w = 26 ∨ w = 27 ∨ w = 28 ∨ w = 29 ∨ w = 30 by omega) with rfl | rfl | rfl | rfl | rfl | rfl | rfl | rfl | rfl | rfl | rfl
  · exact v_sees_20 hx hp9 hp he
  · exact v_sees_21 hx hp9 hp he
  · exact v_sees_22 hx hp9 hp he
  · exact v_sees_23 hx hp9 hp he
  · exact v_sees_24 hx hp9 hp he
  · exact v_sees_25 hx hp9 hp he
  · exact v_sees_26 hx hp9 hp he
  · exact v_sees_27 hx hp9 hp he
  · exact v_sees_28 hx hp9 hp he
  · exact v_sees_29 hx hp9 hp he
  · exact v_sees_30 hx hp9 hp he
/-- the values of numbers -/
theorem g_imul_s {x y : Nat} (h : x * y < 2147483648) (hx : x < 2147483648) (hy : y < 2147483648) : g_imul x y = x * y := by
  refine sg_inj (toN_lt _) (by omega) ?_
  have h1 := sg_mul x y
  have h2 : sg (g_imul x y) = w32 (sg x * sg y) := h1
  rw [h2, sg_eq (show x ≤ 2147483647 by omega), sg_eq (show y ≤ 2147483647 by omega), sg_eq (show x * y ≤ 2147483647 by omega)]
  have h3 : ((x : Int) * (y : Int)) = ((x * y : Nat) : Int) := (Int.natCast_mul x y).symm
  rw [h3]
  exact w32_id (by omega) (by omega)
theorem g_imul_c (x y : Nat) : g_imul x y = g_imul y x := by
  unfold g_imul
  rw [Int32.mul_comm]
theorem vstep_s {v x : Nat} (hv : v < 100000000) (h1 : 48 ≤ x) (h2 : x ≤ 57) : vstep v x = 10 * v + (x - 48) := by
  unfold vstep g_sub
  rw [g_imul_s (by omega) (by omega) (by omega)]
  omega
