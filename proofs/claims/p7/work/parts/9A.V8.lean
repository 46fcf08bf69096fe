/-! the program's takers of tokens -/
def wq (T : Nat → Nat) : List Nat → Nat → Bool
  | [], _ => true
  | c :: l, p => if T p = c then wq T l (p + 1) else false
noncomputable def wrd (w : Nat) : List Nat := nthL txWd (w - 20)
theorem nthL_mem : ∀ (l : List (List Nat)) (i : Nat), nthL l i ∈ l ∨ nthL l i = [] := by
  intro l
  induction l with
  | nil => intro i; exact Or.inr rfl
  | cons x t ih =>
    intro i
    cases i with
    | zero => exact Or.inl List.mem_cons_self
    | succ i => exact (ih i).imp (List.mem_cons_of_mem _) id
theorem nthN_mem9 : ∀ (l : List Nat) (i : Nat), nthN l 0 i ∈ l ∨ nthN l 0 i = 0 := by
  intro l
  induction l with
  | nil => intro i; exact Or.inr rfl
  | cons x t ih =>
    intro i
    cases i with
    | zero => exact Or.inl List.mem_cons_self
    | succ i => exact (ih i).imp (List.mem_cons_of_mem _) id
theorem txW_lt : ∀ l ∈ txWd, l.length ≤ 7 ∧ ∀ c ∈ l, c < 256 := by decide
theorem wrd_len (w : Nat) : (wrd w).length ≤ 7 := by
  rcases nthL_mem txWd (w - 20) with h | h
  · exact (txW_lt _ h).1
  · unfold wrd
    rw [h]
    exact Nat.zero_le _
theorem wrd_lt (w i : Nat) : nthN (wrd w) 0 i < 256 := by
  rcases nthN_mem9 (wrd w) i with h | h
  · rcases nthL_mem txWd (w - 20) with h2 | h2
    · exact (txW_lt _ h2).2 _ h
    · unfold wrd at h ⊢
      rw [h2] at h
      cases h
  · rw [h]
    decide
theorem nthN_drop : ∀ (l : List Nat) (i : Nat), i < l.length → l.drop i = nthN l 0 i :: l.drop (i + 1) := by
  intro l
  induction l with
  | nil => intro i h; cases h
  | cons x t ih =>
    intro i h
    cases i with
    | zero => rfl
    | succ i => exact ih i (by simpa using h)
theorem v_len {D w : Nat} {f : Vw} (h1 : 20 ≤ w) (h2 : w ≤ 30) : vM MT0 (D + 1) 338 [vW w] f = some ((0, 0), vI (wrd w).length, f) := by
  (first | (refine Eq.trans (b := gd (Nat.ble 20 w) (gd (Nat.ble w 30) (some (((0, 0), vI (wrd w).length, f) : VR)))) rfl ?_) | (refine (vF_g rfl rfl).trans ?_; refine (vF_g rfl rfl).trans ?_; refine Eq.trans (b := gd (Nat.ble 20 w) (gd (Nat.ble w 30) (some (((0, 0), vI (wrd w).length, f) : VR)))) rfl ?_) | (refine (vF_g rfl rfl).trans ?_; refine Eq.trans (b := gd (Nat.ble 20 w) (gd (Nat.ble w 30) (some (((0, 0), vI (wrd w).length, f) : VR)))) rfl ?_))
  rw [Nat.ble_eq_true_of_le h1, Nat.ble_eq_true_of_le h2]
  (first | (exact rfl) | (refine (vF_g rfl rfl).trans ?_; refine (vF_g rfl rfl).trans ?_; exact rfl) | (refine (vF_g rfl rfl).trans ?_; refine (vF_g rfl rfl).trans ?_; refine (vF_g rfl rfl).trans ?_; exact rfl) | (refine (vF_g rfl rfl).trans ?_; exact rfl))
theorem v_chr {D w i : Nat} {f : Vw} (h1 : 20 ≤ w) (h2 : w ≤ 30) (h3 : i < (wrd w).length) : vM MT0 (D + 1) 339 [vW w, vI i] f = some ((0, 0), vI (nthN (wrd w) 0 i), f) := by
  (first | (refine Eq.trans (b := gd (Nat.ble 20 w) (gd (Nat.ble w 30) (gd (Nat.ble (i + 1) (wrd w).length) (some (((0, 0), vI (nthN (wrd w) 0 i), f) : VR))))) rfl ?_) | (refine (vF_g rfl rfl).trans ?_; refine (vF_g rfl rfl).trans ?_; refine Eq.trans (b := gd (Nat.ble 20 w) (gd (Nat.ble w 30) (gd (Nat.ble (i + 1) (wrd w).length) (some (((0, 0), vI (nthN (wrd w) 0 i), f) : VR))))) rfl ?_) | (refine (vF_g rfl rfl).trans ?_; refine Eq.trans (b := gd (Nat.ble 20 w) (gd (Nat.ble w 30) (gd (Nat.ble (i + 1) (wrd w).length) (some (((0, 0), vI (nthN (wrd w) 0 i), f) : VR))))) rfl ?_))
  rw [Nat.ble_eq_true_of_le h1, Nat.ble_eq_true_of_le h2, Nat.ble_eq_true_of_le (show i + 1 ≤ (wrd w).length from h3)]
  (first | (exact rfl) | (refine (vF_g rfl rfl).trans ?_; refine (vF_g rfl rfl).trans ?_; exact rfl) | (refine (vF_g rfl rfl).trans ?_; refine (vF_g rfl rfl).trans ?_; refine (vF_g rfl rfl).trans ?_; exact rfl) | (refine (vF_g rfl rfl).trans ?_; exact rfl))
theorem wi_loop_20 {D s : Nat} {f : Vw} (hn : f 1 1 ≤ 900) (hs : f 446 3 = s) (hs9 : s ≤ 900) : ∀ (m i F : Nat), i + m = (wrd 20).length → 3 * m + 3 ≤ F → vFn (vM MT0 (D + 1)) nb_X7_wordIs F 4 0 [vR 446, vW 20, vI i] [] f = some ((0, 0), vI (if wq (bt f) ((wrd 20).drop i) (s + i) = true then 1 else 0), f) := by
  have hl := wrd_len 20
  intro m
  induction m with
  | zero =>
    intro i F hi hF
    obtain ⟨F1, rfl⟩ : ∃ F1, F = F1 + 2 := ⟨F - 2, by omega⟩
    rw [List.drop_eq_nil_of_le (show (wrd 20).length ≤ i by omega), show wq (bt f) [] (s + i) = true from rfl, if_pos rfl]
    (first | (refine (vbnd_0 (v_len (by decide) (by decide))).trans ?_) | (refine (vF_g rfl rfl).trans ?_; refine (vF_g rfl rfl).trans ?_; refine (vbnd_0 (v_len (by decide) (by decide))).trans ?_) | (refine (vF_g rfl rfl).trans ?_; refine (vbnd_0 (v_len (by decide) (by decide))).trans ?_))
    (first | (refine (vge2 (x := i) (y := (wrd 20).length) (by omega) (by omega)).trans ?_) | (refine (vF_g rfl rfl).trans ?_; refine (vF_g rfl rfl).trans ?_; refine (vge2 (x := i) (y := (wrd 20).length) (by omega) (by omega)).trans ?_) | (refine (vF_g rfl rfl).trans ?_; refine (vge2 (x := i) (y := (wrd 20).length) (by omega) (by omega)).trans ?_))
    (first | (exact rfl) | (refine (vF_g rfl rfl).trans ?_; refine (vF_g rfl rfl).trans ?_; exact rfl) | (refine (vF_g rfl rfl).trans ?_; refine (vF_g rfl rfl).trans ?_; refine (vF_g rfl rfl).trans ?_; exact rfl) | (refine (vF_g rfl rfl).trans ?_; exact rfl))
  | succ m ih =>
    intro i F hi hF
    obtain ⟨F1, rfl⟩ : ∃ F1, F = F1 + 3 := ⟨F - 3, by omega⟩
    have hx : (f 446 3 + i) % 4294967296 = s + i := by rw [hs, Nat.mod_eq_of_lt (by omega)]
    rw [nthN_drop (wrd 20) i (by omega)]
    (first | (refine (vbnd_0 (v_len (by decide) (by decide))).trans ?_) | (refine (vF_g rfl rfl).trans ?_; refine (vF_g rfl rfl).trans ?_; refine (vbnd_0 (v_len (by decide) (by decide))).trans ?_) | (refine (vF_g rfl rfl).trans ?_; refine (vbnd_0 (v_len (by decide) (by decide))).trans ?_))
    (first | (refine (vlt (x := i) (y := (wrd 20).length) (by omega) (by omega)).trans ?_) | (refine (vF_g rfl rfl).trans ?_; refine (vF_g rfl rfl).trans ?_; refine (vlt (x := i) (y := (wrd 20).length) (by omega) (by omega)).trans ?_) | (refine (vF_g rfl rfl).trans ?_; refine (vlt (x := i) (y := (wrd 20).length) (by omega) (by omega)).trans ?_))
    (first | (refine (vbnd_0 (v_byteAt (i := (f 446 3 + i) % 4294967296) (f := f) (by rw [hx]; omega) hn)).trans ?_) | (refine (vF_g rfl rfl).trans ?_; refine (vF_g rfl rfl).trans ?_; refine (vbnd_0 (v_byteAt (i := (f 446 3 + i) % 4294967296) (f := f) (by rw [hx]; omega) hn)).trans ?_) | (refine (vF_g rfl rfl).trans ?_; refine (vbnd_0 (v_byteAt (i := (f 446 3 + i) % 4294967296) (f := f) (by rw [hx]; omega) hn)).trans ?_))
    (first | (refine (vbnd_0 (v_chr (i := i) (by decide) (by decide) (by omega))).trans ?_) | (refine (vF_g rfl rfl).trans ?_; refine (vF_g rfl rfl).trans ?_; refine (vbnd_0 (v_chr (i := i) (by decide) (by decide) (by omega))).trans ?_) | (refine (vF_g rfl rfl).trans ?_; refine (vbnd_0 (v_chr (i := i) (by decide) (by decide) (by omega))).trans ?_))
    rw [hx]
    by_cases q : bt f (s + i) = nthN (wrd 20) 0 i
    · rw [show wq (bt f) (nthN (wrd 20) 0 i :: (wrd 20).drop (i + 1)) (s + i) = wq (bt f) ((wrd 20).drop (i + 1)) (s + i + 1) from if_pos q]
      (first | (refine (veq q).trans ?_) | (refine (vF_g rfl rfl).trans ?_; refine (vF_g rfl rfl).trans ?_; refine (veq q).trans ?_) | (refine (vF_g rfl rfl).trans ?_; refine (veq q).trans ?_))
      (first | (refine Eq.trans (b := vFn (vM MT0 (D + 1)) nb_X7_wordIs F1 4 0 [vR 446, vW 20, vI ((i + 1) % 4294967296)] [] f) rfl ?_) | (refine (vF_g rfl rfl).trans ?_; refine (vF_g rfl rfl).trans ?_; refine Eq.trans (b := vFn (vM MT0 (D + 1)) nb_X7_wordIs F1 4 0 [vR 446, vW 20, vI ((i + 1) % 4294967296)] [] f) rfl ?_) | (refine (vF_g rfl rfl).trans ?_; refine Eq.trans (b := vFn (vM MT0 (D + 1)) nb_X7_wordIs F1 4 0 [vR 446, vW 20, vI ((i + 1) % 4294967296)] [] f) rfl ?_))
      rw [Nat.mod_eq_of_lt (show i + 1 < 4294967296 by omega)]
      exact ih (i + 1) F1 (by omega) (by omega)
    · rw [show wq (bt f) (nthN (wrd 20) 0 i :: (wrd 20).drop (i + 1)) (s + i) = false from if_neg q, if_neg (by decide)]
      (first | (refine (vne (x := bt f (s + i)) (y := nthN (wrd 20) 0 i) (bt_l32 _ _) (by have := wrd_lt 20 i; omega) q).trans ?_) | (refine (vF_g rfl rfl).trans ?_; refine (vF_g rfl rfl).trans ?_; refine (vne (x := bt f (s + i)) (y := nthN (wrd 20) 0 i) (bt_l32 _ _) (by have := wrd_lt 20 i; omega) q).trans ?_) | (refine (vF_g rfl rfl).trans ?_; refine (vne (x := bt f (s + i)) (y := nthN (wrd 20) 0 i) (bt_l32 _ _) (by have := wrd_lt 20 i; omega) q).trans ?_))
      (first | (exact rfl) | (refine (vF_g rfl rfl).trans ?_; refine (vF_g rfl rfl).trans ?_; exact rfl) | (refine (vF_g rfl rfl).trans ?_; refine (vF_g rfl rfl).trans ?_; refine (vF_g rfl rfl).trans ?_; exact rfl) | (refine (vF_g rfl rfl).trans ?_; exact rfl))
theorem v_wordIs_20 {D : Nat} {f : Vw} (hn : f 1 1 ≤ 900) (hs : f 446 3 ≤ 900) (hk : f 446 2 < 4294967296) (hz : f 446 4 < 4294967296) : vM MT0 (D + 2) 49 [vR 446, vW 20] f = some ((0, 0), vI (if f 446 2 = 1 ∧ f 446 4 = (wrd 20).length ∧ wq (bt f) (wrd 20) (f 446 3) = true then 1 else 0), f) := by
  have hl := wrd_len 20
  refine vM_go rfl rfl rfl rfl fun F hF => ?_
  by_cases c1 : f 446 2 = 1
  · by_cases c2 : f 446 4 = (wrd 20).length
    · (first | (refine (veq c1).trans ?_) | (refine (vF_g rfl rfl).trans ?_; refine (vF_g rfl rfl).trans ?_; refine (veq c1).trans ?_) | (refine (vF_g rfl rfl).trans ?_; refine (veq c1).trans ?_))
      (first | (refine (vbnd_0 (v_len (by decide) (by decide))).trans ?_) | (refine (vF_g rfl rfl).trans ?_; refine (vF_g rfl rfl).trans ?_; refine (vbnd_0 (v_len (by decide) (by decide))).trans ?_) | (refine (vF_g rfl rfl).trans ?_; refine (vbnd_0 (v_len (by decide) (by decide))).trans ?_))
      (first | (refine (veq c2).trans ?_) | (refine (vF_g rfl rfl).trans ?_; refine (vF_g rfl rfl).trans ?_; refine (veq c2).trans ?_) | (refine (vF_g rfl rfl).trans ?_; refine (veq c2).trans ?_))
      (first | (refine Eq.trans (b := vFn (vM MT0 (D + 1)) nb_X7_wordIs (F + 57) 4 0 [vR 446, vW 20, vI 0] [] f) rfl ?_) | (refine (vF_g rfl rfl).trans ?_; refine (vF_g rfl rfl).trans ?_; refine Eq.trans (b := vFn (vM MT0 (D + 1)) nb_X7_wordIs (F + 57) 4 0 [vR 446, vW 20, vI 0] [] f) rfl ?_) | (refine (vF_g rfl rfl).trans ?_; refine Eq.trans (b := vFn (vM MT0 (D + 1)) nb_X7_wordIs (F + 57) 4 0 [vR 446, vW 20, vI 0] [] f) rfl ?_))
      rw [wi_loop_20 hn rfl hs (wrd 20).length 0 (F + 57) (by omega) (by omega)]
      by_cases c3 : wq (bt f) (wrd 20) (f 446 3) = true
      · rw [if_pos (show wq (bt f) ((wrd 20).drop 0) (f 446 3 + 0) = true from c3), if_pos ⟨c1, c2, c3⟩]
      · rw [if_neg (show ¬ wq (bt f) ((wrd 20).drop 0) (f 446 3 + 0) = true from c3), if_neg (fun q => c3 q.2.2)]
    · rw [if_neg (fun q => c2 q.2.1)]
      (first | (refine (veq c1).trans ?_) | (refine (vF_g rfl rfl).trans ?_; refine (vF_g rfl rfl).trans ?_; refine (veq c1).trans ?_) | (refine (vF_g rfl rfl).trans ?_; refine (veq c1).trans ?_))
      (first | (refine (vbnd_0 (v_len (by decide) (by decide))).trans ?_) | (refine (vF_g rfl rfl).trans ?_; refine (vF_g rfl rfl).trans ?_; refine (vbnd_0 (v_len (by decide) (by decide))).trans ?_) | (refine (vF_g rfl rfl).trans ?_; refine (vbnd_0 (v_len (by decide) (by decide))).trans ?_))
      (first | (refine (vne (x := f 446 4) (y := (wrd 20).length) hz (by omega) c2).trans ?_) | (refine (vF_g rfl rfl).trans ?_; refine (vF_g rfl rfl).trans ?_; refine (vne (x := f 446 4) (y := (wrd 20).length) hz (by omega) c2).trans ?_) | (refine (vF_g rfl rfl).trans ?_; refine (vne (x := f 446 4) (y := (wrd 20).length) hz (by omega) c2).trans ?_))
      (first | (exact rfl) | (refine (vF_g rfl rfl).trans ?_; refine (vF_g rfl rfl).trans ?_; exact rfl) | (refine (vF_g rfl rfl).trans ?_; refine (vF_g rfl rfl).trans ?_; refine (vF_g rfl rfl).trans ?_; exact rfl) | (refine (vF_g rfl rfl).trans ?_; exact rfl))
  · rw [if_neg (fun q => c1 q.1)]
    (first | (refine (vne (x := f 446 2) (y := 1) hk (by decide) c1).trans ?_) | (refine (vF_g rfl rfl).trans ?_; refine (vF_g rfl rfl).trans ?_; refine (vne (x := f 446 2) (y := 1) hk (by decide) c1).trans ?_) | (refine (vF_g rfl rfl).trans ?_; refine (vne (x := f 446 2) (y := 1) hk (by decide) c1).trans ?_))
    (first | (exact rfl) | (refine (vF_g rfl rfl).trans ?_; refine (vF_g rfl rfl).trans ?_; exact rfl) | (refine (vF_g rfl rfl).trans ?_; refine (vF_g rfl rfl).trans ?_; refine (vF_g rfl rfl).trans ?_; exact rfl) | (refine (vF_g rfl rfl).trans ?_; exact rfl))
theorem wi_loop_21 {D s : Nat} {f : Vw} (hn : f 1 1 ≤ 900) (hs : f 446 3 = s) (hs9 : s ≤ 900) : ∀ (m i F : Nat), i + m = (wrd 21).length → 3 * m + 3 ≤ F → vFn (vM MT0 (D + 1)) nb_X7_wordIs F 4 0 [vR 446, vW 21, vI i] [] f = some ((0, 0), vI (if wq (bt f) ((wrd 21).drop i) (s + i) = true then 1 else 0), f) := by
  have hl := wrd_len 21
  intro m
  induction m with
  | zero =>
    intro i F hi hF
    obtain ⟨F1, rfl⟩ : ∃ F1, F = F1 + 2 := ⟨F - 2, by omega⟩
    rw [List.drop_eq_nil_of_le (show (wrd 21).length ≤ i by omega), show wq (bt f) [] (s + i) = true from rfl, if_pos rfl]
    (first | (refine (vbnd_0 (v_len (by decide) (by decide))).trans ?_) | (refine (vF_g rfl rfl).trans ?_; refine (vF_g rfl rfl).trans ?_; refine (vbnd_0 (v_len (by decide) (by decide))).trans ?_) | (refine (vF_g rfl rfl).trans ?_; refine (vbnd_0 (v_len (by decide) (by decide))).trans ?_))
    (first | (refine (vge2 (x := i) (y := (wrd 21).length) (by omega) (by omega)).trans ?_) | (refine (vF_g rfl rfl).trans ?_; refine (vF_g rfl rfl).trans ?_; refine (vge2 (x := i) (y := (wrd 21).length) (by omega) (by omega)).trans ?_) | (refine (vF_g rfl rfl).trans ?_; refine (vge2 (x := i) (y := (wrd 21).length) (by omega) (by omega)).trans ?_))
    (first | (exact rfl) | (refine (vF_g rfl rfl).trans ?_; refine (vF_g rfl rfl).trans ?_; exact rfl) | (refine (vF_g rfl rfl).trans ?_; refine (vF_g rfl rfl).trans ?_; refine (vF_g rfl rfl).trans ?_; exact rfl) | (refine (vF_g rfl rfl).trans ?_; exact rfl))
  | succ m ih =>
    intro i F hi hF
    obtain ⟨F1, rfl⟩ : ∃ F1, F = F1 + 3 := ⟨F - 3, by omega⟩
    have hx : (f 446 3 + i) % 4294967296 = s + i := by rw [hs, Nat.mod_eq_of_lt (by omega)]
    rw [nthN_drop (wrd 21) i (by omega)]
    (first | (refine (vbnd_0 (v_len (by decide) (by decide))).trans ?_) | (refine (vF_g rfl rfl).trans ?_; refine (vF_g rfl rfl).trans ?_; refine (vbnd_0 (v_len (by decide) (by decide))).trans ?_) | (refine (vF_g rfl rfl).trans ?_; refine (vbnd_0 (v_len (by decide) (by decide))).trans ?_))
    (first | (refine (vlt (x := i) (y := (wrd 21).length) (by omega) (by omega)).trans ?_) | (refine (vF_g rfl rfl).trans ?_; refine (vF_g rfl rfl).trans ?_; refine (vlt (x := i) (y := (wrd 21).length) (by omega) (by omega)).trans ?_) | (refine (vF_g rfl rfl).trans ?_; refine (vlt (x := i) (y := (wrd 21).length) (by omega) (by omega)).trans ?_))
    (first | (refine (vbnd_0 (v_byteAt (i := (f 446 3 + i) % 4294967296) (f := f) (by rw [hx]; omega) hn)).trans ?_) | (refine (vF_g rfl rfl).trans ?_; refine (vF_g rfl rfl).trans ?_; refine (vbnd_0 (v_byteAt (i := (f 446 3 + i) % 4294967296) (f := f) (by rw [hx]; omega) hn)).trans ?_) | (refine (vF_g rfl rfl).trans ?_; refine (vbnd_0 (v_byteAt (i := (f 446 3 + i) % 4294967296) (f := f) (by rw [hx]; omega) hn)).trans ?_))
    (first | (refine (vbnd_0 (v_chr (i := i) (by decide) (by decide) (by omega))).trans ?_) | (refine (vF_g rfl rfl).trans ?_; refine (vF_g rfl rfl).trans ?_; refine (vbnd_0 (v_chr (i := i) (by decide) (by decide) (by omega))).trans ?_) | (refine (vF_g rfl rfl).trans ?_; refine (vbnd_0 (v_chr (i := i) (by decide) (by decide) (by omega))).trans ?_))
    rw [hx]
    by_cases q : bt f (s + i) = nthN (wrd 21) 0 i
    · rw [show wq (bt f) (nthN (wrd 21) 0 i :: (wrd 21).drop (i + 1)) (s + i) = wq (bt f) ((wrd 21).drop (i + 1)) (s + i + 1) from if_pos q]
      (first | (refine (veq q).trans ?_) | (refine (vF_g rfl rfl).trans ?_; refine (vF_g rfl rfl).trans ?_; refine (veq q).trans ?_) | (refine (vF_g rfl rfl).trans ?_; refine (veq q).trans ?_))
      (first | (refine Eq.trans (b := vFn (vM MT0 (D + 1)) nb_X7_wordIs F1 4 0 [vR 446, vW 21, vI ((i + 1) % 4294967296)] [] f) rfl ?_) | (refine (vF_g rfl rfl).trans ?_; refine (vF_g rfl rfl).trans ?_; refine Eq.trans (b := vFn (vM MT0 (D + 1)) nb_X7_wordIs F1 4 0 [vR 446, vW 21, vI ((i + 1) % 4294967296)] [] f) rfl ?_) | (refine (vF_g rfl rfl).trans ?_; refine Eq.trans (b := vFn (vM MT0 (D + 1)) nb_X7_wordIs F1 4 0 [vR 446, vW 21, vI ((i + 1) % 4294967296)] [] f) rfl ?_))
      rw [Nat.mod_eq_of_lt (show i + 1 < 4294967296 by omega)]
      exact ih (i + 1) F1 (by omega) (by omega)
    · rw [show wq (bt f) (nthN (wrd 21) 0 i :: (wrd 21).drop (i + 1)) (s + i) = false from if_neg q, if_neg (by decide)]
      (first | (refine (vne (x := bt f (s + i)) (y := nthN (wrd 21) 0 i) (bt_l32 _ _) (by have := wrd_lt 21 i; omega) q).trans ?_) | (refine (vF_g rfl rfl).trans ?_; refine (vF_g rfl rfl).trans ?_; refine (vne (x := bt f (s + i)) (y := nthN (wrd 21) 0 i) (bt_l32 _ _) (by have := wrd_lt 21 i; omega) q).trans ?_) | (refine (vF_g rfl rfl).trans ?_; refine (vne (x := bt f (s + i)) (y := nthN (wrd 21) 0 i) (bt_l32 _ _) (by have := wrd_lt 21 i; omega) q).trans ?_))
      (first | (exact rfl) | (refine (vF_g rfl rfl).trans ?_; refine (vF_g rfl rfl).trans ?_; exact rfl) | (refine (vF_g rfl rfl).trans ?_; refine (vF_g rfl rfl).trans ?_; refine (vF_g rfl rfl).trans ?_; exact rfl) | (refine (vF_g rfl rfl).trans ?_; exact rfl))
theorem v_wordIs_21 {D : Nat} {f : Vw} (hn : f 1 1 ≤ 900) (hs : f 446 3 ≤ 900) (hk : f 446 2 < 4294967296) (hz : f 446 4 < 4294967296) : vM MT0 (D + 2) 49 [vR 446, vW 21] f = some ((0, 0), vI (if f 446 2 = 1 ∧ f 446 4 = (wrd 21).length ∧ wq (bt f) (wrd 21) (f 446 3) = true then 1 else 0), f) := by
  have hl := wrd_len 21
  refine vM_go rfl rfl rfl rfl fun F hF => ?_
  by_cases c1 : f 446 2 = 1
  · by_cases c2 : f 446 4 = (wrd 21).length
    · (first | (refine (veq c1).trans ?_) | (refine (vF_g rfl rfl).trans ?_; refine (vF_g rfl rfl).trans ?_; refine (veq c1).trans ?_) | (refine (vF_g rfl rfl).trans ?_; refine (veq c1).trans ?_))
      (first | (refine (vbnd_0 (v_len (by decide) (by decide))).trans ?_) | (refine (vF_g rfl rfl).trans ?_; refine (vF_g rfl rfl).trans ?_; refine (vbnd_0 (v_len (by decide) (by decide))).trans ?_) | (refine (vF_g rfl rfl).trans ?_; refine (vbnd_0 (v_len (by decide) (by decide))).trans ?_))
      (first | (refine (veq c2).trans ?_) | (refine (vF_g rfl rfl).trans ?_; refine (vF_g rfl rfl).trans ?_; refine (veq c2).trans ?_) | (refine (vF_g rfl rfl).trans ?_; refine (veq c2).trans ?_))
      (first | (refine Eq.trans (b := vFn (vM MT0 (D + 1)) nb_X7_wordIs (F + 57) 4 0 [vR 446, vW 21, vI 0] [] f) rfl ?_) | (refine (vF_g rfl rfl).trans ?_; refine (vF_g rfl rfl).trans ?_; refine Eq.trans (b := vFn (vM MT0 (D + 1)) nb_X7_wordIs (F + 57) 4 0 [vR 446, vW 21, vI 0] [] f) rfl ?_) | (refine (vF_g rfl rfl).trans ?_; refine Eq.trans (b := vFn (vM MT0 (D + 1)) nb_X7_wordIs (F + 57) 4 0 [vR 446, vW 21, vI 0] [] f) rfl ?_))
      rw [wi_loop_21 hn rfl hs (wrd 21).length 0 (F + 57) (by omega) (by omega)]
      by_cases c3 : wq (bt f) (wrd 21) (f 446 3) = true
      · rw [if_pos (show wq (bt f) ((wrd 21).drop 0) (f 446 3 + 0) = true from c3), if_pos ⟨c1, c2, c3⟩]
      · rw [if_neg (show ¬ wq (bt f) ((wrd 21).drop 0) (f 446 3 + 0) = true from c3), if_neg (fun q => c3 q.2.2)]
    · rw [if_neg (fun q => c2 q.2.1)]
      (first | (refine (veq c1).trans ?_) | (refine (vF_g rfl rfl).trans ?_; refine (vF_g rfl rfl).trans ?_; refine (veq c1).trans ?_) | (refine (vF_g rfl rfl).trans ?_; refine (veq c1).trans ?_))
      (first | (refine (vbnd_0 (v_len (by decide) (by decide))).trans ?_) | (refine (vF_g rfl rfl).trans ?_; refine (vF_g rfl rfl).trans ?_; refine (vbnd_0 (v_len (by decide) (by decide))).trans ?_) | (refine (vF_g rfl rfl).trans ?_; refine (vbnd_0 (v_len (by decide) (by decide))).trans ?_))
      (first | (refine (vne (x := f 446 4) (y := (wrd 21).length) hz (by omega) c2).trans ?_) | (refine (vF_g rfl rfl).trans ?_; refine (vF_g rfl rfl).trans ?_; refine (vne (x := f 446 4) (y := (wrd 21).length) hz (by omega) c2).trans ?_) | (refine (vF_g rfl rfl).trans ?_; refine (vne (x := f 446 4) (y := (wrd 21).length) hz (by omega) c2).trans ?_))
      (first | (exact rfl) | (refine (vF_g rfl rfl).trans ?_; refine (vF_g rfl rfl).trans ?_; exact rfl) | (refine (vF_g rfl rfl).trans ?_; refine (vF_g rfl rfl).trans ?_; refine (vF_g rfl rfl).trans ?_; exact rfl) | (refine (vF_g rfl rfl).trans ?_; exact rfl))
  · rw [if_neg (fun q => c1 q.1)]
    (first | (refine (vne (x := f 446 2) (y := 1) hk (by decide) c1).trans ?_) | (refine (vF_g rfl rfl).trans ?_; refine (vF_g rfl rfl).trans ?_; refine (vne (x := f 446 2) (y := 1) hk (by decide) c1).trans ?_) | (refine (vF_g rfl rfl).trans ?_; refine (vne (x := f 446 2) (y := 1) hk (by decide) c1).trans ?_))
    (first | (exact rfl) | (refine (vF_g rfl rfl).trans ?_; refine (vF_g rfl rfl).trans ?_; exact rfl) | (refine (vF_g rfl rfl).trans ?_; refine (vF_g rfl rfl).trans ?_; refine (vF_g rfl rfl).trans ?_; exact rfl) | (refine (vF_g rfl rfl).trans ?_; exact rfl))
theorem wi_loop_22 {D s : Nat} {f : Vw} (hn : f 1 1 ≤ 900) (hs : f 446 3 = s) (hs9 : s ≤ 900) : ∀ (m i F : Nat), i + m = (wrd 22).length → 3 * m + 3 ≤ F → vFn (vM MT0 (D + 1)) nb_X7_wordIs F 4 0 [vR 446, vW 22, vI i] [] f = some ((0, 0), vI (if wq (bt f) ((wrd 22).drop i) (s + i) = true then 1 else 0), f) := by
  have hl := wrd_len 22
  intro m
  induction m with
  | zero =>
    intro i F hi hF
    obtain ⟨F1, rfl⟩ : ∃ F1, F = F1 + 2 := ⟨F - 2, by omega⟩
    rw [List.drop_eq_nil_of_le (show (wrd 22).length ≤ i by omega), show wq (bt f) [] (s + i) = true from rfl, if_pos rfl]
    (first | (refine (vbnd_0 (v_len (by decide) (by decide))).trans ?_) | (refine (vF_g rfl rfl).trans ?_; refine (vF_g rfl rfl).trans ?_; refine (vbnd_0 (v_len (by decide) (by decide))).trans ?_) | (refine (vF_g rfl rfl).trans ?_; refine (vbnd_0 (v_len (by decide) (by decide))).trans ?_))
    (first | (refine (vge2 (x := i) (y := (wrd 22).length) (by omega) (by omega)).trans ?_) | (refine (vF_g rfl rfl).trans ?_; refine (vF_g rfl rfl).trans ?_; refine (vge2 (x := i) (y := (wrd 22).length) (by omega) (by omega)).trans ?_) | (refine (vF_g rfl rfl).trans ?_; refine (vge2 (x := i) (y := (wrd 22).length) (by omega) (by omega)).trans ?_))
    (first | (exact rfl) | (refine (vF_g rfl rfl).trans ?_; refine (vF_g rfl rfl).trans ?_; exact rfl) | (refine (vF_g rfl rfl).trans ?_; refine (vF_g rfl rfl).trans ?_; refine (vF_g rfl rfl).trans ?_; exact rfl) | (refine (vF_g rfl rfl).trans ?_; exact rfl))
  | succ m ih =>
    intro i F hi hF
    obtain ⟨F1, rfl⟩ : ∃ F1, F = F1 + 3 := ⟨F - 3, by omega⟩
    have hx : (f 446 3 + i) % 4294967296 = s + i := by rw [hs, Nat.mod_eq_of_lt (by omega)]
    rw [nthN_drop (wrd 22) i (by omega)]
    (first | (refine (vbnd_0 (v_len (by decide) (by decide))).trans ?_) | (refine (vF_g rfl rfl).trans ?_; refine (vF_g rfl rfl).trans ?_; refine (vbnd_0 (v_len (by decide) (by decide))).trans ?_) | (refine (vF_g rfl rfl).trans ?_; refine (vbnd_0 (v_len (by decide) (by decide))).trans ?_))
    (first | (refine (vlt (x := i) (y := (wrd 22).length) (by omega) (by omega)).trans ?_) | (refine (vF_g rfl rfl).trans ?_; refine (vF_g rfl rfl).trans ?_; refine (vlt (x := i) (y := (wrd 22).length) (by omega) (by omega)).trans ?_) | (refine (vF_g rfl rfl).trans ?_; refine (vlt (x := i) (y := (wrd 22).length) (by omega) (by omega)).trans ?_))
    (first | (refine (vbnd_0 (v_byteAt (i := (f 446 3 + i) % 4294967296) (f := f) (by rw [hx]; omega) hn)).trans ?_) | (refine (vF_g rfl rfl).trans ?_; refine (vF_g rfl rfl).trans ?_; refine (vbnd_0 (v_byteAt (i := (f 446 3 + i) % 4294967296) (f := f) (by rw [hx]; omega) hn)).trans ?_) | (refine (vF_g rfl rfl).trans ?_; refine (vbnd_0 (v_byteAt (i := (f 446 3 + i) % 4294967296) (f := f) (by rw [hx]; omega) hn)).trans ?_))
    (first | (refine (vbnd_0 (v_chr (i := i) (by decide) (by decide) (by omega))).trans ?_) | (refine (vF_g rfl rfl).trans ?_; refine (vF_g rfl rfl).trans ?_; refine (vbnd_0 (v_chr (i := i) (by decide) (by decide) (by omega))).trans ?_) | (refine (vF_g rfl rfl).trans ?_; refine (vbnd_0 (v_chr (i := i) (by decide) (by decide) (by omega))).trans ?_))
    rw [hx]
    by_cases q : bt f (s + i) = nthN (wrd 22) 0 i
    · rw [show wq (bt f) (nthN (wrd 22) 0 i :: (wrd 22).drop (i + 1)) (s + i) = wq (bt f) ((wrd 22).drop (i + 1)) (s + i + 1) from if_pos q]
      (first | (refine (veq q).trans ?_) | (refine (vF_g rfl rfl).trans ?_; refine (vF_g rfl rfl).trans ?_; refine (veq q).trans ?_) | (refine (vF_g rfl rfl).trans ?_; refine (veq q).trans ?_))
      (first | (refine Eq.trans (b := vFn (vM MT0 (D + 1)) nb_X7_wordIs F1 4 0 [vR 446, vW 22, vI ((i + 1) % 4294967296)] [] f) rfl ?_) | (refine (vF_g rfl rfl).trans ?_; refine (vF_g rfl rfl).trans ?_; refine Eq.trans (b := vFn (vM MT0 (D + 1)) nb_X7_wordIs F1 4 0 [vR 446, vW 22, vI ((i + 1) % 4294967296)] [] f) rfl ?_) | (refine (vF_g rfl rfl).trans ?_; refine Eq.trans (b := vFn (vM MT0 (D + 1)) nb_X7_wordIs F1 4 0 [vR 446, vW 22, vI ((i + 1) % 4294967296)] [] f) rfl ?_))
      rw [Nat.mod_eq_of_lt (show i + 1 < 4294967296 by omega)]
      exact ih (i + 1) F1 (by omega) (by omega)
    · rw [show wq (bt f) (nthN (wrd 22) 0 i :: (wrd 22).drop (i + 1)) (s + i) = false from if_neg q, if_neg (by decide)]
      (first | (refine (vne (x := bt f (s + i)) (y := nthN (wrd 22) 0 i) (bt_l32 _ _) (by have := wrd_lt 22 i; omega) q).trans ?_) | (refine (vF_g rfl rfl).trans ?_; refine (vF_g rfl rfl).trans ?_; refine (vne (x := bt f (s + i)) (y := nthN (wrd 22) 0 i) (bt_l32 _ _) (by have := wrd_lt 22 i; omega) q).trans ?_) | (refine (vF_g rfl rfl).trans ?_; refine (vne (x := bt f (s + i)) (y := nthN (wrd 22) 0 i) (bt_l32 _ _) (by have := wrd_lt 22 i; omega) q).trans ?_))
      (first | (exact rfl) | (refine (vF_g rfl rfl).trans ?_; refine (vF_g rfl rfl).trans ?_; exact rfl) | (refine (vF_g rfl rfl).trans ?_; refine (vF_g rfl rfl).trans ?_; refine (vF_g rfl rfl).trans ?_; exact rfl) | (refine (vF_g rfl rfl).trans ?_; exact rfl))
theorem v_wordIs_22 {D : Nat} {f : Vw} (hn : f 1 1 ≤ 900) (hs : f 446 3 ≤ 900) (hk : f 446 2 < 4294967296) (hz : f 446 4 < 4294967296) : vM MT0 (D + 2) 49 [vR 446, vW 22] f = some ((0, 0), vI (if f 446 2 = 1 ∧ f 446 4 = (wrd 22).length ∧ wq (bt f) (wrd 22) (f 446 3) = true then 1 else 0), f) := by
  have hl := wrd_len 22
  refine vM_go rfl rfl rfl rfl fun F hF => ?_
  by_cases c1 : f 446 2 = 1
  · by_cases c2 : f 446 4 = (wrd 22).length
    · (first | (refine (veq c1).trans ?_) | (refine (vF_g rfl rfl).trans ?_; refine (vF_g rfl rfl).trans ?_; refine (veq c1).trans ?_) | (refine (vF_g rfl rfl).trans ?_; refine (veq c1).trans ?_))
      (first | (refine (vbnd_0 (v_len (by decide) (by decide))).trans ?_) | (refine (vF_g rfl rfl).trans ?_; refine (vF_g rfl rfl).trans ?_; refine (vbnd_0 (v_len (by decide) (by decide))).trans ?_) | (refine (vF_g rfl rfl).trans ?_; refine (vbnd_0 (v_len (by decide) (by decide))).trans ?_))
      (first | (refine (veq c2).trans ?_) | (refine (vF_g rfl rfl).trans ?_; refine (vF_g rfl rfl).trans ?_; refine (veq c2).trans ?_) | (refine (vF_g rfl rfl).trans ?_; refine (veq c2).trans ?_))
      (first | (refine Eq.trans (b := vFn (vM MT0 (D + 1)) nb_X7_wordIs (F + 57) 4 0 [vR 446, vW 22, vI 0] [] f) rfl ?_) | (refine (vF_g rfl rfl).trans ?_; refine (vF_g rfl rfl).trans ?_; refine Eq.trans (b := vFn (vM MT0 (D + 1)) nb_X7_wordIs (F + 57) 4 0 [vR 446, vW 22, vI 0] [] f) rfl ?_) | (refine (vF_g rfl rfl).trans ?_; refine Eq.trans (b := vFn (vM MT0 (D + 1)) nb_X7_wordIs (F + 57) 4 0 [vR 446, vW 22, vI 0] [] f) rfl ?_))
      rw [wi_loop_22 hn rfl hs (wrd 22).length 0 (F + 57) (by omega) (by omega)]
      by_cases c3 : wq (bt f) (wrd 22) (f 446 3) = true
      · rw [if_pos (show wq (bt f) ((wrd 22).drop 0) (f 446 3 + 0) = true from c3), if_pos ⟨c1, c2, c3⟩]
      · rw [if_neg (show ¬ wq (bt f) ((wrd 22).drop 0) (f 446 3 + 0) = true from c3), if_neg (fun q => c3 q.2.2)]
    · rw [if_neg (fun q => c2 q.2.1)]
      (first | (refine (veq c1).trans ?_) | (refine (vF_g rfl rfl).trans ?_; refine (vF_g rfl rfl).trans ?_; refine (veq c1).trans ?_) | (refine (vF_g rfl rfl).trans ?_; refine (veq c1).trans ?_))
      (first | (refine (vbnd_0 (v_len (by decide) (by decide))).trans ?_) | (refine (vF_g rfl rfl).trans ?_; refine (vF_g rfl rfl).trans ?_; refine (vbnd_0 (v_len (by decide) (by decide))).trans ?_) | (refine (vF_g rfl rfl).trans ?_; refine (vbnd_0 (v_len (by decide) (by decide))).trans ?_))
      (first | (refine (vne (x := f 446 4) (y := (wrd 22).length) hz (by omega) c2).trans ?_) | (refine (vF_g rfl rfl).trans ?_; refine (vF_g rfl rfl).trans ?_; refine (vne (x := f 446 4) (y := (wrd 22).length) hz (by omega) c2).trans ?_) | (refine (vF_g rfl rfl).trans ?_; refine (vne (x := f 446 4) (y := (wrd 22).length) hz (by omega) c2).trans ?_))
      (first | (exact rfl) | (refine (vF_g rfl rfl).trans ?_; refine (vF_g rfl rfl).trans ?_; exact rfl) | (refine (vF_g rfl rfl).trans ?_; refine (vF_g rfl rfl).trans ?_; refine (vF_g rfl rfl).trans ?_; exact rfl) | (refine (vF_g rfl rfl).trans ?_; exact rfl))
  · rw [if_neg (fun q => c1 q.1)]
    (first | (refine (vne (x := f 446 2) (y := 1) hk (by decide) c1).trans ?_) | (refine (vF_g rfl rfl).trans ?_; refine (vF_g rfl rfl).trans ?_; refine (vne (x := f 446 2) (y := 1) hk (by decide) c1).trans ?_) | (refine (vF_g rfl rfl).trans ?_; refine (vne (x := f 446 2) (y := 1) hk (by decide) c1).trans ?_))
    (first | (exact rfl) | (refine (vF_g rfl rfl).trans ?_; refine (vF_g rfl rfl).trans ?_; exact rfl) | (refine (vF_g rfl rfl).trans ?_; refine (vF_g rfl rfl).trans ?_; refine (vF_g rfl rfl).trans ?_; exact rfl) | (refine (vF_g rfl rfl).trans ?_; exact rfl))
theorem wi_loop_23 {D s : Nat} {f : Vw} (hn : f 1 1 ≤ 900) (hs : f 446 3 = s) (hs9 : s ≤ 900) : ∀ (m i F : Nat), i + m = (wrd 23).length → 3 * m + 3 ≤ F → vFn (vM MT0 (D + 1)) nb_X7_wordIs F 4 0 [vR 446, vW 23, vI i] [] f = some ((0, 0), vI (if wq (bt f) ((wrd 23).drop i) (s + i) = true then 1 else 0), f) := by
  have hl := wrd_len 23
  intro m
  induction m with
  | zero =>
    intro i F hi hF
    obtain ⟨F1, rfl⟩ : ∃ F1, F = F1 + 2 := ⟨F - 2, by omega⟩
    rw [List.drop_eq_nil_of_le (show (wrd 23).length ≤ i by omega), show wq (bt f) [] (s + i) = true from rfl, if_pos rfl]
    (first | (refine (vbnd_0 (v_len (by decide) (by decide))).trans ?_) | (refine (vF_g rfl rfl).trans ?_; refine (vF_g rfl rfl).trans ?_; refine (vbnd_0 (v_len (by decide) (by decide))).trans ?_) | (refine (vF_g rfl rfl).trans ?_; refine (vbnd_0 (v_len (by decide) (by decide))).trans ?_))
    (first | (refine (vge2 (x := i) (y := (wrd 23).length) (by omega) (by omega)).trans ?_) | (refine (vF_g rfl rfl).trans ?_; refine (vF_g rfl rfl).trans ?_; refine (vge2 (x := i) (y := (wrd 23).length) (by omega) (by omega)).trans ?_) | (refine (vF_g rfl rfl).trans ?_; refine (vge2 (x := i) (y := (wrd 23).length) (by omega) (by omega)).trans ?_))
    (first | (exact rfl) | (refine (vF_g rfl rfl).trans ?_; refine (vF_g rfl rfl).trans ?_; exact rfl) | (refine (vF_g rfl rfl).trans ?_; refine (vF_g rfl rfl).trans ?_; refine (vF_g rfl rfl).trans ?_; exact rfl) | (refine (vF_g rfl rfl).trans ?_; exact rfl))
  | succ m ih =>
    intro i F hi hF
    obtain ⟨F1, rfl⟩ : ∃ F1, F = F1 + 3 := ⟨F - 3, by omega⟩
    have hx : (f 446 3 + i) % 4294967296 = s + i := by rw [hs, Nat.mod_eq_of_lt (by omega)]
    rw [nthN_drop (wrd 23) i (by omega)]
    (first | (refine (vbnd_0 (v_len (by decide) (by decide))).trans ?_) | (refine (vF_g rfl rfl).trans ?_; refine (vF_g rfl rfl).trans ?_; refine (vbnd_0 (v_len (by decide) (by decide))).trans ?_) | (refine (vF_g rfl rfl).trans ?_; refine (vbnd_0 (v_len (by decide) (by decide))).trans ?_))
    (first | (refine (vlt (x := i) (y := (wrd 23).length) (by omega) (by omega)).trans ?_) | (refine (vF_g rfl rfl).trans ?_; refine (vF_g rfl rfl).trans ?_; refine (vlt (x := i) (y := (wrd 23).length) (by omega) (by omega)).trans ?_) | (refine (vF_g rfl rfl).trans ?_; refine (vlt (x := i) (y := (wrd 23).length) (by omega) (by omega)).trans ?_))
    (first | (refine (vbnd_0 (v_byteAt (i := (f 446 3 + i) % 4294967296) (f := f) (by rw [hx]; omega) hn)).trans ?_) | (refine (vF_g rfl rfl).trans ?_; refine (vF_g rfl rfl).trans ?_; refine (vbnd_0 (v_byteAt (i := (f 446 3 + i) % 4294967296) (f := f) (by rw [hx]; omega) hn)).trans ?_) | (refine (vF_g rfl rfl).trans ?_; refine (vbnd_0 (v_byteAt (i := (f 446 3 + i) % 4294967296) (f := f) (by rw [hx]; omega) hn)).trans ?_))
    (first | (refine (vbnd_0 (v_chr (i := i) (by decide) (by decide) (by omega))).trans ?_) | (refine (vF_g rfl rfl).trans ?_; refine (vF_g rfl rfl).trans ?_; refine (vbnd_0 (v_chr (i := i) (by decide) (by decide) (by omega))).trans ?_) | (refine (vF_g rfl rfl).trans ?_; refine (vbnd_0 (v_chr (i := i) (by decide) (by decide) (by omega))).trans ?_))
    rw [hx]
    by_cases q : bt f (s + i) = nthN (wrd 23) 0 i
    · rw [show wq (bt f) (nthN (wrd 23) 0 i :: (wrd 23).drop (i + 1)) (s + i) = wq (bt f) ((wrd 23).drop (i + 1)) (s + i + 1) from if_pos q]
      (first | (refine (veq q).trans ?_) | (refine (vF_g rfl rfl).trans ?_; refine (vF_g rfl rfl).trans ?_; refine (veq q).trans ?_) | (refine (vF_g rfl rfl).trans ?_; refine (veq q).trans ?_))
      (first | (refine Eq.trans (b := vFn (vM MT0 (D + 1)) nb_X7_wordIs F1 4 0 [vR 446, vW 23, vI ((i + 1) % 4294967296)] [] f) rfl ?_) | (refine (vF_g rfl rfl).trans ?_; refine (vF_g rfl rfl).trans ?_; refine Eq.trans (b := vFn (vM MT0 (D + 1)) nb_X7_wordIs F1 4 0 [vR 446, vW 23, vI ((i + 1) % 4294967296)] [] f) rfl ?_) | (refine (vF_g rfl rfl).trans ?_; refine Eq.trans (b := vFn (vM MT0 (D + 1)) nb_X7_wordIs F1 4 0 [vR 446, vW 23, vI ((i + 1) % 4294967296)] [] f) rfl ?_))
      rw [Nat.mod_eq_of_lt (show i + 1 < 4294967296 by omega)]
      exact ih (i + 1) F1 (by omega) (by omega)
    · rw [show wq (bt f) (nthN (wrd 23) 0 i :: (wrd 23).drop (i + 1)) (s + i) = false from if_neg q, if_neg (by decide)]
      (first | (refine (vne (x := bt f (s + i)) (y := nthN (wrd 23) 0 i) (bt_l32 _ _) (by have := wrd_lt 23 i; omega) q).trans ?_) | (refine (vF_g rfl rfl).trans ?_; refine (vF_g rfl rfl).trans ?_; refine (vne (x := bt f (s + i)) (y := nthN (wrd 23) 0 i) (bt_l32 _ _) (by have := wrd_lt 23 i; omega) q).trans ?_) | (refine (vF_g rfl rfl).trans ?_; refine (vne (x := bt f (s + i)) (y := nthN (wrd 23) 0 i) (bt_l32 _ _) (by have := wrd_lt 23 i; omega) q).trans ?_))
      (first | (exact rfl) | (refine (vF_g rfl rfl).trans ?_; refine (vF_g rfl rfl).trans ?_; exact rfl) | (refine (vF_g rfl rfl).trans ?_; refine (vF_g rfl rfl).trans ?_; refine (vF_g rfl rfl).trans ?_; exact rfl) | (refine (vF_g rfl rfl).trans ?_; exact rfl))
theorem v_wordIs_23 {D : Nat} {f : Vw} (hn : f 1 1 ≤ 900) (hs : f 446 3 ≤ 900) (hk : f 446 2 < 4294967296) (hz : f 446 4 < 4294967296) : vM MT0 (D + 2) 49 [vR 446, vW 23] f = some ((0, 0), vI (if f 446 2 = 1 ∧ f 446 4 = (wrd 23).length ∧ wq (bt f) (wrd 23) (f 446 3) = true then 1 else 0), f) := by
  have hl := wrd_len 23
  refine vM_go rfl rfl rfl rfl fun F hF => ?_
  by_cases c1 : f 446 2 = 1
  · by_cases c2 : f 446 4 = (wrd 23).length
    · (first | (refine (veq c1).trans ?_) | (refine (vF_g rfl rfl).trans ?_; refine (vF_g rfl rfl).trans ?_; refine (veq c1).trans ?_) | (refine (vF_g rfl rfl).trans ?_; refine (veq c1).trans ?_))
      (first | (refine (vbnd_0 (v_len (by decide) (by decide))).trans ?_) | (refine (vF_g rfl rfl).trans ?_; refine (vF_g rfl rfl).trans ?_; refine (vbnd_0 (v_len (by decide) (by decide))).trans ?_) | (refine (vF_g rfl rfl).trans ?_; refine (vbnd_0 (v_len (by decide) (by decide))).trans ?_))
      (first | (refine (veq c2).trans ?_) | (refine (vF_g rfl rfl).trans ?_; refine (vF_g rfl rfl).trans ?_; refine (veq c2).trans ?_) | (refine (vF_g rfl rfl).trans ?_; refine (veq c2).trans ?_))
      (first | (refine Eq.trans (b := vFn (vM MT0 (D + 1)) nb_X7_wordIs (F + 57) 4 0 [vR 446, vW 23, vI 0] [] f) rfl ?_) | (refine (vF_g rfl rfl).trans ?_; refine (vF_g rfl rfl).trans ?_; refine Eq.trans (b := vFn (vM MT0 (D + 1)) nb_X7_wordIs (F + 57) 4 0 [vR 446, vW 23, vI 0] [] f) rfl ?_) | (refine (vF_g rfl rfl).trans ?_; refine Eq.trans (b := vFn (vM MT0 (D + 1)) nb_X7_wordIs (F + 57) 4 0 [vR 446, vW 23, vI 0] [] f) rfl ?_))
      rw [wi_loop_23 hn rfl hs (wrd 23).length 0 (F + 57) (by omega) (by omega)]
      by_cases c3 : wq (bt f) (wrd 23) (f 446 3) = true
      · rw [if_pos (show wq (bt f) ((wrd 23).drop 0) (f 446 3 + 0) = true from c3), if_pos ⟨c1, c2, c3⟩]
      · rw [if_neg (show ¬ wq (bt f) ((wrd 23).drop 0) (f 446 3 + 0) = true from c3), if_neg (fun q => c3 q.2.2)]
    · rw [if_neg (fun q => c2 q.2.1)]
      (first | (refine (veq c1).trans ?_) | (refine (vF_g rfl rfl).trans ?_; refine (vF_g rfl rfl).trans ?_; refine (veq c1).trans ?_) | (refine (vF_g rfl rfl).trans ?_; refine (veq c1).trans ?_))
      (first | (refine (vbnd_0 (v_len (by decide) (by decide))).trans ?_) | (refine (vF_g rfl rfl).trans ?_; refine (vF_g rfl rfl).trans ?_; refine (vbnd_0 (v_len (by decide) (by decide))).trans ?_) | (refine (vF_g rfl rfl).trans ?_; refine (vbnd_0 (v_len (by decide) (by decide))).trans ?_))
      (first | (refine (vne (x := f 446 4) (y := (wrd 23).length) hz (by omega) c2).trans ?_) | (refine (vF_g rfl rfl).trans ?_; refine (vF_g rfl rfl).trans ?_; refine (vne (x := f 446 4) (y := (wrd 23).length) hz (by omega) c2).trans ?_) | (refine (vF_g rfl rfl).trans ?_; refine (vne (x := f 446 4) (y := (wrd 23).length) hz (by omega) c2).trans ?_))
      (first | (exact rfl) | (refine (vF_g rfl rfl).trans ?_; refine (vF_g rfl rfl).trans ?_; exact rfl) | (refine (vF_g rfl rfl).trans ?_; refine (vF_g rfl rfl).trans ?_; refine (vF_g rfl rfl).trans ?_; exact rfl) | (refine (vF_g rfl rfl).trans ?_; exact rfl))
  · rw [if_neg (fun q => c1 q.1)]
    (first | (refine (vne (x := f 446 2) (y := 1) hk (by decide) c1).trans ?_) | (refine (vF_g rfl rfl).trans ?_; refine (vF_g rfl rfl).trans ?_; refine (vne (x := f 446 2) (y := 1) hk (by decide) c1).trans ?_) | (refine (vF_g rfl rfl).trans ?_; refine (vne (x := f 446 2) (y := 1) hk (by decide) c1).trans ?_))
    (first | (exact rfl) | (refine (vF_g rfl rfl).trans ?_; refine (vF_g rfl rfl).trans ?_; exact rfl) | (refine (vF_g rfl rfl).trans ?_; refine (vF_g rfl rfl).trans ?_; refine (vF_g rfl rfl).trans ?_; exact rfl) | (refine (vF_g rfl rfl).trans ?_; exact rfl))
theorem wi_loop_24 {D s : Nat} {f : Vw} (hn : f 1 1 ≤ 900) (hs : f 446 3 = s) (hs9 : s ≤ 900) : ∀ (m i F : Nat), i + m = (wrd 24).length → 3 * m + 3 ≤ F → vFn (vM MT0 (D + 1)) nb_X7_wordIs F 4 0 [vR 446, vW 24, vI i] [] f = some ((0, 0), vI (if wq (bt f) ((wrd 24).drop i) (s + i) = true then 1 else 0), f) := by
  have hl := wrd_len 24
  intro m
  induction m with
  | zero =>
    intro i F hi hF
    obtain ⟨F1, rfl⟩ : ∃ F1, F = F1 + 2 := ⟨F - 2, by omega⟩
    rw [List.drop_eq_nil_of_le (show (wrd 24).length ≤ i by omega), show wq (bt f) [] (s + i) = true from rfl, if_pos rfl]
    (first | (refine (vbnd_0 (v_len (by decide) (by decide))).trans ?_) | (refine (vF_g rfl rfl).trans ?_; refine (vF_g rfl rfl).trans ?_; refine (vbnd_0 (v_len (by decide) (by decide))).trans ?_) | (refine (vF_g rfl rfl).trans ?_; refine (vbnd_0 (v_len (by decide) (by decide))).trans ?_))
    (first | (refine (vge2 (x := i) (y := (wrd 24).length) (by omega) (by omega)).trans ?_) | (refine (vF_g rfl rfl).trans ?_; refine (vF_g rfl rfl).trans ?_; refine (vge2 (x := i) (y := (wrd 24).length) (by omega) (by omega)).trans ?_) | (refine (vF_g rfl rfl).trans ?_; refine (vge2 (x := i) (y := (wrd 24).length) (by omega) (by omega)).trans ?_))
    (first | (exact rfl) | (refine (vF_g rfl rfl).trans ?_; refine (vF_g rfl rfl).trans ?_; exact rfl) | (refine (vF_g rfl rfl).trans ?_; refine (vF_g rfl rfl).trans ?_; refine (vF_g rfl rfl).trans ?_; exact rfl) | (refine (vF_g rfl rfl).trans ?_; exact rfl))
  | succ m ih =>
    intro i F hi hF
    obtain ⟨F1, rfl⟩ : ∃ F1, F = F1 + 3 := ⟨F - 3, by omega⟩
    have hx : (f 446 3 + i) % 4294967296 = s + i := by rw [hs, Nat.mod_eq_of_lt (by omega)]
    rw [nthN_drop (wrd 24) i (by omega)]
    (first | (refine (vbnd_0 (v_len (by decide) (by decide))).trans ?_) | (refine (vF_g rfl rfl).trans ?_; refine (vF_g rfl rfl).trans ?_; refine (vbnd_0 (v_len (by decide) (by decide))).trans ?_) | (refine (vF_g rfl rfl).trans ?_; refine (vbnd_0 (v_len (by decide) (by decide))).trans ?_))
    (first | (refine (vlt (x := i) (y := (wrd 24).length) (by omega) (by omega)).trans ?_) | (refine (vF_g rfl rfl).trans ?_; refine (vF_g rfl rfl).trans ?_; refine (vlt (x := i) (y := (wrd 24).length) (by omega) (by omega)).trans ?_) | (refine (vF_g rfl rfl).trans ?_; refine (vlt (x := i) (y := (wrd 24).length) (by omega) (by omega)).trans ?_))
    (first | (refine (vbnd_0 (v_byteAt (i := (f 446 3 + i) % 4294967296) (f := f) (by rw [hx]; omega) hn)).trans ?_) | (refine (vF_g rfl rfl).trans ?_; refine (vF_g rfl rfl).trans ?_; refine (vbnd_0 (v_byteAt (i := (f 446 3 + i) % 4294967296) (f := f) (by rw [hx]; omega) hn)).trans ?_) | (refine (vF_g rfl rfl).trans ?_; refine (vbnd_0 (v_byteAt (i := (f 446 3 + i) % 4294967296) (f := f) (by rw [hx]; omega) hn)).trans ?_))
    (first | (refine (vbnd_0 (v_chr (i := i) (by decide) (by decide) (by omega))).trans ?_) | (refine (vF_g rfl rfl).trans ?_; refine (vF_g rfl rfl).trans ?_; refine (vbnd_0 (v_chr (i := i) (by decide) (by decide) (by omega))).trans ?_) | (refine (vF_g rfl rfl).trans ?_; refine (vbnd_0 (v_chr (i := i) (by decide) (by decide) (by omega))).trans ?_))
    rw [hx]
    by_cases q : bt f (s + i) = nthN (wrd 24) 0 i
    · rw [show wq (bt f) (nthN (wrd 24) 0 i :: (wrd 24).drop (i + 1)) (s + i) = wq (bt f) ((wrd 24).drop (i + 1)) (s + i + 1) from if_pos q]
      (first | (refine (veq q).trans ?_) | (refine (vF_g rfl rfl).trans ?_; refine (vF_g rfl rfl).trans ?_; refine (veq q).trans ?_) | (refine (vF_g rfl rfl).trans ?_; refine (veq q).trans ?_))
      (first | (refine Eq.trans (b := vFn (vM MT0 (D + 1)) nb_X7_wordIs F1 4 0 [vR 446, vW 24, vI ((i + 1) % 4294967296)] [] f) rfl ?_) | (refine (vF_g rfl rfl).trans ?_; refine (vF_g rfl rfl).trans ?_; refine Eq.trans (b := vFn (vM MT0 (D + 1)) nb_X7_wordIs F1 4 0 [vR 446, vW 24, vI ((i + 1) % 4294967296)] [] f) rfl ?_) | (refine (vF_g rfl rfl).trans ?_; refine Eq.trans (b := vFn (vM MT0 (D + 1)) nb_X7_wordIs F1 4 0 [vR 446, vW 24, vI ((i + 1) % 4294967296)] [] f) rfl ?_))
      rw [Nat.mod_eq_of_lt (show i + 1 < 4294967296 by omega)]
      exact ih (i + 1) F1 (by omega) (by omega)
    · rw [show wq (bt f) (nthN (wrd 24) 0 i :: (wrd 24).drop (i + 1)) (s + i) = false from if_neg q, if_neg (by decide)]
      (first | (refine (vne (x := bt f (s + i)) (y := nthN (wrd 24) 0 i) (bt_l32 _ _) (by have := wrd_lt 24 i; omega) q).trans ?_) | (refine (vF_g rfl rfl).trans ?_; refine (vF_g rfl rfl).trans ?_; refine (vne (x := bt f (s + i)) (y := nthN (wrd 24) 0 i) (bt_l32 _ _) (by have := wrd_lt 24 i; omega) q).trans ?_) | (refine (vF_g rfl rfl).trans ?_; refine (vne (x := bt f (s + i)) (y := nthN (wrd 24) 0 i) (bt_l32 _ _) (by have := wrd_lt 24 i; omega) q).trans ?_))
      (first | (exact rfl) | (refine (vF_g rfl rfl).trans ?_; refine (vF_g rfl rfl).trans ?_; exact rfl) | (refine (vF_g rfl rfl).trans ?_; refine (vF_g rfl rfl).trans ?_; refine (vF_g rfl rfl).trans ?_; exact rfl) | (refine (vF_g rfl rfl).trans ?_; exact rfl))
theorem v_wordIs_24 {D : Nat} {f : Vw} (hn : f 1 1 ≤ 900) (hs : f 446 3 ≤ 900) (hk : f 446 2 < 4294967296) (hz : f 446 4 < 4294967296) : vM MT0 (D + 2) 49 [vR 446, vW 24] f = some ((0, 0), vI (if f 446 2 = 1 ∧ f 446 4 = (wrd 24).length ∧ wq (bt f) (wrd 24) (f 446 3) = true then 1 else 0), f) := by
  have hl := wrd_len 24
  refine vM_go rfl rfl rfl rfl fun F hF => ?_
  by_cases c1 : f 446 2 = 1
  · by_cases c2 : f 446 4 = (wrd 24).length
    · (first | (refine (veq c1).trans ?_) | (refine (vF_g rfl rfl).trans ?_; refine (vF_g rfl rfl).trans ?_; refine (veq c1).trans ?_) | (refine (vF_g rfl rfl).trans ?_; refine (veq c1).trans ?_))
      (first | (refine (vbnd_0 (v_len (by decide) (by decide))).trans ?_) | (refine (vF_g rfl rfl).trans ?_; refine (vF_g rfl rfl).trans ?_; refine (vbnd_0 (v_len (by decide) (by decide))).trans ?_) | (refine (vF_g rfl rfl).trans ?_; refine (vbnd_0 (v_len (by decide) (by decide))).trans ?_))
      (first | (refine (veq c2).trans ?_) | (refine (vF_g rfl rfl).trans ?_; refine (vF_g rfl rfl).trans ?_; refine (veq c2).trans ?_) | (refine (vF_g rfl rfl).trans ?_; refine (veq c2).trans ?_))
      (first | (refine Eq.trans (b := vFn (vM MT0 (D + 1)) nb_X7_wordIs (F + 57) 4 0 [vR 446, vW 24, vI 0] [] f) rfl ?_) | (refine (vF_g rfl rfl).trans ?_; refine (vF_g rfl rfl).trans ?_; refine Eq.trans (b := vFn (vM MT0 (D + 1)) nb_X7_wordIs (F + 57) 4 0 [vR 446, vW 24, vI 0] [] f) rfl ?_) | (refine (vF_g rfl rfl).trans ?_; refine Eq.trans (b := vFn (vM MT0 (D + 1)) nb_X7_wordIs (F + 57) 4 0 [vR 446, vW 24, vI 0] [] f) rfl ?_))
      rw [wi_loop_24 hn rfl hs (wrd 24).length 0 (F + 57) (by omega) (by omega)]
      by_cases c3 : wq (bt f) (wrd 24) (f 446 3) = true
      · rw [if_pos (show wq (bt f) ((wrd 24).drop 0) (f 446 3 + 0) = true from c3), if_pos ⟨c1, c2, c3⟩]
      · rw [if_neg (show ¬ wq (bt f) ((wrd 24).drop 0) (f 446 3 + 0) = true from c3), if_neg (fun q => c3 q.2.2)]
    · rw [if_neg (fun q => c2 q.2.1)]
      (first | (refine (veq c1).trans ?_) | (refine (vF_g rfl rfl).trans ?_; refine (vF_g rfl rfl).trans ?_; refine (veq c1).trans ?_) | (refine (vF_g rfl rfl).trans ?_; refine (veq c1).trans ?_))
      (first | (refine (vbnd_0 (v_len (by decide) (by decide))).trans ?_) | (refine (vF_g rfl rfl).trans ?_; refine (vF_g rfl rfl).trans ?_; refine (vbnd_0 (v_len (by decide) (by decide))).trans ?_) | (refine (vF_g rfl rfl).trans ?_; refine (vbnd_0 (v_len (by decide) (by decide))).trans ?_))
      (first | (refine (vne (x := f 446 4) (y := (wrd 24).length) hz (by omega) c2).trans ?_) | (refine (vF_g rfl rfl).trans ?_; refine (vF_g rfl rfl).trans ?_; refine (vne (x := f 446 4) (y := (wrd 24).length) hz (by omega) c2).trans ?_) | (refine (vF_g rfl rfl).trans ?_; refine (vne (x := f 446 4) (y := (wrd 24).length) hz (by omega) c2).trans ?_))
      (first | (exact rfl) | (refine (vF_g rfl rfl).trans ?_; refine (vF_g rfl rfl).trans ?_; exact rfl) | (refine (vF_g rfl rfl).trans ?_; refine (vF_g rfl rfl).trans ?_; refine (vF_g rfl rfl).trans ?_; exact rfl) | (refine (vF_g rfl rfl).trans ?_; exact rfl))
  · rw [if_neg (fun q => c1 q.1)]
    (first | (refine (vne (x := f 446 2) (y := 1) hk (by decide) c1).trans ?_) | (refine (vF_g rfl rfl).trans ?_; refine (vF_g rfl rfl).trans ?_; refine (vne (x := f 446 2) (y := 1) hk (by decide) c1).trans ?_) | (refine (vF_g rfl rfl).trans ?_; refine (vne (x := f 446 2) (y := 1) hk (by decide) c1).trans ?_))
    (first | (exact rfl) | (refine (vF_g rfl rfl).trans ?_; refine (vF_g rfl rfl).trans ?_; exact rfl) | (refine (vF_g rfl rfl).trans ?_; refine (vF_g rfl rfl).trans ?_; refine (vF_g rfl rfl).trans ?_; exact rfl) | (refine (vF_g rfl rfl).trans ?_; exact rfl))
theorem wi_loop_25 {D s : Nat} {f : Vw} (hn : f 1 1 ≤ 900) (hs : f 446 3 = s) (hs9 : s ≤ 900) : ∀ (m i F : Nat), i + m = (wrd 25).length → 3 * m + 3 ≤ F → vFn (vM MT0 (D + 1)) nb_X7_wordIs F 4 0 [vR 446, vW 25, vI i] [] f = some ((0, 0), vI (if wq (bt f) ((wrd 25).drop i) (s + i) = true then 1 else 0), f) := by
  have hl := wrd_len 25
  intro m
  induction m with
  | zero =>
    intro i F hi hF
    obtain ⟨F1, rfl⟩ : ∃ F1, F = F1 + 2 := ⟨F - 2, by omega⟩
    rw [List.drop_eq_nil_of_le (show (wrd 25).length ≤ i by omega), show wq (bt f) [] (s + i) = true from rfl, if_pos rfl]
    (first | (refine (vbnd_0 (v_len (by decide) (by decide))).trans ?_) | (refine (vF_g rfl rfl).trans ?_; refine (vF_g rfl rfl).trans ?_; refine (vbnd_0 (v_len (by decide) (by decide))).trans ?_) | (refine (vF_g rfl rfl).trans ?_; refine (vbnd_0 (v_len (by decide) (by decide))).trans ?_))
    (first | (refine (vge2 (x := i) (y := (wrd 25).length) (by omega) (by omega)).trans ?_) | (refine (vF_g rfl rfl).trans ?_; refine (vF_g rfl rfl).trans ?_; refine (vge2 (x := i) (y := (wrd 25).length) (by omega) (by omega)).trans ?_) | (refine (vF_g rfl rfl).trans ?_; refine (vge2 (x := i) (y := (wrd 25).length) (by omega) (by omega)).trans ?_))
    (first | (exact rfl) | (refine (vF_g rfl rfl).trans ?_; refine (vF_g rfl rfl).trans ?_; exact rfl) | (refine (vF_g rfl rfl).trans ?_; refine (vF_g rfl rfl).trans ?_; refine (vF_g rfl rfl).trans ?_; exact rfl) | (refine (vF_g rfl rfl).trans ?_; exact rfl))
  | succ m ih =>
    intro i F hi hF
    obtain ⟨F1, rfl⟩ : ∃ F1, F = F1 + 3 := ⟨F - 3, by omega⟩
    have hx : (f 446 3 + i) % 4294967296 = s + i := by rw [hs, Nat.mod_eq_of_lt (by omega)]
    rw [nthN_drop (wrd 25) i (by omega)]
    (first | (refine (vbnd_0 (v_len (by decide) (by decide))).trans ?_) | (refine (vF_g rfl rfl).trans ?_; refine (vF_g rfl rfl).trans ?_; refine (vbnd_0 (v_len (by decide) (by decide))).trans ?_) | (refine (vF_g rfl rfl).trans ?_; refine (vbnd_0 (v_len (by decide) (by decide))).trans ?_))
    (first | (refine (vlt (x := i) (y := (wrd 25).length) (by omega) (by omega)).trans ?_) | (refine (vF_g rfl rfl).trans ?_; refine (vF_g rfl rfl).trans ?_; refine (vlt (x := i) (y := (wrd 25).length) (by omega) (by omega)).trans ?_) | (refine (vF_g rfl rfl).trans ?_; refine (vlt (x := i) (y := (wrd 25).length) (by omega) (by omega)).trans ?_))
    (first | (refine (vbnd_0 (v_byteAt (i := (f 446 3 + i) % 4294967296) (f := f) (by rw [hx]; omega) hn)).trans ?_) | (refine (vF_g rfl rfl).trans ?_; refine (vF_g rfl rfl).trans ?_; refine (vbnd_0 (v_byteAt (i := (f 446 3 + i) % 4294967296) (f := f) (by rw [hx]; omega) hn)).trans ?_) | (refine (vF_g rfl rfl).trans ?_; refine (vbnd_0 (v_byteAt (i := (f 446 3 + i) % 4294967296) (f := f) (by rw [hx]; omega) hn)).trans ?_))
    (first | (refine (vbnd_0 (v_chr (i := i) (by decide) (by decide) (by omega))).trans ?_) | (refine (vF_g rfl rfl).trans ?_; refine (vF_g rfl rfl).trans ?_; refine (vbnd_0 (v_chr (i := i) (by decide) (by decide) (by omega))).trans ?_) | (refine (vF_g rfl rfl).trans ?_; refine (vbnd_0 (v_chr (i := i) (by decide) (by decide) (by omega))).trans ?_))
    rw [hx]
    by_cases q : bt f (s + i) = nthN (wrd 25) 0 i
    · rw [show wq (bt f) (nthN (wrd 25) 0 i :: (wrd 25).drop (i + 1)) (s + i) = wq (bt f) ((wrd 25).drop (i + 1)) (s + i + 1) from if_pos q]
      (first | (refine (veq q).trans ?_) | (refine (vF_g rfl rfl).trans ?_; refine (vF_g rfl rfl).trans ?_; refine (veq q).trans ?_) | (refine (vF_g rfl rfl).trans ?_; refine (veq q).trans ?_))
      (first | (refine Eq.trans (b := vFn (vM MT0 (D + 1)) nb_X7_wordIs F1 4 0 [vR 446, vW 25, vI ((i + 1) % 4294967296)] [] f) rfl ?_) | (refine (vF_g rfl rfl).trans ?_; refine (vF_g rfl rfl).trans ?_; refine Eq.trans (b := vFn (vM MT0 (D + 1)) nb_X7_wordIs F1 4 0 [vR 446, vW 25, vI ((i + 1) % 4294967296)] [] f) rfl ?_) | (refine (vF_g rfl rfl).trans ?_; refine Eq.trans (b := vFn (vM MT0 (D + 1)) nb_X7_wordIs F1 4 0 [vR 446, vW 25, vI ((i + 1) % 4294967296)] [] f) rfl ?_))
      rw [Nat.mod_eq_of_lt (show i + 1 < 4294967296 by omega)]
      exact ih (i + 1) F1 (by omega) (by omega)
    · rw [show wq (bt f) (nthN (wrd 25) 0 i :: (wrd 25).drop (i + 1)) (s + i) = false from if_neg q, if_neg (by decide)]
      (first | (refine (vne (x := bt f (s + i)) (y := nthN (wrd 25) 0 i) (bt_l32 _ _) (by have := wrd_lt 25 i; omega) q).trans ?_) | (refine (vF_g rfl rfl).trans ?_; refine (vF_g rfl rfl).trans ?_; refine (vne (x := bt f (s + i)) (y := nthN (wrd 25) 0 i) (bt_l32 _ _) (by have := wrd_lt 25 i; omega) q).trans ?_) | (refine (vF_g rfl rfl).trans ?_; refine (vne (x := bt f (s + i)) (y := nthN (wrd 25) 0 i) (bt_l32 _ _) (by have := wrd_lt 25 i; omega) q).trans ?_))
      (first | (exact rfl) | (refine (vF_g rfl rfl).trans ?_; refine (vF_g rfl rfl).trans ?_; exact rfl) | (refine (vF_g rfl rfl).trans ?_; refine (vF_g rfl rfl).trans ?_; refine (vF_g rfl rfl).trans ?_; exact rfl) | (refine (vF_g rfl rfl).trans ?_; exact rfl))
theorem v_wordIs_25 {D : Nat} {f : Vw} (hn : f 1 1 ≤ 900) (hs : f 446 3 ≤ 900) (hk : f 446 2 < 4294967296) (hz : f 446 4 < 4294967296) : vM MT0 (D + 2) 49 [vR 446, vW 25] f = some ((0, 0), vI (if f 446 2 = 1 ∧ f 446 4 = (wrd 25).length ∧ wq (bt f) (wrd 25) (f 446 3) = true then 1 else 0), f) := by
  have hl := wrd_len 25
  refine vM_go rfl rfl rfl rfl fun F hF => ?_
  by_cases c1 : f 446 2 = 1
  · by_cases c2 : f 446 4 = (wrd 25).length
    · (first | (refine (veq c1).trans ?_) | (refine (vF_g rfl rfl).trans ?_; refine (vF_g rfl rfl).trans ?_; refine (veq c1).trans ?_) | (refine (vF_g rfl rfl).trans ?_; refine (veq c1).trans ?_))
      (first | (refine (vbnd_0 (v_len (by decide) (by decide))).trans ?_) | (refine (vF_g rfl rfl).trans ?_; refine (vF_g rfl rfl).trans ?_; refine (vbnd_0 (v_len (by decide) (by decide))).trans ?_) | (refine (vF_g rfl rfl).trans ?_; refine (vbnd_0 (v_len (by decide) (by decide))).trans ?_))
      (first | (refine (veq c2).trans ?_) | (refine (vF_g rfl rfl).trans ?_; refine (vF_g rfl rfl).trans ?_; refine (veq c2).trans ?_) | (refine (vF_g rfl rfl).trans ?_; refine (veq c2).trans ?_))
      (first | (refine Eq.trans (b := vFn (vM MT0 (D + 1)) nb_X7_wordIs (F + 57) 4 0 [vR 446, vW 25, vI 0] [] f) rfl ?_) | (refine (vF_g rfl rfl).trans ?_; refine (vF_g rfl rfl).trans ?_; refine Eq.trans (b := vFn (vM MT0 (D + 1)) nb_X7_wordIs (F + 57) 4 0 [vR 446, vW 25, vI 0] [] f) rfl ?_) | (refine (vF_g rfl rfl).trans ?_; refine Eq.trans (b := vFn (vM MT0 (D + 1)) nb_X7_wordIs (F + 57) 4 0 [vR 446, vW 25, vI 0] [] f) rfl ?_))
      rw [wi_loop_25 hn rfl hs (wrd 25).length 0 (F + 57) (by omega) (by omega)]
      by_cases c3 : wq (bt f) (wrd 25) (f 446 3) = true
      · rw [if_pos (show wq (bt f) ((wrd 25).drop 0) (f 446 3 + 0) = true from c3), if_pos ⟨c1, c2, c3⟩]
      · rw [if_neg (show ¬ wq (bt f) ((wrd 25).drop 0) (f 446 3 + 0) = true from c3), if_neg (fun q => c3 q.2.2)]
    · rw [if_neg (fun q => c2 q.2.1)]
      (first | (refine (veq c1).trans ?_) | (refine (vF_g rfl rfl).trans ?_; refine (vF_g rfl rfl).trans ?_; refine (veq c1).trans ?_) | (refine (vF_g rfl rfl).trans ?_; refine (veq c1).trans ?_))
      (first | (refine (vbnd_0 (v_len (by decide) (by decide))).trans ?_) | (refine (vF_g rfl rfl).trans ?_; refine (vF_g rfl rfl).trans ?_; refine (vbnd_0 (v_len (by decide) (by decide))).trans ?_) | (refine (vF_g rfl rfl).trans ?_; refine (vbnd_0 (v_len (by decide) (by decide))).trans ?_))
      (first | (refine (vne (x := f 446 4) (y := (wrd 25).length) hz (by omega) c2).trans ?_) | (refine (vF_g rfl rfl).trans ?_; refine (vF_g rfl rfl).trans ?_; refine (vne (x := f 446 4) (y := (wrd 25).length) hz (by omega) c2).trans ?_) | (refine (vF_g rfl rfl).trans ?_; refine (vne (x := f 446 4) (y := (wrd 25).length) hz (by omega) c2).trans ?_))
      (first | (exact rfl) | (refine (vF_g rfl rfl).trans ?_; refine (vF_g rfl rfl).trans ?_; exact rfl) | (refine (vF_g rfl rfl).trans ?_; refine (vF_g rfl rfl).trans ?_; refine (vF_g rfl rfl).trans ?_; exact rfl) | (refine (vF_g rfl rfl).trans ?_; exact rfl))
  · rw [if_neg (fun q => c1 q.1)]
    (first | (refine (vne (x := f 446 2) (y := 1) hk (by decide) c1).trans ?_) | (refine (vF_g rfl rfl).trans ?_; refine (vF_g rfl rfl).trans ?_; refine (vne (x := f 446 2) (y := 1) hk (by decide) c1).trans ?_) | (refine (vF_g rfl rfl).trans ?_; refine (vne (x := f 446 2) (y := 1) hk (by decide) c1).trans ?_))
    (first | (exact rfl) | (refine (vF_g rfl rfl).trans ?_; refine (vF_g rfl rfl).trans ?_; exact rfl) | (refine (vF_g rfl rfl).trans ?_; refine (vF_g rfl rfl).trans ?_; refine (vF_g rfl rfl).trans ?_; exact rfl) | (refine (vF_g rfl rfl).trans ?_; exact rfl))
theorem wi_loop_26 {D s : Nat} {f : Vw} (hn : f 1 1 ≤ 900) (hs : f 446 3 = s) (hs9 : s ≤ 900) : ∀ (m i F : Nat), i + m = (wrd 26).length → 3 * m + 3 ≤ F → vFn (vM MT0 (D + 1)) nb_X7_wordIs F 4 0 [vR 446, vW 26, vI i] [] f = some ((0, 0), vI (if wq (bt f) ((wrd 26).drop i) (s + i) = true then 1 else 0), f) := by
  have hl := wrd_len 26
  intro m
  induction m with
  | zero =>
    intro i F hi hF
    obtain ⟨F1, rfl⟩ : ∃ F1, F = F1 + 2 := ⟨F - 2, by omega⟩
    rw [List.drop_eq_nil_of_le (show (wrd 26).length ≤ i by omega), show wq (bt f) [] (s + i) = true from rfl, if_pos rfl]
    (first | (refine (vbnd_0 (v_len (by decide) (by decide))).trans ?_) | (refine (vF_g rfl rfl).trans ?_; refine (vF_g rfl rfl).trans ?_; refine (vbnd_0 (v_len (by decide) (by decide))).trans ?_) | (refine (vF_g rfl rfl).trans ?_; refine (vbnd_0 (v_len (by decide) (by decide))).trans ?_))
    (first | (refine (vge2 (x := i) (y := (wrd 26).length) (by omega) (by omega)).trans ?_) | (refine (vF_g rfl rfl).trans ?_; refine (vF_g rfl rfl).trans ?_; refine (vge2 (x := i) (y := (wrd 26).length) (by omega) (by omega)).trans ?_) | (refine (vF_g rfl rfl).trans ?_; refine (vge2 (x := i) (y := (wrd 26).length) (by omega) (by omega)).trans ?_))
    (first | (exact rfl) | (refine (vF_g rfl rfl).trans ?_; refine (vF_g rfl rfl).trans ?_; exact rfl) | (refine (vF_g rfl rfl).trans ?_; refine (vF_g rfl rfl).trans ?_; refine (vF_g rfl rfl).trans ?_; exact rfl) | (refine (vF_g rfl rfl).trans ?_; exact rfl))
  | succ m ih =>
    intro i F hi hF
    obtain ⟨F1, rfl⟩ : ∃ F1, F = F1 + 3 := ⟨F - 3, by omega⟩
    have hx : (f 446 3 + i) % 4294967296 = s + i := by rw [hs, Nat.mod_eq_of_lt (by omega)]
    rw [nthN_drop (wrd 26) i (by omega)]
    (first | (refine (vbnd_0 (v_len (by decide) (by decide))).trans ?_) | (refine (vF_g rfl rfl).trans ?_; refine (vF_g rfl rfl).trans ?_; refine (vbnd_0 (v_len (by decide) (by decide))).trans ?_) | (refine (vF_g rfl rfl).trans ?_; refine (vbnd_0 (v_len (by decide) (by decide))).trans ?_))
    (first | (refine (vlt (x := i) (y := (wrd 26).length) (by omega) (by omega)).trans ?_) | (refine (vF_g rfl rfl).trans ?_; refine (vF_g rfl rfl).trans ?_; refine (vlt (x := i) (y := (wrd 26).length) (by omega) (by omega)).trans ?_) | (refine (vF_g rfl rfl).trans ?_; refine (vlt (x := i) (y := (wrd 26).length) (by omega) (by omega)).trans ?_))
    (first | (refine (vbnd_0 (v_byteAt (i := (f 446 3 + i) % 4294967296) (f := f) (by rw [hx]; omega) hn)).trans ?_) | (refine (vF_g rfl rfl).trans ?_; refine (vF_g rfl rfl).trans ?_; refine (vbnd_0 (v_byteAt (i := (f 446 3 + i) % 4294967296) (f := f) (by rw [hx]; omega) hn)).trans ?_) | (refine (vF_g rfl rfl).trans ?_; refine (vbnd_0 (v_byteAt (i := (f 446 3 + i) % 4294967296) (f := f) (by rw [hx]; omega) hn)).trans ?_))
    (first | (refine (vbnd_0 (v_chr (i := i) (by decide) (by decide) (by omega))).trans ?_) | (refine (vF_g rfl rfl).trans ?_; refine (vF_g rfl rfl).trans ?_; refine (vbnd_0 (v_chr (i := i) (by decide) (by decide) (by omega))).trans ?_) | (refine (vF_g rfl rfl).trans ?_; refine (vbnd_0 (v_chr (i := i) (by decide) (by decide) (by omega))).trans ?_))
    rw [hx]
    by_cases q : bt f (s + i) = nthN (wrd 26) 0 i
    · rw [show wq (bt f) (nthN (wrd 26) 0 i :: (wrd 26).drop (i + 1)) (s + i) = wq (bt f) ((wrd 26).drop (i + 1)) (s + i + 1) from if_pos q]
      (first | (refine (veq q).trans ?_) | (refine (vF_g rfl rfl).trans ?_; refine (vF_g rfl rfl).trans ?_; refine (veq q).trans ?_) | (refine (vF_g rfl rfl).trans ?_; refine (veq q).trans ?_))
      (first | (refine Eq.trans (b := vFn (vM MT0 (D + 1)) nb_X7_wordIs F1 4 0 [vR 446, vW 26, vI ((i + 1) % 4294967296)] [] f) rfl ?_) | (refine (vF_g rfl rfl).trans ?_; refine (vF_g rfl rfl).trans ?_; refine Eq.trans (b := vFn (vM MT0 (D + 1)) nb_X7_wordIs F1 4 0 [vR 446, vW 26, vI ((i + 1) % 4294967296)] [] f) rfl ?_) | (refine (vF_g rfl rfl).trans ?_; refine Eq.trans (b := vFn (vM MT0 (D + 1)) nb_X7_wordIs F1 4 0 [vR 446, vW 26, vI ((i + 1) % 4294967296)] [] f) rfl ?_))
      rw [Nat.mod_eq_of_lt (show i + 1 < 4294967296 by omega)]
      exact ih (i + 1) F1 (by omega) (by omega)
    · rw [show wq (bt f) (nthN (wrd 26) 0 i :: (wrd 26).drop (i + 1)) (s + i) = false from if_neg q, if_neg (by decide)]
      (first | (refine (vne (x := bt f (s + i)) (y := nthN (wrd 26) 0 i) (bt_l32 _ _) (by have := wrd_lt 26 i; omega) q).trans ?_) | (refine (vF_g rfl rfl).trans ?_; refine (vF_g rfl rfl).trans ?_; refine (vne (x := bt f (s + i)) (y := nthN (wrd 26) 0 i) (bt_l32 _ _) (by have := wrd_lt 26 i; omega) q).trans ?_) | (refine (vF_g rfl rfl).trans ?_; refine (vne (x := bt f (s + i)) (y := nthN (wrd 26) 0 i) (bt_l32 _ _) (by have := wrd_lt 26 i; omega) q).trans ?_))
      (first | (exact rfl) | (refine (vF_g rfl rfl).trans ?_; refine (vF_g rfl rfl).trans ?_; exact rfl) | (refine (vF_g rfl rfl).trans ?_; refine (vF_g rfl rfl).trans ?_; refine (vF_g rfl rfl).trans ?_; exact rfl) | (refine (vF_g rfl rfl).trans ?_; exact rfl))
theorem v_wordIs_26 {D : Nat} {f : Vw} (hn : f 1 1 ≤ 900) (hs : f 446 3 ≤ 900) (hk : f 446 2 < 4294967296) (hz : f 446 4 < 4294967296) : vM MT0 (D + 2) 49 [vR 446, vW 26] f = some ((0, 0), vI (if f 446 2 = 1 ∧ f 446 4 = (wrd 26).length ∧ wq (bt f) (wrd 26) (f 446 3) = true then 1 else 0), f) := by
  have hl := wrd_len 26
  refine vM_go rfl rfl rfl rfl fun F hF => ?_
  by_cases c1 : f 446 2 = 1
  · by_cases c2 : f 446 4 = (wrd 26).length
    · (first | (refine (veq c1).trans ?_) | (refine (vF_g rfl rfl).trans ?_; refine (vF_g rfl rfl).trans ?_; refine (veq c1).trans ?_) | (refine (vF_g rfl rfl).trans ?_; refine (veq c1).trans ?_))
      (first | (refine (vbnd_0 (v_len (by decide) (by decide))).trans ?_) | (refine (vF_g rfl rfl).trans ?_; refine (vF_g rfl rfl).trans ?_; refine (vbnd_0 (v_len (by decide) (by decide))).trans ?_) | (refine (vF_g rfl rfl).trans ?_; refine (vbnd_0 (v_len (by decide) (by decide))).trans ?_))
      (first | (refine (veq c2).trans ?_) | (refine (vF_g rfl rfl).trans ?_; refine (vF_g rfl rfl).trans ?_; refine (veq c2).trans ?_) | (refine (vF_g rfl rfl).trans ?_; refine (veq c2).trans ?_))
      (first | (refine Eq.trans (b := vFn (vM MT0 (D + 1)) nb_X7_wordIs (F + 57) 4 0 [vR 446, vW 26, vI 0] [] f) rfl ?_) | (refine (vF_g rfl rfl).trans ?_; refine (vF_g rfl rfl).trans ?_; refine Eq.trans (b := vFn (vM MT0 (D + 1)) nb_X7_wordIs (F + 57) 4 0 [vR 446, vW 26, vI 0] [] f) rfl ?_) | (refine (vF_g rfl rfl).trans ?_; refine Eq.trans (b := vFn (vM MT0 (D + 1)) nb_X7_wordIs (F + 57) 4 0 [vR 446, vW 26, vI 0] [] f) rfl ?_))
      rw [wi_loop_26 hn rfl hs (wrd 26).length 0 (F + 57) (by omega) (by omega)]
      by_cases c3 : wq (bt f) (wrd 26) (f 446 3) = true
      · rw [if_pos (show wq (bt f) ((wrd 26).drop 0) (f 446 3 + 0) = true from c3), if_pos ⟨c1, c2, c3⟩]
      · rw [if_neg (show ¬ wq (bt f) ((wrd 26).drop 0) (f 446 3 + 0) = true from c3), if_neg (fun q => c3 q.2.2)]
    · rw [if_neg (fun q => c2 q.2.1)]
      (first | (refine (veq c1).trans ?_) | (refine (vF_g rfl rfl).trans ?_; refine (vF_g rfl rfl).trans ?_; refine (veq c1).trans ?_) | (refine (vF_g rfl rfl).trans ?_; refine (veq c1).trans ?_))
      (first | (refine (vbnd_0 (v_len (by decide) (by decide))).trans ?_) | (refine (vF_g rfl rfl).trans ?_; refine (vF_g rfl rfl).trans ?_; refine (vbnd_0 (v_len (by decide) (by decide))).trans ?_) | (refine (vF_g rfl rfl).trans ?_; refine (vbnd_0 (v_len (by decide) (by decide))).trans ?_))
      (first | (refine (vne (x := f 446 4) (y := (wrd 26).length) hz (by omega) c2).trans ?_) | (refine (vF_g rfl rfl).trans ?_; refine (vF_g rfl rfl).trans ?_; refine (vne (x := f 446 4) (y := (wrd 26).length) hz (by omega) c2).trans ?_) | (refine (vF_g rfl rfl).trans ?_; refine (vne (x := f 446 4) (y := (wrd 26).length) hz (by omega) c2).trans ?_))
      (first | (exact rfl) | (refine (vF_g rfl rfl).trans ?_; refine (vF_g rfl rfl).trans ?_; exact rfl) | (refine (vF_g rfl rfl).trans ?_; refine (vF_g rfl rfl).trans ?_; refine (vF_g rfl rfl).trans ?_; exact rfl) | (refine (vF_g rfl rfl).trans ?_; exact rfl))
  · rw [if_neg (fun q => c1 q.1)]
    (first | (refine (vne (x := f 446 2) (y := 1) hk (by decide) c1).trans ?_) | (refine (vF_g rfl rfl).trans ?_; refine (vF_g rfl rfl).trans ?_; refine (vne (x := f 446 2) (y := 1) hk (by decide) c1).trans ?_) | (refine (vF_g rfl rfl).trans ?_; refine (vne (x := f 446 2) (y := 1) hk (by decide) c1).trans ?_))
    (first | (exact rfl) | (refine (vF_g rfl rfl).trans ?_; refine (vF_g rfl rfl).trans ?_; exact rfl) | (refine (vF_g rfl rfl).trans ?_; refine (vF_g rfl rfl).trans ?_; refine (vF_g rfl rfl).trans ?_; exact rfl) | (refine (vF_g rfl rfl).trans ?_; exact rfl))
theorem wi_loop_27 {D s : Nat} {f : Vw} (hn : f 1 1 ≤ 900) (hs : f 446 3 = s) (hs9 : s ≤ 900) : ∀ (m i F : Nat), i + m = (wrd 27).length → 3 * m + 3 ≤ F → vFn (vM MT0 (D + 1)) nb_X7_wordIs F 4 0 [vR 446, vW 27, vI i] [] f = some ((0, 0), vI (if wq (bt f) ((wrd 27).drop i) (s + i) = true then 1 else 0), f) := by
  have hl := wrd_len 27
  intro m
  induction m with
  | zero =>
    intro i F hi hF
    obtain ⟨F1, rfl⟩ : ∃ F1, F = F1 + 2 := ⟨F - 2, by omega⟩
    rw [List.drop_eq_nil_of_le (show (wrd 27).length ≤ i by omega), show wq (bt f) [] (s + i) = true from rfl, if_pos rfl]
    (first | (refine (vbnd_0 (v_len (by decide) (by decide))).trans ?_) | (refine (vF_g rfl rfl).trans ?_; refine (vF_g rfl rfl).trans ?_; refine (vbnd_0 (v_len (by decide) (by decide))).trans ?_) | (refine (vF_g rfl rfl).trans ?_; refine (vbnd_0 (v_len (by decide) (by decide))).trans ?_))
    (first | (refine (vge2 (x := i) (y := (wrd 27).length) (by omega) (by omega)).trans ?_) | (refine (vF_g rfl rfl).trans ?_; refine (vF_g rfl rfl).trans ?_; refine (vge2 (x := i) (y := (wrd 27).length) (by omega) (by omega)).trans ?_) | (refine (vF_g rfl rfl).trans ?_; refine (vge2 (x := i) (y := (wrd 27).length) (by omega) (by omega)).trans ?_))
    (first | (exact rfl) | (refine (vF_g rfl rfl).trans ?_; refine (vF_g rfl rfl).trans ?_; exact rfl) | (refine (vF_g rfl rfl).trans ?_; refine (vF_g rfl rfl).trans ?_; refine (vF_g rfl rfl).trans ?_; exact rfl) | (refine (vF_g rfl rfl).trans ?_; exact rfl))
  | succ m ih =>
    intro i F hi hF
    obtain ⟨F1, rfl⟩ : ∃ F1, F = F1 + 3 := ⟨F - 3, by omega⟩
    have hx : (f 446 3 + i) % 4294967296 = s + i := by rw [hs, Nat.mod_eq_of_lt (by omega)]
    rw [nthN_drop (wrd 27) i (by omega)]
    (first | (refine (vbnd_0 (v_len (by decide) (by decide))).trans ?_) | (refine (vF_g rfl rfl).trans ?_; refine (vF_g rfl rfl).trans ?_; refine (vbnd_0 (v_len (by decide) (by decide))).trans ?_) | (refine (vF_g rfl rfl).trans ?_; refine (vbnd_0 (v_len (by decide) (by decide))).trans ?_))
    (first | (refine (vlt (x := i) (y := (wrd 27).length) (by omega) (by omega)).trans ?_) | (refine (vF_g rfl rfl).trans ?_; refine (vF_g rfl rfl).trans ?_; refine (vlt (x := i) (y := (wrd 27).length) (by omega) (by omega)).trans ?_) | (refine (vF_g rfl rfl).trans ?_; refine (vlt (x := i) (y := (wrd 27).length) (by omega) (by omega)).trans ?_))
    (first | (refine (vbnd_0 (v_byteAt (i := (f 446 3 + i) % 4294967296) (f := f) (by rw [hx]; omega) hn)).trans ?_) | (refine (vF_g rfl rfl).trans ?_; refine (vF_g rfl rfl).trans ?_; refine (vbnd_0 (v_byteAt (i := (f 446 3 + i) % 4294967296) (f := f) (by rw [hx]; omega) hn)).trans ?_) | (refine (vF_g rfl rfl).trans ?_; refine (vbnd_0 (v_byteAt (i := (f 446 3 + i) % 4294967296) (f := f) (by rw [hx]; omega) hn)).trans ?_))
    (first | (refine (vbnd_0 (v_chr (i := i) (by decide) (by decide) (by omega))).trans ?_) | (refine (vF_g rfl rfl).trans ?_; refine (vF_g rfl rfl).trans ?_; refine (vbnd_0 (v_chr (i := i) (by decide) (by decide) (by omega))).trans ?_) | (refine (vF_g rfl rfl).trans ?_; refine (vbnd_0 (v_chr (i := i) (by decide) (by decide) (by omega))).trans ?_))
    rw [hx]
    by_cases q : bt f (s + i) = nthN (wrd 27) 0 i
    · rw [show wq (bt f) (nthN (wrd 27) 0 i :: (wrd 27).drop (i + 1)) (s + i) = wq (bt f) ((wrd 27).drop (i + 1)) (s + i + 1) from if_pos q]
      (first | (refine (veq q).trans ?_) | (refine (vF_g rfl rfl).trans ?_; refine (vF_g rfl rfl).trans ?_; refine (veq q).trans ?_) | (refine (vF_g rfl rfl).trans ?_; refine (veq q).trans ?_))
      (first | (refine Eq.trans (b := vFn (vM MT0 (D + 1)) nb_X7_wordIs F1 4 0 [vR 446, vW 27, vI ((i + 1) % 4294967296)] [] f) rfl ?_) | (refine (vF_g rfl rfl).trans ?_; refine (vF_g rfl rfl).trans ?_; refine Eq.trans (b := vFn (vM MT0 (D + 1)) nb_X7_wordIs F1 4 0 [vR 446, vW 27, vI ((i + 1) % 4294967296)] [] f) rfl ?_) | (refine (vF_g rfl rfl).trans ?_; refine Eq.trans (b := vFn (vM MT0 (D + 1)) nb_X7_wordIs F1 4 0 [vR 446, vW 27, vI ((i + 1) % 4294967296)] [] f) rfl ?_))
      rw [Nat.mod_eq_of_lt (show i + 1 < 4294967296 by omega)]
      exact ih (i + 1) F1 (by omega) (by omega)
    · rw [show wq (bt f) (nthN (wrd 27) 0 i :: (wrd 27).drop (i + 1)) (s + i) = false from if_neg q, if_neg (by decide)]
      (first | (refine (vne (x := bt f (s + i)) (y := nthN (wrd 27) 0 i) (bt_l32 _ _) (by have := wrd_lt 27 i; omega) q).trans ?_) | (refine (vF_g rfl rfl).trans ?_; refine (vF_g rfl rfl).trans ?_; refine (vne (x := bt f (s + i)) (y := nthN (wrd 27) 0 i) (bt_l32 _ _) (by have := wrd_lt 27 i; omega) q).trans ?_) | (refine (vF_g rfl rfl).trans ?_; refine (vne (x := bt f (s + i)) (y := nthN (wrd 27) 0 i) (bt_l32 _ _) (by have := wrd_lt 27 i; omega) q).trans ?_))
      (first | (exact rfl) | (refine (vF_g rfl rfl).trans ?_; refine (vF_g rfl rfl).trans ?_; exact rfl) | (refine (vF_g rfl rfl).trans ?_; refine (vF_g rfl rfl).trans ?_; refine (vF_g rfl rfl).trans ?_; exact rfl) | (refine (vF_g rfl rfl).trans ?_; exact rfl))
theorem v_wordIs_27 {D : Nat} {f : Vw} (hn : f 1 1 ≤ 900) (hs : f 446 3 ≤ 900) (hk : f 446 2 < 4294967296) (hz : f 446 4 < 4294967296) : vM MT0 (D + 2) 49 [vR 446, vW 27] f = some ((0, 0), vI (if f 446 2 = 1 ∧ f 446 4 = (wrd 27).length ∧ wq (bt f) (wrd 27) (f 446 3) = true then 1 else 0), f) := by
  have hl := wrd_len 27
  refine vM_go rfl rfl rfl rfl fun F hF => ?_
  by_cases c1 : f 446 2 = 1
  · by_cases c2 : f 446 4 = (wrd 27).length
    · (first | (refine (veq c1).trans ?_) | (refine (vF_g rfl rfl).trans ?_; refine (vF_g rfl rfl).trans ?_; refine (veq c1).trans ?_) | (refine (vF_g rfl rfl).trans ?_; refine (veq c1).trans ?_))
      (first | (refine (vbnd_0 (v_len (by decide) (by decide))).trans ?_) | (refine (vF_g rfl rfl).trans ?_; refine (vF_g rfl rfl).trans ?_; refine (vbnd_0 (v_len (by decide) (by decide))).trans ?_) | (refine (vF_g rfl rfl).trans ?_; refine (vbnd_0 (v_len (by decide) (by decide))).trans ?_))
      (first | (refine (veq c2).trans ?_) | (refine (vF_g rfl rfl).trans ?_; refine (vF_g rfl rfl).trans ?_; refine (veq c2).trans ?_) | (refine (vF_g rfl rfl).trans ?_; refine (veq c2).trans ?_))
      (first | (refine Eq.trans (b := vFn (vM MT0 (D + 1)) nb_X7_wordIs (F + 57) 4 0 [vR 446, vW 27, vI 0] [] f) rfl ?_) | (refine (vF_g rfl rfl).trans ?_; refine (vF_g rfl rfl).trans ?_; refine Eq.trans (b := vFn (vM MT0 (D + 1)) nb_X7_wordIs (F + 57) 4 0 [vR 446, vW 27, vI 0] [] f) rfl ?_) | (refine (vF_g rfl rfl).trans ?_; refine Eq.trans (b := vFn (vM MT0 (D + 1)) nb_X7_wordIs (F + 57) 4 0 [vR 446, vW 27, vI 0] [] f) rfl ?_))
      rw [wi_loop_27 hn rfl hs (wrd 27).length 0 (F + 57) (by omega) (by omega)]
      by_cases c3 : wq (bt f) (wrd 27) (f 446 3) = true
      · rw [if_pos (show wq (bt f) ((wrd 27).drop 0) (f 446 3 + 0) = true from c3), if_pos ⟨c1, c2, c3⟩]
      · rw [if_neg (show ¬ wq (bt f) ((wrd 27).drop 0) (f 446 3 + 0) = true from c3), if_neg (fun q => c3 q.2.2)]
    · rw [if_neg (fun q => c2 q.2.1)]
      (first | (refine (veq c1).trans ?_) | (refine (vF_g rfl rfl).trans ?_; refine (vF_g rfl rfl).trans ?_; refine (veq c1).trans ?_) | (refine (vF_g rfl rfl).trans ?_; refine (veq c1).trans ?_))
      (first | (refine (vbnd_0 (v_len (by decide) (by decide))).trans ?_) | (refine (vF_g rfl rfl).trans ?_; refine (vF_g rfl rfl).trans ?_; refine (vbnd_0 (v_len (by decide) (by decide))).trans ?_) | (refine (vF_g rfl rfl).trans ?_; refine (vbnd_0 (v_len (by decide) (by decide))).trans ?_))
      (first | (refine (vne (x := f 446 4) (y := (wrd 27).length) hz (by omega) c2).trans ?_) | (refine (vF_g rfl rfl).trans ?_; refine (vF_g rfl rfl).trans ?_; refine (vne (x := f 446 4) (y := (wrd 27).length) hz (by omega) c2).trans ?_) | (refine (vF_g rfl rfl).trans ?_; refine (vne (x := f 446 4) (y := (wrd 27).length) hz (by omega) c2).trans ?_))
      (first | (exact rfl) | (refine (vF_g rfl rfl).trans ?_; refine (vF_g rfl rfl).trans ?_; exact rfl) | (refine (vF_g rfl rfl).trans ?_; refine (vF_g rfl rfl).trans ?_; refine (vF_g rfl rfl).trans ?_; exact rfl) | (refine (vF_g rfl rfl).trans ?_; exact rfl))
  · rw [if_neg (fun q => c1 q.1)]
    (first | (refine (vne (x := f 446 2) (y := 1) hk (by decide) c1).trans ?_) | (refine (vF_g rfl rfl).trans ?_; refine (vF_g rfl rfl).trans ?_; refine (vne (x := f 446 2) (y := 1) hk (by decide) c1).trans ?_) | (refine (vF_g rfl rfl).trans ?_; refine (vne (x := f 446 2) (y := 1) hk (by decide) c1).trans ?_))
    (first | (exact rfl) | (refine (vF_g rfl rfl).trans ?_; refine (vF_g rfl rfl).trans ?_; exact rfl) | (refine (vF_g rfl rfl).trans ?_; refine (vF_g rfl rfl).trans ?_; refine (vF_g rfl rfl).trans ?_; exact rfl) | (refine (vF_g rfl rfl).trans ?_; exact rfl))
theorem wi_loop_28 {D s : Nat} {f : Vw} (hn : f 1 1 ≤ 900) (hs : f 446 3 = s) (hs9 : s ≤ 900) : ∀ (m i F : Nat), i + m = (wrd 28).length → 3 * m + 3 ≤ F → vFn (vM MT0 (D + 1)) nb_X7_wordIs F 4 0 [vR 446, vW 28, vI i] [] f = some ((0, 0), vI (if wq (bt f) ((wrd 28).drop i) (s + i) = true then 1 else 0), f) := by
  have hl := wrd_len 28
  intro m
  induction m with
  | zero =>
    intro i F hi hF
    obtain ⟨F1, rfl⟩ : ∃ F1, F = F1 + 2 := ⟨F - 2, by omega⟩
    rw [List.drop_eq_nil_of_le (show (wrd 28).length ≤ i by omega), show wq (bt f) [] (s + i) = true from rfl, if_pos rfl]
    (first | (refine (vbnd_0 (v_len (by decide) (by decide))).trans ?_) | (refine (vF_g rfl rfl).trans ?_; refine (vF_g rfl rfl).trans ?_; refine (vbnd_0 (v_len (by decide) (by decide))).trans ?_) | (refine (vF_g rfl rfl).trans ?_; refine (vbnd_0 (v_len (by decide) (by decide))).trans ?_))
    (first | (refine (vge2 (x := i) (y := (wrd 28).length) (by omega) (by omega)).trans ?_) | (refine (vF_g rfl rfl).trans ?_; refine (vF_g rfl rfl).trans ?_; refine (vge2 (x := i) (y := (wrd 28).length) (by omega) (by omega)).trans ?_) | (refine (vF_g rfl rfl).trans ?_; refine (vge2 (x := i) (y := (wrd 28).length) (by omega) (by omega)).trans ?_))
    (first | (exact rfl) | (refine (vF_g rfl rfl).trans ?_; refine (vF_g rfl rfl).trans ?_; exact rfl) | (refine (vF_g rfl rfl).trans ?_; refine (vF_g rfl rfl).trans ?_; refine (vF_g rfl rfl).trans ?_; exact rfl) | (refine (vF_g rfl rfl).trans ?_; exact rfl))
  | succ m ih =>
    intro i F hi hF
    obtain ⟨F1, rfl⟩ : ∃ F1, F = F1 + 3 := ⟨F - 3, by omega⟩
    have hx : (f 446 3 + i) % 4294967296 = s + i := by rw [hs, Nat.mod_eq_of_lt (by omega)]
    rw [nthN_drop (wrd 28) i (by omega)]
    (first | (refine (vbnd_0 (v_len (by decide) (by decide))).trans ?_) | (refine (vF_g rfl rfl).trans ?_; refine (vF_g rfl rfl).trans ?_; refine (vbnd_0 (v_len (by decide) (by decide))).trans ?_) | (refine (vF_g rfl rfl).trans ?_; refine (vbnd_0 (v_len (by decide) (by decide))).trans ?_))
    (first | (refine (vlt (x := i) (y := (wrd 28).length) (by omega) (by omega)).trans ?_) | (refine (vF_g rfl rfl).trans ?_; refine (vF_g rfl rfl).trans ?_; refine (vlt (x := i) (y := (wrd 28).length) (by omega) (by omega)).trans ?_) | (refine (vF_g rfl rfl).trans ?_; refine (vlt (x := i) (y := (wrd 28).length) (by omega) (by omega)).trans ?_))
    (first | (refine (vbnd_0 (v_byteAt (i := (f 446 3 + i) % 4294967296) (f := f) (by rw [hx]; omega) hn)).trans ?_) | (refine (vF_g rfl rfl).trans ?_; refine (vF_g rfl rfl).trans ?_; refine (vbnd_0 (v_byteAt (i := (f 446 3 + i) % 4294967296) (f := f) (by rw [hx]; omega) hn)).trans ?_) | (refine (vF_g rfl rfl).trans ?_; refine (vbnd_0 (v_byteAt (i := (f 446 3 + i) % 4294967296) (f := f) (by rw [hx]; omega) hn)).trans ?_))
    (first | (refine (vbnd_0 (v_chr (i := i) (by decide) (by decide) (by omega))).trans ?_) | (refine (vF_g rfl rfl).trans ?_; refine (vF_g rfl rfl).trans ?_; refine (vbnd_0 (v_chr (i := i) (by decide) (by decide) (by omega))).trans ?_) | (refine (vF_g rfl rfl).trans ?_; refine (vbnd_0 (v_chr (i := i) (by decide) (by decide) (by omega))).trans ?_))
    rw [hx]
    by_cases q : bt f (s + i) = nthN (wrd 28) 0 i
    · rw [show wq (bt f) (nthN (wrd 28) 0 i :: (wrd 28).drop (i + 1)) (s + i) = wq (bt f) ((wrd 28).drop (i + 1)) (s + i + 1) from if_pos q]
      (first | (refine (veq q).trans ?_) | (refine (vF_g rfl rfl).trans ?_; refine (vF_g rfl rfl).trans ?_; refine (veq q).trans ?_) | (refine (vF_g rfl rfl).trans ?_; refine (veq q).trans ?_))
      (first | (refine Eq.trans (b := vFn (vM MT0 (D + 1)) nb_X7_wordIs F1 4 0 [vR 446, vW 28, vI ((i + 1) % 4294967296)] [] f) rfl ?_) | (refine (vF_g rfl rfl).trans ?_; refine (vF_g rfl rfl).trans ?_; refine Eq.trans (b := vFn (vM MT0 (D + 1)) nb_X7_wordIs F1 4 0 [vR 446, vW 28, vI ((i + 1) % 4294967296)] [] f) rfl ?_) | (refine (vF_g rfl rfl).trans ?_; refine Eq.trans (b := vFn (vM MT0 (D + 1)) nb_X7_wordIs F1 4 0 [vR 446, vW 28, vI ((i + 1) % 4294967296)] [] f) rfl ?_))
      rw [Nat.mod_eq_of_lt (show i + 1 < 4294967296 by omega)]
      exact ih (i + 1) F1 (by omega) (by omega)
    · rw [show wq (bt f) (nthN (wrd 28) 0 i :: (wrd 28).drop (i + 1)) (s + i) = false from if_neg q, if_neg (by decide)]
      (first | (refine (vne (x := bt f (s + i)) (y := nthN (wrd 28) 0 i) (bt_l32 _ _) (by have := wrd_lt 28 i; omega) q).trans ?_) | (refine (vF_g rfl rfl).trans ?_; refine (vF_g rfl rfl).trans ?_; refine (vne (x := bt f (s + i)) (y := nthN (wrd 28) 0 i) (bt_l32 _ _) (by have := wrd_lt 28 i; omega) q).trans ?_) | (refine (vF_g rfl rfl).trans ?_; refine (vne (x := bt f (s + i)) (y := nthN (wrd 28) 0 i) (bt_l32 _ _) (by have := wrd_lt 28 i; omega) q).trans ?_))
      (first | (exact rfl) | (refine (vF_g rfl rfl).trans ?_; refine (vF_g rfl rfl).trans ?_; exact rfl) | (refine (vF_g rfl rfl).trans ?_; refine (vF_g rfl rfl).trans ?_; refine (vF_g rfl rfl).trans ?_; exact rfl) | (refine (vF_g rfl rfl).trans ?_; exact rfl))
theorem v_wordIs_28 {D : Nat} {f : Vw} (hn : f 1 1 ≤ 900) (hs : f 446 3 ≤ 900) (hk : f 446 2 < 4294967296) (hz : f 446 4 < 4294967296) : vM MT0 (D + 2) 49 [vR 446, vW 28] f = some ((0, 0), vI (if f 446 2 = 1 ∧ f 446 4 = (wrd 28).length ∧ wq (bt f) (wrd 28) (f 446 3) = true then 1 else 0), f) := by
  have hl := wrd_len 28
  refine vM_go rfl rfl rfl rfl fun F hF => ?_
  by_cases c1 : f 446 2 = 1
  · by_cases c2 : f 446 4 = (wrd 28).length
    · (first | (refine (veq c1).trans ?_) | (refine (vF_g rfl rfl).trans ?_; refine (vF_g rfl rfl).trans ?_; refine (veq c1).trans ?_) | (refine (vF_g rfl rfl).trans ?_; refine (veq c1).trans ?_))
      (first | (refine (vbnd_0 (v_len (by decide) (by decide))).trans ?_) | (refine (vF_g rfl rfl).trans ?_; refine (vF_g rfl rfl).trans ?_; refine (vbnd_0 (v_len (by decide) (by decide))).trans ?_) | (refine (vF_g rfl rfl).trans ?_; refine (vbnd_0 (v_len (by decide) (by decide))).trans ?_))
      (first | (refine (veq c2).trans ?_) | (refine (vF_g rfl rfl).trans ?_; refine (vF_g rfl rfl).trans ?_; refine (veq c2).trans ?_) | (refine (vF_g rfl rfl).trans ?_; refine (veq c2).trans ?_))
      (first | (refine Eq.trans (b := vFn (vM MT0 (D + 1)) nb_X7_wordIs (F + 57) 4 0 [vR 446, vW 28, vI 0] [] f) rfl ?_) | (refine (vF_g rfl rfl).trans ?_; refine (vF_g rfl rfl).trans ?_; refine Eq.trans (b := vFn (vM MT0 (D + 1)) nb_X7_wordIs (F + 57) 4 0 [vR 446, vW 28, vI 0] [] f) rfl ?_) | (refine (vF_g rfl rfl).trans ?_; refine Eq.trans (b := vFn (vM MT0 (D + 1)) nb_X7_wordIs (F + 57) 4 0 [vR 446, vW 28, vI 0] [] f) rfl ?_))
      rw [wi_loop_28 hn rfl hs (wrd 28).length 0 (F + 57) (by omega) (by omega)]
      by_cases c3 : wq (bt f) (wrd 28) (f 446 3) = true
      · rw [if_pos (show wq (bt f) ((wrd 28).drop 0) (f 446 3 + 0) = true from c3), if_pos ⟨c1, c2, c3⟩]
      · rw [if_neg (show ¬ wq (bt f) ((wrd 28).drop 0) (f 446 3 + 0) = true from c3), if_neg (fun q => c3 q.2.2)]
    · rw [if_neg (fun q => c2 q.2.1)]
      (first | (refine (veq c1).trans ?_) | (refine (vF_g rfl rfl).trans ?_; refine (vF_g rfl rfl).trans ?_; refine (veq c1).trans ?_) | (refine (vF_g rfl rfl).trans ?_; refine (veq c1).trans ?_))
      (first | (refine (vbnd_0 (v_len (by decide) (by decide))).trans ?_) | (refine (vF_g rfl rfl).trans ?_; refine (vF_g rfl rfl).trans ?_; refine (vbnd_0 (v_len (by decide) (by decide))).trans ?_) | (refine (vF_g rfl rfl).trans ?_; refine (vbnd_0 (v_len (by decide) (by decide))).trans ?_))
      (first | (refine (vne (x := f 446 4) (y := (wrd 28).length) hz (by omega) c2).trans ?_) | (refine (vF_g rfl rfl).trans ?_; refine (vF_g rfl rfl).trans ?_; refine (vne (x := f 446 4) (y := (wrd 28).length) hz (by omega) c2).trans ?_) | (refine (vF_g rfl rfl).trans ?_; refine (vne (x := f 446 4) (y := (wrd 28).length) hz (by omega) c2).trans ?_))
      (first | (exact rfl) | (refine (vF_g rfl rfl).trans ?_; refine (vF_g rfl rfl).trans ?_; exact rfl) | (refine (vF_g rfl rfl).trans ?_; refine (vF_g rfl rfl).trans ?_; refine (vF_g rfl rfl).trans ?_; exact rfl) | (refine (vF_g rfl rfl).trans ?_; exact rfl))
  · rw [if_neg (fun q => c1 q.1)]
    (first | (refine (vne (x := f 446 2) (y := 1) hk (by decide) c1).trans ?_) | (refine (vF_g rfl rfl).trans ?_; refine (vF_g rfl rfl).trans ?_; refine (vne (x := f 446 2) (y := 1) hk (by decide) c1).trans ?_) | (refine (vF_g rfl rfl).trans ?_; refine (vne (x := f 446 2) (y := 1) hk (by decide) c1).trans ?_))
    (first | (exact rfl) | (refine (vF_g rfl rfl).trans ?_; refine (vF_g rfl rfl).trans ?_; exact rfl) | (refine (vF_g rfl rfl).trans ?_; refine (vF_g rfl rfl).trans ?_; refine (vF_g rfl rfl).trans ?_; exact rfl) | (refine (vF_g rfl rfl).trans ?_; exact rfl))
theorem wi_loop_29 {D s : Nat} {f : Vw} (hn : f 1 1 ≤ 900) (hs : f 446 3 = s) (hs9 : s ≤ 900) : ∀ (m i F : Nat), i + m = (wrd 29).length → 3 * m + 3 ≤ F → vFn (vM MT0 (D + 1)) nb_X7_wordIs F 4 0 [vR 446, vW 29, vI i] [] f = some ((0, 0), vI (if wq (bt f) ((wrd 29).drop i) (s + i) = true then 1 else 0), f) := by
  have hl := wrd_len 29
  intro m
  induction m with
  | zero =>
    intro i F hi hF
    obtain ⟨F1, rfl⟩ : ∃ F1, F = F1 + 2 := ⟨F - 2, by omega⟩
    rw [List.drop_eq_nil_of_le (show (wrd 29).length ≤ i by omega), show wq (bt f) [] (s + i) = true from rfl, if_pos rfl]
    (first | (refine (vbnd_0 (v_len (by decide) (by decide))).trans ?_) | (refine (vF_g rfl rfl).trans ?_; refine (vF_g rfl rfl).trans ?_; refine (vbnd_0 (v_len (by decide) (by decide))).trans ?_) | (refine (vF_g rfl rfl).trans ?_; refine (vbnd_0 (v_len (by decide) (by decide))).trans ?_))
    (first | (refine (vge2 (x := i) (y := (wrd 29).length) (by omega) (by omega)).trans ?_) | (refine (vF_g rfl rfl).trans ?_; refine (vF_g rfl rfl).trans ?_; refine (vge2 (x := i) (y := (wrd 29).length) (by omega) (by omega)).trans ?_) | (refine (vF_g rfl rfl).trans ?_; refine (vge2 (x := i) (y := (wrd 29).length) (by omega) (by omega)).trans ?_))
    (first | (exact rfl) | (refine (vF_g rfl rfl).trans ?_; refine (vF_g rfl rfl).trans ?_; exact rfl) | (refine (vF_g rfl rfl).trans ?_; refine (vF_g rfl rfl).trans ?_; refine (vF_g rfl rfl).trans ?_; exact rfl) | (refine (vF_g rfl rfl).trans ?_; exact rfl))
  | succ m ih =>
    intro i F hi hF
    obtain ⟨F1, rfl⟩ : ∃ F1, F = F1 + 3 := ⟨F - 3, by omega⟩
    have hx : (f 446 3 + i) % 4294967296 = s + i := by rw [hs, Nat.mod_eq_of_lt (by omega)]
    rw [nthN_drop (wrd 29) i (by omega)]
    (first | (refine (vbnd_0 (v_len (by decide) (by decide))).trans ?_) | (refine (vF_g rfl rfl).trans ?_; refine (vF_g rfl rfl).trans ?_; refine (vbnd_0 (v_len (by decide) (by decide))).trans ?_) | (refine (vF_g rfl rfl).trans ?_; refine (vbnd_0 (v_len (by decide) (by decide))).trans ?_))
    (first | (refine (vlt (x := i) (y := (wrd 29).length) (by omega) (by omega)).trans ?_) | (refine (vF_g rfl rfl).trans ?_; refine (vF_g rfl rfl).trans ?_; refine (vlt (x := i) (y := (wrd 29).length) (by omega) (by omega)).trans ?_) | (refine (vF_g rfl rfl).trans ?_; refine (vlt (x := i) (y := (wrd 29).length) (by omega) (by omega)).trans ?_))
    (first | (refine (vbnd_0 (v_byteAt (i := (f 446 3 + i) % 4294967296) (f := f) (by rw [hx]; omega) hn)).trans ?_) | (refine (vF_g rfl rfl).trans ?_; refine (vF_g rfl rfl).trans ?_; refine (vbnd_0 (v_byteAt (i := (f 446 3 + i) % 4294967296) (f := f) (by rw [hx]; omega) hn)).trans ?_) | (refine (vF_g rfl rfl).trans ?_; refine (vbnd_0 (v_byteAt (i := (f 446 3 + i) % 4294967296) (f := f) (by rw [hx]; omega) hn)).trans ?_))
    (first | (refine (vbnd_0 (v_chr (i := i) (by decide) (by decide) (by omega))).trans ?_) | (refine (vF_g rfl rfl).trans ?_; refine (vF_g rfl rfl).trans ?_; refine (vbnd_0 (v_chr (i := i) (by decide) (by decide) (by omega))).trans ?_) | (refine (vF_g rfl rfl).trans ?_; refine (vbnd_0 (v_chr (i := i) (by decide) (by decide) (by omega))).trans ?_))
    rw [hx]
    by_cases q : bt f (s + i) = nthN (wrd 29) 0 i
    · rw [show wq (bt f) (nthN (wrd 29) 0 i :: (wrd 29).drop (i + 1)) (s + i) = wq (bt f) ((wrd 29).drop (i + 1)) (s + i + 1) from if_pos q]
      (first | (refine (veq q).trans ?_) | (refine (vF_g rfl rfl).trans ?_; refine (vF_g rfl rfl).trans ?_; refine (veq q).trans ?_) | (refine (vF_g rfl rfl).trans ?_; refine (veq q).trans ?_))
      (first | (refine Eq.trans (b := vFn (vM MT0 (D + 1)) nb_X7_wordIs F1 4 0 [vR 446, vW 29, vI ((i + 1) % 4294967296)] [] f) rfl ?_) | (refine (vF_g rfl rfl).trans ?_; refine (vF_g rfl rfl).trans ?_; refine Eq.trans (b := vFn (vM MT0 (D + 1)) nb_X7_wordIs F1 4 0 [vR 446, vW 29, vI ((i + 1) % 4294967296)] [] f) rfl ?_) | (refine (vF_g rfl rfl).trans ?_; refine Eq.trans (b := vFn (vM MT0 (D + 1)) nb_X7_wordIs F1 4 0 [vR 446, vW 29, vI ((i + 1) % 4294967296)] [] f) rfl ?_))
      rw [Nat.mod_eq_of_lt (show i + 1 < 4294967296 by omega)]
      exact ih (i + 1) F1 (by omega) (by omega)
    · rw [show wq (bt f) (nthN (wrd 29) 0 i :: (wrd 29).drop (i + 1)) (s + i) = false from if_neg q, if_neg (by decide)]
      (first | (refine (vne (x := bt f (s + i)) (y := nthN (wrd 29) 0 i) (bt_l32 _ _) (by have := wrd_lt 29 i; omega) q).trans ?_) | (refine (vF_g rfl rfl).trans ?_; refine (vF_g rfl rfl).trans ?_; refine (vne (x := bt f (s + i)) (y := nthN (wrd 29) 0 i) (bt_l32 _ _) (by have := wrd_lt 29 i; omega) q).trans ?_) | (refine (vF_g rfl rfl).trans ?_; refine (vne (x := bt f (s + i)) (y := nthN (wrd 29) 0 i) (bt_l32 _ _) (by have := wrd_lt 29 i; omega) q).trans ?_))
      (first | (exact rfl) | (refine (vF_g rfl rfl).trans ?_; refine (vF_g rfl rfl).trans ?_; exact rfl) | (refine (vF_g rfl rfl).trans ?_; refine (vF_g rfl rfl).trans ?_; refine (vF_g rfl rfl).trans ?_; exact rfl) | (refine (vF_g rfl rfl).trans ?_; exact rfl))
theorem v_wordIs_29 {D : Nat} {f : Vw} (hn : f 1 1 ≤ 900) (hs : f 446 3 ≤ 900) (hk : f 446 2 < 4294967296) (hz : f 446 4 < 4294967296) : vM MT0 (D + 2) 49 [vR 446, vW 29] f = some ((0, 0), vI (if f 446 2 = 1 ∧ f 446 4 = (wrd 29).length ∧ wq (bt f) (wrd 29) (f 446 3) = true then 1 else 0), f) := by
  have hl := wrd_len 29
  refine vM_go rfl rfl rfl rfl fun F hF => ?_
  by_cases c1 : f 446 2 = 1
  · by_cases c2 : f 446 4 = (wrd 29).length
    · (first | (refine (veq c1).trans ?_) | (refine (vF_g rfl rfl).trans ?_; refine (vF_g rfl rfl).trans ?_; refine (veq c1).trans ?_) | (refine (vF_g rfl rfl).trans ?_; refine (veq c1).trans ?_))
      (first | (refine (vbnd_0 (v_len (by decide) (by decide))).trans ?_) | (refine (vF_g rfl rfl).trans ?_; refine (vF_g rfl rfl).trans ?_; refine (vbnd_0 (v_len (by decide) (by decide))).trans ?_) | (refine (vF_g rfl rfl).trans ?_; refine (vbnd_0 (v_len (by decide) (by decide))).trans ?_))
      (first | (refine (veq c2).trans ?_) | (refine (vF_g rfl rfl).trans ?_; refine (vF_g rfl rfl).trans ?_; refine (veq c2).trans ?_) | (refine (vF_g rfl rfl).trans ?_; refine (veq c2).trans ?_))
      (first | (refine Eq.trans (b := vFn (vM MT0 (D + 1)) nb_X7_wordIs (F + 57) 4 0 [vR 446, vW 29, vI 0] [] f) rfl ?_) | (refine (vF_g rfl rfl).trans ?_; refine (vF_g rfl rfl).trans ?_; refine Eq.trans (b := vFn (vM MT0 (D + 1)) nb_X7_wordIs (F + 57) 4 0 [vR 446, vW 29, vI 0] [] f) rfl ?_) | (refine (vF_g rfl rfl).trans ?_; refine Eq.trans (b := vFn (vM MT0 (D + 1)) nb_X7_wordIs (F + 57) 4 0 [vR 446, vW 29, vI 0] [] f) rfl ?_))
      rw [wi_loop_29 hn rfl hs (wrd 29).length 0 (F + 57) (by omega) (by omega)]
      by_cases c3 : wq (bt f) (wrd 29) (f 446 3) = true
      · rw [if_pos (show wq (bt f) ((wrd 29).drop 0) (f 446 3 + 0) = true from c3), if_pos ⟨c1, c2, c3⟩]
      · rw [if_neg (show ¬ wq (bt f) ((wrd 29).drop 0) (f 446 3 + 0) = true from c3), if_neg (fun q => c3 q.2.2)]
    · rw [if_neg (fun q => c2 q.2.1)]
      (first | (refine (veq c1).trans ?_) | (refine (vF_g rfl rfl).trans ?_; refine (vF_g rfl rfl).trans ?_; refine (veq c1).trans ?_) | (refine (vF_g rfl rfl).trans ?_; refine (veq c1).trans ?_))
      (first | (refine (vbnd_0 (v_len (by decide) (by decide))).trans ?_) | (refine (vF_g rfl rfl).trans ?_; refine (vF_g rfl rfl).trans ?_; refine (vbnd_0 (v_len (by decide) (by decide))).trans ?_) | (refine (vF_g rfl rfl).trans ?_; refine (vbnd_0 (v_len (by decide) (by decide))).trans ?_))
      (first | (refine (vne (x := f 446 4) (y := (wrd 29).length) hz (by omega) c2).trans ?_) | (refine (vF_g rfl rfl).trans ?_; refine (vF_g rfl rfl).trans ?_; refine (vne (x := f 446 4) (y := (wrd 29).length) hz (by omega) c2).trans ?_) | (refine (vF_g rfl rfl).trans ?_; refine (vne (x := f 446 4) (y := (wrd 29).length) hz (by omega) c2).trans ?_))
      (first | (exact rfl) | (refine (vF_g rfl rfl).trans ?_; refine (vF_g rfl rfl).trans ?_; exact rfl) | (refine (vF_g rfl rfl).trans ?_; refine (vF_g rfl rfl).trans ?_; refine (vF_g rfl rfl).trans ?_; exact rfl) | (refine (vF_g rfl rfl).trans ?_; exact rfl))
  · rw [if_neg (fun q => c1 q.1)]
    (first | (refine (vne (x := f 446 2) (y := 1) hk (by decide) c1).trans ?_) | (refine (vF_g rfl rfl).trans ?_; refine (vF_g rfl rfl).trans ?_; refine (vne (x := f 446 2) (y := 1) hk (by decide) c1).trans ?_) | (refine (vF_g rfl rfl).trans ?_; refine (vne (x := f 446 2) (y := 1) hk (by decide) c1).trans ?_))
    (first | (exact rfl) | (refine (vF_g rfl rfl).trans ?_; refine (vF_g rfl rfl).trans ?_; exact rfl) | (refine (vF_g rfl rfl).trans ?_; refine (vF_g rfl rfl).trans ?_; refine (vF_g rfl rfl).trans ?_; exact rfl) | (refine (vF_g rfl rfl).trans ?_; exact rfl))
theorem wi_loop_30 {D s : Nat} {f : Vw} (hn : f 1 1 ≤ 900) (hs : f 446 3 = s) (hs9 : s ≤ 900) : ∀ (m i F : Nat), i + m = (wrd 30).length → 3 * m + 3 ≤ F → vFn (vM MT0 (D + 1)) nb_X7_wordIs F 4 0 [vR 446, vW 30, vI i] [] f = some ((0, 0), vI (if wq (bt f) ((wrd 30).drop i) (s + i) = true then 1 else 0), f) := by
  have hl := wrd_len 30
  intro m
  induction m with
  | zero =>
    intro i F hi hF
    obtain ⟨F1, rfl⟩ : ∃ F1, F = F1 + 2 := ⟨F - 2, by omega⟩
    rw [List.drop_eq_nil_of_le (show (wrd 30).length ≤ i by omega), show wq (bt f) [] (s + i) = true from rfl, if_pos rfl]
    (first | (refine (vbnd_0 (v_len (by decide) (by decide))).trans ?_) | (refine (vF_g rfl rfl).trans ?_; refine (vF_g rfl rfl).trans ?_; refine (vbnd_0 (v_len (by decide) (by decide))).trans ?_) | (refine (vF_g rfl rfl).trans ?_; refine (vbnd_0 (v_len (by decide) (by decide))).trans ?_))
    (first | (refine (vge2 (x := i) (y := (wrd 30).length) (by omega) (by omega)).trans ?_) | (refine (vF_g rfl rfl).trans ?_; refine (vF_g rfl rfl).trans ?_; refine (vge2 (x := i) (y := (wrd 30).length) (by omega) (by omega)).trans ?_) | (refine (vF_g rfl rfl).trans ?_; refine (vge2 (x := i) (y := (wrd 30).length) (by omega) (by omega)).trans ?_))
    (first | (exact rfl) | (refine (vF_g rfl rfl).trans ?_; refine (vF_g rfl rfl).trans ?_; exact rfl) | (refine (vF_g rfl rfl).trans ?_; refine (vF_g rfl rfl).trans ?_; refine (vF_g rfl rfl).trans ?_; exact rfl) | (refine (vF_g rfl rfl).trans ?_; exact rfl))
  | succ m ih =>
    intro i F hi hF
    obtain ⟨F1, rfl⟩ : ∃ F1, F = F1 + 3 := ⟨F - 3, by omega⟩
    have hx : (f 446 3 + i) % 4294967296 = s + i := by rw [hs, Nat.mod_eq_of_lt (by omega)]
    rw [nthN_drop (wrd 30) i (by omega)]
    (first | (refine (vbnd_0 (v_len (by decide) (by decide))).trans ?_) | (refine (vF_g rfl rfl).trans ?_; refine (vF_g rfl rfl).trans ?_; refine (vbnd_0 (v_len (by decide) (by decide))).trans ?_) | (refine (vF_g rfl rfl).trans ?_; refine (vbnd_0 (v_len (by decide) (by decide))).trans ?_))
    (first | (refine (vlt (x := i) (y := (wrd 30).length) (by omega) (by omega)).trans ?_) | (refine (vF_g rfl rfl).trans ?_; refine (vF_g rfl rfl).trans ?_; refine (vlt (x := i) (y := (wrd 30).length) (by omega) (by omega)).trans ?_) | (refine (vF_g rfl rfl).trans ?_; refine (vlt (x := i) (y := (wrd 30).length) (by omega) (by omega)).trans ?_))
    (first | (refine (vbnd_0 (v_byteAt (i := (f 446 3 + i) % 4294967296) (f := f) (by rw [hx]; omega) hn)).trans ?_) | (refine (vF_g rfl rfl).trans ?_; refine (vF_g rfl rfl).trans ?_; refine (vbnd_0 (v_byteAt (i := (f 446 3 + i) % 4294967296) (f := f) (by rw [hx]; omega) hn)).trans ?_) | (refine (vF_g rfl rfl).trans ?_; refine (vbnd_0 (v_byteAt (i := (f 446 3 + i) % 4294967296) (f := f) (by rw [hx]; omega) hn)).trans ?_))
    (first | (refine (vbnd_0 (v_chr (i := i) (by decide) (by decide) (by omega))).trans ?_) | (refine (vF_g rfl rfl).trans ?_; refine (vF_g rfl rfl).trans ?_; refine (vbnd_0 (v_chr (i := i) (by decide) (by decide) (by omega))).trans ?_) | (refine (vF_g rfl rfl).trans ?_; refine (vbnd_0 (v_chr (i := i) (by decide) (by decide) (by omega))).trans ?_))
    rw [hx]
    by_cases q : bt f (s + i) = nthN (wrd 30) 0 i
    · rw [show wq (bt f) (nthN (wrd 30) 0 i :: (wrd 30).drop (i + 1)) (s + i) = wq (bt f) ((wrd 30).drop (i + 1)) (s + i + 1) from if_pos q]
      (first | (refine (veq q).trans ?_) | (refine (vF_g rfl rfl).trans ?_; refine (vF_g rfl rfl).trans ?_; refine (veq q).trans ?_) | (refine (vF_g rfl rfl).trans ?_; refine (veq q).trans ?_))
      (first | (refine Eq.trans (b := vFn (vM MT0 (D + 1)) nb_X7_wordIs F1 4 0 [vR 446, vW 30, vI ((i + 1) % 4294967296)] [] f) rfl ?_) | (refine (vF_g rfl rfl).trans ?_; refine (vF_g rfl rfl).trans ?_; refine Eq.trans (b := vFn (vM MT0 (D + 1)) nb_X7_wordIs F1 4 0 [vR 446, vW 30, vI ((i + 1) % 4294967296)] [] f) rfl ?_) | (refine (vF_g rfl rfl).trans ?_; refine Eq.trans (b := vFn (vM MT0 (D + 1)) nb_X7_wordIs F1 4 0 [vR 446, vW 30, vI ((i + 1) % 4294967296)] [] f) rfl ?_))
      rw [Nat.mod_eq_of_lt (show i + 1 < 4294967296 by omega)]
      exact ih (i + 1) F1 (by omega) (by omega)
    · rw [show wq (bt f) (nthN (wrd 30) 0 i :: (wrd 30).drop (i + 1)) (s + i) = false from if_neg q, if_neg (by decide)]
      (first | (refine (vne (x := bt f (s + i)) (y := nthN (wrd 30) 0 i) (bt_l32 _ _) (by have := wrd_lt 30 i; omega) q).trans ?_) | (refine (vF_g rfl rfl).trans ?_; refine (vF_g rfl rfl).trans ?_; refine (vne (x := bt f (s + i)) (y := nthN (wrd 30) 0 i) (bt_l32 _ _) (by have := wrd_lt 30 i; omega) q).trans ?_) | (refine (vF_g rfl rfl).trans ?_; refine (vne (x := bt f (s + i)) (y := nthN (wrd 30) 0 i) (bt_l32 _ _) (by have := wrd_lt 30 i; omega) q).trans ?_))
      (first | (exact rfl) | (refine (vF_g rfl rfl).trans ?_; refine (vF_g rfl rfl).trans ?_; exact rfl) | (refine (vF_g rfl rfl).trans ?_; refine (vF_g rfl rfl).trans ?_; refine (vF_g rfl rfl).trans ?_; exact rfl) | (refine (vF_g rfl rfl).trans ?_; exact rfl))
theorem v_wordIs_30 {D : Nat} {f : Vw} (hn : f 1 1 ≤ 900) (hs : f 446 3 ≤ 900) (hk : f 446 2 < 4294967296) (hz : f 446 4 < 4294967296) : vM MT0 (D + 2) 49 [vR 446, vW 30] f = some ((0, 0), vI (if f 446 2 = 1 ∧ f 446 4 = (wrd 30).length ∧ wq (bt f) (wrd 30) (f 446 3) = true then 1 else 0), f) := by
  have hl := wrd_len 30
  refine vM_go rfl rfl rfl rfl fun F hF => ?_
  by_cases c1 : f 446 2 = 1
  · by_cases c2 : f 446 4 = (wrd 30).length
    · (first | (refine (veq c1).trans ?_) | (refine (vF_g rfl rfl).trans ?_; refine (vF_g rfl rfl).trans ?_; refine (veq c1).trans ?_) | (refine (vF_g rfl rfl).trans ?_; refine (veq c1).trans ?_))
      (first | (refine (vbnd_0 (v_len (by decide) (by decide))).trans ?_) | (refine (vF_g rfl rfl).trans ?_; refine (vF_g rfl rfl).trans ?_; refine (vbnd_0 (v_len (by decide) (by decide))).trans ?_) | (refine (vF_g rfl rfl).trans ?_; refine (vbnd_0 (v_len (by decide) (by decide))).trans ?_))
      (first | (refine (veq c2).trans ?_) | (refine (vF_g rfl rfl).trans ?_; refine (vF_g rfl rfl).trans ?_; refine (veq c2).trans ?_) | (refine (vF_g rfl rfl).trans ?_; refine (veq c2).trans ?_))
      (first | (refine Eq.trans (b := vFn (vM MT0 (D + 1)) nb_X7_wordIs (F + 57) 4 0 [vR 446, vW 30, vI 0] [] f) rfl ?_) | (refine (vF_g rfl rfl).trans ?_; refine (vF_g rfl rfl).trans ?_; refine Eq.trans (b := vFn (vM MT0 (D + 1)) nb_X7_wordIs (F + 57) 4 0 [vR 446, vW 30, vI 0] [] f) rfl ?_) | (refine (vF_g rfl rfl).trans ?_; refine Eq.trans (b := vFn (vM MT0 (D + 1)) nb_X7_wordIs (F + 57) 4 0 [vR 446, vW 30, vI 0] [] f) rfl ?_))
      rw [wi_loop_30 hn rfl hs (wrd 30).length 0 (F + 57) (by omega) (by omega)]
      by_cases c3 : wq (bt f) (wrd 30) (f 446 3) = true
      · rw [if_pos (show wq (bt f) ((wrd 30).drop 0) (f 446 3 + 0) = true from c3), if_pos ⟨c1, c2, c3⟩]
      · rw [if_neg (show ¬ wq (bt f) ((wrd 30).drop 0) (f 446 3 + 0) = true from c3), if_neg (fun q => c3 q.2.2)]
    · rw [if_neg (fun q => c2 q.2.1)]
      (first | (refine (veq c1).trans ?_) | (refine (vF_g rfl rfl).trans ?_; refine (vF_g rfl rfl).trans ?_; refine (veq c1).trans ?_) | (refine (vF_g rfl rfl).trans ?_; refine (veq c1).trans ?_))
      (first | (refine (vbnd_0 (v_len (by decide) (by decide))).trans ?_) | (refine (vF_g rfl rfl).trans ?_; refine (vF_g rfl rfl).trans ?_; refine (vbnd_0 (v_len (by decide) (by decide))).trans ?_) | (refine (vF_g rfl rfl).trans ?_; refine (vbnd_0 (v_len (by decide) (by decide))).trans ?_))
      (first | (refine (vne (x := f 446 4) (y := (wrd 30).length) hz (by omega) c2).trans ?_) | (refine (vF_g rfl rfl).trans ?_; refine (vF_g rfl rfl).trans ?_; refine (vne (x := f 446 4) (y := (wrd 30).length) hz (by omega) c2).trans ?_) | (refine (vF_g rfl rfl).trans ?_; refine (vne (x := f 446 4) (y := (wrd 30).length) hz (by omega) c2).trans ?_))
      (first | (exact rfl) | (refine (vF_g rfl rfl).trans ?_; refine (vF_g rfl rfl).trans ?_; exact rfl) | (refine (vF_g rfl rfl).trans ?_; refine (vF_g rfl rfl).trans ?_; refine (vF_g rfl rfl).trans ?_; exact rfl) | (refine (vF_g rfl rfl).trans ?_; exact rfl))
  · rw [if_neg (fun q => c1 q.1)]
    (first | (refine (vne (x := f 446 2) (y := 1) hk (by decide) c1).trans ?_) | (refine (vF_g rfl rfl).trans ?_; refine (vF_g rfl rfl).trans ?_; refine (vne (x := f 446 2) (y := 1) hk (by decide) c1).trans ?_) | (refine (vF_g rfl rfl).trans ?_; refine (vne (x := f 446 2) (y := 1) hk (by decide) c1).trans ?_))
    (first | (exact rfl) | (refine (vF_g rfl rfl).trans ?_; refine (vF_g rfl rfl).trans ?_; exact rfl) | (refine (vF_g rfl rfl).trans ?_; refine (vF_g rfl rfl).trans ?_; refine (vF_g rfl rfl).trans ?_; exact rfl) | (refine (vF_g rfl rfl).trans ?_; exact rfl))
theorem v_wordIs {D w : Nat} {f : Vw} (h1 : 20 ≤ w) (h2 : w ≤ 30) (hn : f 1 1 ≤ 900) (hs : f 446 3 ≤ 900) (hk : f 446 2 < 4294967296) (hz : f 446 4 < 4294967296) : vM MT0 (D + 2) 49 [vR 446, vW w] f = some ((0, 0), vI (if f 446 2 = 1 ∧ f 446 4 = (wrd w).length ∧ wq (bt f) (wrd w) (f 446 3) = true then 1 else 0), f) := by
  rcases (show w = 20 ∨ w = 21 ∨ w = 22 ∨ w = 23 ∨ w = 24 ∨ w = 25 ∨ w = 26 ∨ w = 27 ∨ w = 28 ∨ w = 29 ∨ w = 30 by omega) with rfl | rfl | rfl | rfl | rfl | rfl | rfl | rfl | rfl | rfl | rfl
  · exact v_wordIs_20 hn hs hk hz
  · exact v_wordIs_21 hn hs hk hz
  · exact v_wordIs_22 hn hs hk hz
  · exact v_wordIs_23 hn hs hk hz
  · exact v_wordIs_24 hn hs hk hz
  · exact v_wordIs_25 hn hs hk hz
  · exact v_wordIs_26 hn hs hk hz
  · exact v_wordIs_27 hn hs hk hz
  · exact v_wordIs_28 hn hs hk hz
  · exact v_wordIs_29 hn hs hk hz
  · exact v_wordIs_30 hn hs hk hz
/-- an error told -/
noncomputable def fl (c : Nat) (f : Vw) : Vw := vup (vup f 446 6 c) 446 7 (f 446 3)
theorem v_fail9 {D c : Nat} {f : Vw} : vM MT0 (D + 1) 46 [vR 446, vI c] f = some ((0, 0), vI 0, fl c f) := by
  have e : vup f 446 6 c 446 3 = f 446 3 := vup_ne (Or.inr (by decide))
  unfold fl
  rw [← e]
  exact v_fail
theorem v_checkNumber {D lo hi : Nat} {f : Vw} (hk : f 446 2 < 4294967296) (hz : f 446 4 < 2147483648) (hv : f 446 2 = 2 → f 446 4 ≤ 4 → f 446 5 < 2147483648) (hlo : lo < 2147483648) (hhi : hi < 2147483648) : vM MT0 (D + 2) 56 [vR 446, vI lo, vI hi] f = if f 446 2 = 2 ∧ f 446 4 ≤ 4 then (if lo ≤ f 446 5 ∧ f 446 5 ≤ hi then some ((0, 0), vI 1, f) else some ((0, 0), vI 0, fl 2 f)) else some ((0, 0), vI 0, fl 1 f) := by
  refine vM_go rfl rfl rfl rfl fun F hF => ?_
  by_cases c1 : f 446 2 = 2
  · by_cases c2 : f 446 4 ≤ 4
    · have hv := hv c1 c2
      rw [if_pos ⟨c1, c2⟩]
      by_cases c3 : lo ≤ f 446 5
      · by_cases c4 : f 446 5 ≤ hi
        · rw [if_pos ⟨c3, c4⟩]
          (first | (refine (veq c1).trans ?_) | (refine (vF_g rfl rfl).trans ?_; refine (vF_g rfl rfl).trans ?_; refine (veq c1).trans ?_) | (refine (vF_g rfl rfl).trans ?_; refine (veq c1).trans ?_))
          (first | (refine (vle2 (x := f 446 4) (y := 4) (by decide) c2).trans ?_) | (refine (vF_g rfl rfl).trans ?_; refine (vF_g rfl rfl).trans ?_; refine (vle2 (x := f 446 4) (y := 4) (by decide) c2).trans ?_) | (refine (vF_g rfl rfl).trans ?_; refine (vle2 (x := f 446 4) (y := 4) (by decide) c2).trans ?_))
          (first | (refine (vge2 (x := f 446 5) (y := lo) hv c3).trans ?_) | (refine (vF_g rfl rfl).trans ?_; refine (vF_g rfl rfl).trans ?_; refine (vge2 (x := f 446 5) (y := lo) hv c3).trans ?_) | (refine (vF_g rfl rfl).trans ?_; refine (vge2 (x := f 446 5) (y := lo) hv c3).trans ?_))
          (first | (refine (vle2 (x := f 446 5) (y := hi) hhi c4).trans ?_) | (refine (vF_g rfl rfl).trans ?_; refine (vF_g rfl rfl).trans ?_; refine (vle2 (x := f 446 5) (y := hi) hhi c4).trans ?_) | (refine (vF_g rfl rfl).trans ?_; refine (vle2 (x := f 446 5) (y := hi) hhi c4).trans ?_))
          (first | (exact rfl) | (refine (vF_g rfl rfl).trans ?_; refine (vF_g rfl rfl).trans ?_; exact rfl) | (refine (vF_g rfl rfl).trans ?_; refine (vF_g rfl rfl).trans ?_; refine (vF_g rfl rfl).trans ?_; exact rfl) | (refine (vF_g rfl rfl).trans ?_; exact rfl))
        · rw [if_neg (fun q => c4 q.2)]
          (first | (refine (veq c1).trans ?_) | (refine (vF_g rfl rfl).trans ?_; refine (vF_g rfl rfl).trans ?_; refine (veq c1).trans ?_) | (refine (vF_g rfl rfl).trans ?_; refine (veq c1).trans ?_))
          (first | (refine (vle2 (x := f 446 4) (y := 4) (by decide) c2).trans ?_) | (refine (vF_g rfl rfl).trans ?_; refine (vF_g rfl rfl).trans ?_; refine (vle2 (x := f 446 4) (y := 4) (by decide) c2).trans ?_) | (refine (vF_g rfl rfl).trans ?_; refine (vle2 (x := f 446 4) (y := 4) (by decide) c2).trans ?_))
          (first | (refine (vge2 (x := f 446 5) (y := lo) hv c3).trans ?_) | (refine (vF_g rfl rfl).trans ?_; refine (vF_g rfl rfl).trans ?_; refine (vge2 (x := f 446 5) (y := lo) hv c3).trans ?_) | (refine (vF_g rfl rfl).trans ?_; refine (vge2 (x := f 446 5) (y := lo) hv c3).trans ?_))
          (first | (refine (vgt (x := f 446 5) (y := hi) hv (by omega)).trans ?_) | (refine (vF_g rfl rfl).trans ?_; refine (vF_g rfl rfl).trans ?_; refine (vgt (x := f 446 5) (y := hi) hv (by omega)).trans ?_) | (refine (vF_g rfl rfl).trans ?_; refine (vgt (x := f 446 5) (y := hi) hv (by omega)).trans ?_))
          (first | (refine (vbnd_0 v_fail9).trans ?_) | (refine (vF_g rfl rfl).trans ?_; refine (vF_g rfl rfl).trans ?_; refine (vbnd_0 v_fail9).trans ?_) | (refine (vF_g rfl rfl).trans ?_; refine (vbnd_0 v_fail9).trans ?_))
          (first | (refine (veq (x := 0) (y := 0) rfl).trans ?_) | (refine (vF_g rfl rfl).trans ?_; refine (vF_g rfl rfl).trans ?_; refine (veq (x := 0) (y := 0) rfl).trans ?_) | (refine (vF_g rfl rfl).trans ?_; refine (veq (x := 0) (y := 0) rfl).trans ?_))
          (first | (exact rfl) | (refine (vF_g rfl rfl).trans ?_; refine (vF_g rfl rfl).trans ?_; exact rfl) | (refine (vF_g rfl rfl).trans ?_; refine (vF_g rfl rfl).trans ?_; refine (vF_g rfl rfl).trans ?_; exact rfl) | (refine (vF_g rfl rfl).trans ?_; exact rfl))
      · rw [if_neg (fun q => c3 q.1)]
        (first | (refine (veq c1).trans ?_) | (refine (vF_g rfl rfl).trans ?_; refine (vF_g rfl rfl).trans ?_; refine (veq c1).trans ?_) | (refine (vF_g rfl rfl).trans ?_; refine (veq c1).trans ?_))
        (first | (refine (vle2 (x := f 446 4) (y := 4) (by decide) c2).trans ?_) | (refine (vF_g rfl rfl).trans ?_; refine (vF_g rfl rfl).trans ?_; refine (vle2 (x := f 446 4) (y := 4) (by decide) c2).trans ?_) | (refine (vF_g rfl rfl).trans ?_; refine (vle2 (x := f 446 4) (y := 4) (by decide) c2).trans ?_))
        (first | (refine (vlt (x := f 446 5) (y := lo) hlo (by omega)).trans ?_) | (refine (vF_g rfl rfl).trans ?_; refine (vF_g rfl rfl).trans ?_; refine (vlt (x := f 446 5) (y := lo) hlo (by omega)).trans ?_) | (refine (vF_g rfl rfl).trans ?_; refine (vlt (x := f 446 5) (y := lo) hlo (by omega)).trans ?_))
        (first | (refine (vbnd_0 v_fail9).trans ?_) | (refine (vF_g rfl rfl).trans ?_; refine (vF_g rfl rfl).trans ?_; refine (vbnd_0 v_fail9).trans ?_) | (refine (vF_g rfl rfl).trans ?_; refine (vbnd_0 v_fail9).trans ?_))
        (first | (refine (veq (x := 0) (y := 0) rfl).trans ?_) | (refine (vF_g rfl rfl).trans ?_; refine (vF_g rfl rfl).trans ?_; refine (veq (x := 0) (y := 0) rfl).trans ?_) | (refine (vF_g rfl rfl).trans ?_; refine (veq (x := 0) (y := 0) rfl).trans ?_))
        (first | (exact rfl) | (refine (vF_g rfl rfl).trans ?_; refine (vF_g rfl rfl).trans ?_; exact rfl) | (refine (vF_g rfl rfl).trans ?_; refine (vF_g rfl rfl).trans ?_; refine (vF_g rfl rfl).trans ?_; exact rfl) | (refine (vF_g rfl rfl).trans ?_; exact rfl))
    · rw [if_neg (fun q => c2 q.2)]
      (first | (refine (veq c1).trans ?_) | (refine (vF_g rfl rfl).trans ?_; refine (vF_g rfl rfl).trans ?_; refine (veq c1).trans ?_) | (refine (vF_g rfl rfl).trans ?_; refine (veq c1).trans ?_))
      (first | (refine (vgt (x := f 446 4) (y := 4) hz (by omega)).trans ?_) | (refine (vF_g rfl rfl).trans ?_; refine (vF_g rfl rfl).trans ?_; refine (vgt (x := f 446 4) (y := 4) hz (by omega)).trans ?_) | (refine (vF_g rfl rfl).trans ?_; refine (vgt (x := f 446 4) (y := 4) hz (by omega)).trans ?_))
      (first | (refine (vbnd_0 v_fail9).trans ?_) | (refine (vF_g rfl rfl).trans ?_; refine (vF_g rfl rfl).trans ?_; refine (vbnd_0 v_fail9).trans ?_) | (refine (vF_g rfl rfl).trans ?_; refine (vbnd_0 v_fail9).trans ?_))
      (first | (exact rfl) | (refine (vF_g rfl rfl).trans ?_; refine (vF_g rfl rfl).trans ?_; exact rfl) | (refine (vF_g rfl rfl).trans ?_; refine (vF_g rfl rfl).trans ?_; refine (vF_g rfl rfl).trans ?_; exact rfl) | (refine (vF_g rfl rfl).trans ?_; exact rfl))
  · rw [if_neg (fun q => c1 q.1)]
    (first | (refine (vne (x := f 446 2) (y := 2) hk (by decide) c1).trans ?_) | (refine (vF_g rfl rfl).trans ?_; refine (vF_g rfl rfl).trans ?_; refine (vne (x := f 446 2) (y := 2) hk (by decide) c1).trans ?_) | (refine (vF_g rfl rfl).trans ?_; refine (vne (x := f 446 2) (y := 2) hk (by decide) c1).trans ?_))
    (first | (refine (vbnd_0 v_fail9).trans ?_) | (refine (vF_g rfl rfl).trans ?_; refine (vF_g rfl rfl).trans ?_; refine (vbnd_0 v_fail9).trans ?_) | (refine (vF_g rfl rfl).trans ?_; refine (vbnd_0 v_fail9).trans ?_))
    (first | (exact rfl) | (refine (vF_g rfl rfl).trans ?_; refine (vF_g rfl rfl).trans ?_; exact rfl) | (refine (vF_g rfl rfl).trans ?_; refine (vF_g rfl rfl).trans ?_; refine (vF_g rfl rfl).trans ?_; exact rfl) | (refine (vF_g rfl rfl).trans ?_; exact rfl))
